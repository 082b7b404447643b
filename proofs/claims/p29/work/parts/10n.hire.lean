/-! ===== PURE 13: hires ===== -/
theorem rng1 {W : xV} {x : Int32} (h1 : ¬ W 0 4 < x) (h2 : ¬ 364 < W 0 4) (h3 : ¬ W 0 2 < 0) (h4 : ¬ W 0 3 ≤ W 0 2) (h5 : ¬ 24 < W 0 3) (h6 : ¬ W 0 5 < 1) (h7 : ¬ 20 < W 0 5) (h8 : ¬ W 0 6 < 1) (h9 : ¬ 60 < W 0 6) : f_X6_isInRange W x = some 1 := by
  unfold f_X6_isInRange
  rw [if_neg h1, if_neg h2, if_neg h3, if_neg h4, if_neg h5, if_neg h6, if_neg h7, if_neg h8, if_neg h9]
theorem ite_0 {c : Prop} [Decidable c] {x : Option Int32} (h : ¬ c → x = some 0) : (if c then some 0 else x) = some 0 := by
  by_cases k : c
  · rw [if_pos k]
  · rw [if_neg k, h k]
theorem rng0 {W : xV} {x : Int32} (h : W 0 4 < x ∨ 364 < W 0 4 ∨ W 0 2 < 0 ∨ W 0 3 ≤ W 0 2 ∨ 24 < W 0 3 ∨ W 0 5 < 1 ∨ 20 < W 0 5 ∨ W 0 6 < 1 ∨ 60 < W 0 6) : f_X6_isInRange W x = some 0 := by
  unfold f_X6_isInRange
  refine ite_0 fun h1 => ite_0 fun h2 => ite_0 fun h3 => ite_0 fun h4 => ite_0 fun h5 => ite_0 fun h6 => ite_0 fun h7 => ite_0 fun h8 => ?_
  rcases h with h | h | h | h | h | h | h | h | h
  · exact absurd h h1
  · exact absurd h h2
  · exact absurd h h3
  · exact absurd h h4
  · exact absurd h h5
  · exact absurd h h6
  · exact absurd h h7
  · exact absurd h h8
  · exact if_pos h
theorem hours_or (p : Int32) : (∃ f t, ¬ p < 0 ∧ p / 100 = nI f ∧ p - p / 100 * 100 = nI t ∧ f < t ∧ t ≤ 24 ∧ f_X8_areHours p = some 1) ∨ (f_X8_areHours p = some 0 ∧ (p < 0 ∨ (¬ p < 0 ∧ (p - p / 100 * 100 ≤ p / 100 ∨ 24 < p - p / 100 * 100)))) := by
  unfold f_X8_areHours
  by_cases h0 : p < 0
  · exact Or.inr ⟨by rw [if_pos h0], Or.inl h0⟩
  · obtain ⟨q, hq, rfl⟩ := nI_of h0
    have e1 : nI q / 100 = nI (q / 100) := pk_div hq (by decide) (by decide)
    have e2 : nI q - nI q / 100 * 100 = nI (q % 100) := pk_rem hq (by decide) (by decide)
    rw [e2, e1, if_neg h0]
    by_cases h1 : nI (q % 100) ≤ nI (q / 100)
    · exact Or.inr ⟨by rw [if_pos h1], Or.inr ⟨h0, Or.inl h1⟩⟩
    · by_cases h2 : 24 < nI (q % 100)
      · exact Or.inr ⟨by rw [if_neg h1, if_pos h2], Or.inr ⟨h0, Or.inr h2⟩⟩
      · refine Or.inl ⟨q / 100, q % 100, h0, rfl, rfl, ?_, ?_, by rw [if_neg h1, if_neg h2]⟩
        · rcases Nat.lt_or_ge (q / 100) (q % 100) with z | z
          · exact z
          · exact absurd (nI_le z (by omega)) h1
        · rcases Nat.lt_or_ge 24 (q % 100) with z | z
          · exact absurd (show (24 : Int32) < nI (q % 100) from nI_lt (a := 24) z (by omega)) h2
          · exact z
theorem takeH (wv : xV) (p : Int32) : ∃ F T, f_X6_takeHours wv p = some (upd2 (upd2 wv 0 2 F) 0 3 T) ∧ (p < 0 → F = -1 ∧ T = -1) ∧ (¬ p < 0 → F = p / 100 ∧ T = p - p / 100 * 100) := by
  unfold f_X6_takeHours
  by_cases h : p < 0
  · refine ⟨-1, -1, ?_, fun _ => ⟨rfl, rfl⟩, fun z => absurd h z⟩
    rw [if_neg (fa_of_lt h).2.1, xls, if_neg (fa_of_lt h).2.1, xls]
  · refine ⟨p / 100, p - p / 100 * 100, ?_, fun z => absurd z h, fun _ => ⟨rfl, rfl⟩⟩
    rw [if_pos (fa_of_nlt h), xls, if_pos (fa_of_nlt h), xls]
section
variable {v M hv : xV} {kv : Nat → xV}
theorem s_price (r : RB v (M 1)) (dv wv : xV) (p1 p2 p3 : Int32) : ∃ a wv', f_X7_price dv v wv p1 p2 p3 = some (a, wv') ∧ f_X8_price M p1 p2 p3 = some a := by
  unfold f_X7_price f_X8_price f_X6_takeSeries
  obtain ⟨F, T, e1, e2, e3⟩ := takeH (upd2 wv 0 1 p1) p2
  rw [xls, e1, xbs]
  simp only [xls, xbs]
  obtain ⟨W, hW⟩ : ∃ x, x = upd2 (upd2 (upd2 (upd2 (upd2 (upd2 wv 0 1 p1) 0 2 F) 0 3 T) 0 4 0) 0 5 p3) 0 6 1 := ⟨_, rfl⟩
  rw [← hW]
  have w1 : W 0 1 = p1 := by rw [hW, u2j _ _ (by decide), u2j _ _ (by decide), u2j _ _ (by decide), u2j _ _ (by decide), u2j _ _ (by decide), u2s]
  have w2 : W 0 2 = F := by rw [hW, u2j _ _ (by decide), u2j _ _ (by decide), u2j _ _ (by decide), u2j _ _ (by decide), u2s]
  have w3 : W 0 3 = T := by rw [hW, u2j _ _ (by decide), u2j _ _ (by decide), u2j _ _ (by decide), u2s]
  have w4 : W 0 4 = 0 := by rw [hW, u2j _ _ (by decide), u2j _ _ (by decide), u2s]
  have w5 : W 0 5 = p3 := by rw [hW, u2j _ _ (by decide), u2s]
  have w6 : W 0 6 = 1 := by rw [hW, u2s]
  rcases c_rooms p1 with ⟨j, h3, h4, rfl, e4, e5⟩ | ⟨e4, e5⟩
  · rw [e4, xbs, i10, e5, xbs, i10]
    rcases hours_or p2 with ⟨f, t, h0, hf, ht, hft, ht24, e6⟩ | ⟨e6, h0⟩
    · obtain ⟨k1, k2⟩ := e3 h0
      rw [hf] at k1
      rw [ht] at k2
      rw [k1] at w2
      rw [k2] at w3
      rw [e6, xbs, i10]
      rcases m_rng 1 20 p3 (A := 1) (B := 20) rfl rfl (by decide) (by decide) with ⟨n, h5, h6, rfl, e7⟩ | ⟨h, e7⟩
      · rw [e7, xbs, i10, rng1 (by rw [w4]; decide) (by rw [w4]; decide) (by rw [w2]; exact nI_pos (by omega)) (by rw [w2, w3]; exact nI_ge hft (by omega)) (by rw [w3]; exact nI_nlt (a := 24) ht24 (by decide)) (by rw [w5]; exact nI_nlt (b := 1) h5 (by omega)) (by rw [w5]; exact nI_nlt (a := 20) h6 (by decide)) (by rw [w6]; decide) (by rw [w6]; decide), xbs, i10, c_priceOf r w2 w3 w5 hft ht24 h6, xbs, w1, m_priceOf M hf ht rfl hft ht24 h6, xbs]
        exact ⟨_, _, rfl, rfl⟩
      · rw [e7, xbs, i00, rng0 ?_, xbs, i00]
        · exact ⟨_, _, rfl, rfl⟩
        · rw [w5]
          rcases h with h | h
          · exact Or.inr (Or.inr (Or.inr (Or.inr (Or.inr (Or.inl h)))))
          · exact Or.inr (Or.inr (Or.inr (Or.inr (Or.inr (Or.inr (Or.inl h))))))
    · rw [e6, xbs, i00, rng0 ?_, xbs, i00]
      · exact ⟨_, _, rfl, rfl⟩
      · rcases h0 with h0 | ⟨h0, h1⟩
        · obtain ⟨k1, k2⟩ := e2 h0
          rw [w2, k1]
          exact Or.inr (Or.inr (Or.inl (by decide)))
        · obtain ⟨k1, k2⟩ := e3 h0
          rw [w2, w3, k1, k2]
          rcases h1 with h1 | h1
          · exact Or.inr (Or.inr (Or.inr (Or.inl h1)))
          · exact Or.inr (Or.inr (Or.inr (Or.inr (Or.inl h1))))
  · rw [e4, xbs, i00, e5, xbs, i00]
    exact ⟨_, _, rfl, rfl⟩
/-- a new hire, money apart -/
theorem RB.new {v v' : xV} {w w' : Nat → Int32} (r : RB v w) {m b ro f t n d p dep : Nat} {P : Int32} (hm : cN w 10 = m) (hm12 : m < 12) (hb : b < cN w 9) (hr1 : 1 ≤ ro) (hr7 : ro ≤ 7) (hft : f < t) (ht : t ≤ 24) (hn1 : 1 ≤ n) (hn : n ≤ 20) (hp1 : 1 ≤ p) (hp : p ≤ 60) (hl : d + (n - 1) * p ≤ 364) (hdep : dep ≤ 50000)
    (hw : ∀ c, c ≠ 10 → (c < 52 + 64 * m ∨ 52 + 64 * m + 64 ≤ c) → w' c = w c) (h10 : w' 10 = nI (m + 1)) (c0 : w' (52 + 64 * m + 0) = nI b) (c1 : w' (52 + 64 * m + 1) = nI ro) (c2 : w' (52 + 64 * m + 2) = nI f) (c3 : w' (52 + 64 * m + 3) = nI t) (c4 : w' (52 + 64 * m + 4) = nI n) (c5 : w' (52 + 64 * m + 5) = nI d) (c6 : w' (52 + 64 * m + 6) = nI p) (c7 : w' (52 + 64 * m + 7) = P) (c8 : w' (52 + 64 * m + 8) = dcI n) (c9 : w' (52 + 64 * m + 9) = nI dep) (cz : ∀ k, 10 ≤ k → k < 64 → w' (52 + 64 * m + k) = 0)
    (hv : ∀ k, k ≠ 0 → k ≠ 6 + 2 * m → v' k = v k) (v00 : v' 0 0 = v 0 0) (v01 : v' 0 1 = v 0 1) (v02 : v' 0 2 = nI (m + 1)) (g0 : v' (6 + 2 * m) 0 = v (6 + 2 * m) 0) (g1 : v' (6 + 2 * m) 1 = nI b) (g2 : v' (6 + 2 * m) 2 = nI ro) (g3 : v' (6 + 2 * m) 3 = nI f) (g4 : v' (6 + 2 * m) 4 = nI t) (g5 : v' (6 + 2 * m) 5 = nI n) (g6 : v' (6 + 2 * m) 6 = nI d) (g7 : v' (6 + 2 * m) 7 = nI p) (g8 : v' (6 + 2 * m) 8 = P) (g11 : v' (6 + 2 * m) 11 = nI dep) (gz : ∀ k, k = 9 ∨ k = 10 ∨ k = 12 ∨ k = 13 → v' (6 + 2 * m) k = v (6 + 2 * m) k) : RB v' w' := by
  have re := r.e (show cN w 10 ≤ m by omega) hm12
  obtain ⟨⟨q1, q2, q3, q4, q5, q6, q7, q8, q9⟩, ⟨s1, s2⟩, ⟨r1, r2, r3⟩, r4, r5, r6, r7, r8, r9⟩ := r
  have cc : ∀ c, c ≠ 10 → c < 52 → cN w' c = cN w c := fun c h1 h2 => cN_cong (hw c h1 (Or.inl (by omega)))
  have c10 : cN w' 10 = m + 1 := cN_of h10 (by omega)
  have hst : ∀ k, k < 20 → hN w' m (12 + k) = 0 := fun k hk => hN_of (n := 0) (cz _ (by omega) (by omega)) (by decide)
  have h11 : hN w' m 11 = 0 := hN_of (n := 0) (cz 11 (by decide) (by decide)) (by decide)
  have e0 : hN w' m 0 = b := hN_of c0 (by omega)
  have e1 : hN w' m 1 = ro := hN_of c1 (by omega)
  have e2 : hN w' m 2 = f := hN_of c2 (by omega)
  have e3 : hN w' m 3 = t := hN_of c3 (by omega)
  have e4 : hN w' m 4 = n := hN_of c4 (by omega)
  have e5 : hN w' m 5 = d := hN_of c5 (by omega)
  have e6 : hN w' m 6 = p := hN_of c6 (by omega)
  have e9 : hN w' m 9 = dep := hN_of c9 (by omega)
  have gm : GH w' m := by
    unfold GH
    rw [e0, e1, e2, e3, e4, e5, e6, e9, h11, cc 9 (by decide) (by decide)]
    refine ⟨fun k hk => ?_, hb, hr1, hr7, hft, ht, hn1, hn, hp1, hp, hl, c8, c9, hdep, Or.inl (cz 10 (by decide) (by decide)), cz 11 (by decide) (by decide), by decide, fun k hk => ?_⟩
    · rcases (show k = 0 ∨ k = 1 ∨ k = 2 ∨ k = 3 ∨ k = 4 ∨ k = 5 ∨ k = 6 by omega) with rfl | rfl | rfl | rfl | rfl | rfl | rfl
      · rw [c0, e0]
      · rw [c1, e1]
      · rw [c2, e2]
      · rw [c3, e3]
      · rw [c4, e4]
      · rw [c5, e5]
      · rw [c6, e6]
    · rw [hst k (by omega), cz _ (by omega) (by omega)]
      exact ⟨rfl, by decide, fun z => by cases z⟩
  have hm' : RH v' w' m := by
    have sz : ∀ s, s ≠ 0 → ∀ k, k < 20 → false = sB w' m s k := fun s hs k hk => by
      unfold sB
      rw [hst k hk]
      simp [Ne.symm hs]
    refine ⟨⟨by rw [g1, c0], by rw [g2, c1], by rw [g3, c2], by rw [g4, c3], by rw [g5, c4], by rw [g6, c5], by rw [g7, c6], by rw [g8, c7]⟩, ⟨by rw [g11, c9], ?_, ?_⟩, ?_, ?_, fun c hc => ?_⟩
    · rw [gz 12 (by decide), re.2 12 (by decide) (by decide), cz 11 (by decide) (by decide)]
    · rw [gz 13 (by decide), re.2 13 (by decide) (by decide), cz 10 (by decide) (by decide)]
    · rw [gz 9 (by decide), re.2 9 (by decide) (by decide)]
      exact bm_cong bm_0 (sz 1 (by decide))
    · rw [gz 10 (by decide), re.2 10 (by decide) (by decide)]
      exact bm_cong bm_0 (sz 2 (by decide))
    · rw [h11] at hc
      exact absurd hc (Nat.not_lt_zero _)
  have old : ∀ j, j < m → ∀ k, k < 64 → w' (52 + 64 * j + k) = w (52 + 64 * j + k) := fun j hj k hk => hw _ (by omega) (by omega)
  refine ⟨⟨?_, ?_, ⟨by rw [c10, h10], by rw [c10]; omega⟩, ?_, ?_, ?_, ?_, fun j hj => ?_, fun j hj => ?_⟩, ⟨fun j hj => ?_, fun j hj => ?_⟩, ⟨?_, ?_, by rw [v02, h10]⟩, fun j hj => ?_, fun j hj => ?_, fun j hj => ?_, fun j hj => ?_, fun j hj => ?_, fun j h1 h2 => ?_⟩
  · rw [hw 0 (by decide) (by omega), cc 0 (by decide) (by decide)]; exact q1
  · rw [hw 9 (by decide) (by omega), cc 9 (by decide) (by decide)]; exact q2
  · rw [hw 5 (by decide) (by omega), cc 5 (by decide) (by decide)]; exact q4
  · rw [hw 6 (by decide) (by omega), cc 6 (by decide) (by decide)]; exact q5
  · rw [hw 7 (by decide) (by omega), cc 7 (by decide) (by decide)]; exact q6
  · rw [hw 8 (by decide) (by omega), cc 8 (by decide) (by decide)]; exact q7
  · rw [c10] at hj
    by_cases e : j = m
    · subst e; exact gm
    · exact (q8 j (by omega)).cong (fun k hk => old j (by omega) k (by omega)) (by rw [cc 9 (by decide) (by decide)]; exact Nat.le_refl _) (by rw [cc 0 (by decide) (by decide)]; exact Nat.le_refl _)
  · exact (q9 j hj).cong (hw _ (by omega) (by omega)) (hw _ (by omega) (by omega)) (by rw [c10]; omega)
  · by_cases e : j = m
    · subst e; rw [g0]; exact s1 j hj
    · rw [hv _ (by omega) (by omega)]; exact s1 j hj
  · rw [hv _ (by omega) (by omega)]; exact s2 j hj
  · rw [v00, hw 0 (by decide) (by omega)]; exact r1
  · rw [v01, hw 9 (by decide) (by omega)]; exact r2
  · rw [hv _ (by decide) (by omega), hw _ (by omega) (by omega)]; exact r4 j hj
  · rw [hv _ (by decide) (by omega), hw _ (by omega) (by omega)]; exact r5 j hj
  · rw [hv _ (by decide) (by omega), hv _ (by decide) (by omega), hw _ (by omega) (by omega), hw _ (by omega) (by omega)]; exact r6 j hj
  · rw [hv _ (by omega) (by omega), hw _ (by omega) (by omega), hw _ (by omega) (by omega)]; exact r7 j hj
  · rw [c10] at hj
    by_cases e : j = m
    · subst e; exact hm'
    · exact (r8 j (by omega)).cong ((q8 j (by omega)).2.2.2.2.2.2.2.2.2.2.2.2.2.2.2.2.1) (fun k hk => old j (by omega) k hk) (fun k _ => by rw [hv _ (by omega) (by omega)]) (fun k _ => by rw [hv _ (by omega) (by omega)])
  · rw [c10] at h1
    unfold RE
    rw [hv _ (by omega) (by omega)]
    exact r9 j (by omega) h2
def zM (M : xV) (m k : Nat) : xV := fun r c => if r = 1 ∧ 52 + 64 * m ≤ c ∧ c < 52 + 64 * m + k then 0 else M r c
theorem m_zero (K : Int32 → xV → Option xV) (M : xV) {m : Nat} (hm : m < 12) : L_X8_makes_34 K (nI m) 100000 0 M = K (nI 64) (zM M m 64) := by
  have z : zM M m 0 = M := by
    funext r c
    exact if_neg (by omega)
  have q := xup0 (fun j k => L_X8_makes_34 K (nI m) j (nI k) (zM M m k)) (K (nI 64) (zM M m 64)) 64 (fun j k hk => by
    rw [L_X8_makes_34, if_neg (show ¬ (64 : Int32) ≤ nI k from nI_ge (b := 64) hk (by decide)), m_at, xbs, xgi (by omega) (by decide), nI_clamp (by omega), xls, xls, nI_1]
    congr 1
    funext r c
    rw [u2e]
    unfold zM
    by_cases h : r = 1 ∧ c = 52 + 64 * m + k
    · obtain ⟨rfl, rfl⟩ := h
      rw [if_pos ⟨rfl, rfl⟩, if_pos ⟨rfl, by omega, by omega⟩]
    · rw [if_neg h]
      by_cases h2 : r = 1 ∧ 52 + 64 * m ≤ c ∧ c < 52 + 64 * m + k
      · rw [if_pos h2, if_pos ⟨h2.1, h2.2.1, by omega⟩]
      · rw [if_neg h2, if_neg (by omega)]) (fun j => by
    rw [L_X8_makes_34, if_pos (show (64 : Int32) ≤ nI 64 from by decide)]) (n := 100000) (by decide)
  rw [z] at q
  exact q
theorem s_make (r : RB v (M 1)) {W : xV} {m b ro f t n d p : Nat} (hm : cN (M 1) 10 = m) (hm12 : m < 12) (hb : b < cN (M 1) 9) (hr1 : 1 ≤ ro) (hr7 : ro ≤ 7) (hft : f < t) (ht : t ≤ 24) (hn1 : 1 ≤ n) (hn : n ≤ 20) (hp1 : 1 ≤ p) (hp : p ≤ 60) (hl : d + (n - 1) * p ≤ 364) (w0 : W 0 0 = nI b) (w1 : W 0 1 = nI ro) (w2 : W 0 2 = nI f) (w3 : W 0 3 = nI t) (w4 : W 0 4 = nI d) (w5 : W 0 5 = nI n) (w6 : W 0 6 = nI p) : ∃ v' M', f_X0_make v W = some (nI m, v') ∧ f_X8_makes M (nI b) (nI ro) (nI d) (nI f) (nI t) (nI n) (nI p) = some M' ∧ RB v' (M' 1) ∧ (∀ c, c ≠ 1 → M' c = M c) ∧ M' 1 10 = nI (m + 1) ∧ cN (M' 1) 9 = cN (M 1) 9 ∧ M' 1 0 = M 1 0 := by
  have hb10 : b < 10 := Nat.lt_of_lt_of_le hb r.h10
  have wm : M 1 10 = nI m := by rw [r.wm, hm]
  have hdep := r.1.2.2.2.2.1
  obtain ⟨dep, hd⟩ : ∃ x, x = cN (M 1) 6 := ⟨_, rfl⟩
  rw [← hd] at hdep
  obtain ⟨P, hP⟩ : ∃ x, x = pP (M 1) (nI ro) f t n := ⟨_, rfl⟩
  have vd : v 1 5 = nI dep := (r.set (j := 5) (by decide)).trans hdep.1
  -- the class's rows
  obtain ⟨v1, hv1⟩ : ∃ x, x = upd2 (upd2 (upd2 (upd2 (upd2 (upd2 (upd2 (upd2 (upd2 (upd2 v (6 + 2 * m) 1 (nI b)) (6 + 2 * m) 2 (nI ro)) (6 + 2 * m) 3 (nI f)) (6 + 2 * m) 4 (nI t)) (6 + 2 * m) 5 (nI n)) (6 + 2 * m) 6 (nI d)) (6 + 2 * m) 7 (nI p)) (6 + 2 * m) 8 P) (6 + 2 * m) 11 (nI dep)) 0 2 (nI (m + 1)) := ⟨_, rfl⟩
  -- the model's rows
  obtain ⟨N1, hN1⟩ : ∃ x, x = upd2 (upd2 (upd2 (upd2 (upd2 (upd2 (upd2 (upd2 (upd2 (upd2 (zM M m 64) 1 (52 + 64 * m + 0) (nI b)) 1 (52 + 64 * m + 1) (nI ro)) 1 (52 + 64 * m + 2) (nI f)) 1 (52 + 64 * m + 3) (nI t)) 1 (52 + 64 * m + 4) (nI n)) 1 (52 + 64 * m + 5) (nI d)) 1 (52 + 64 * m + 6) (nI p)) 1 (52 + 64 * m + 7) P) 1 (52 + 64 * m + 8) (dcI n)) 1 (52 + 64 * m + 9) (nI dep) := ⟨_, rfl⟩
  have out : ∀ c, (c < 52 + 64 * m ∨ 52 + 64 * m + 64 ≤ c) → N1 1 c = M 1 c := fun c hc => by
    rw [hN1]
    simp only [u2r]
    rw [upn _ _ (by omega), upn _ _ (by omega), upn _ _ (by omega), upn _ _ (by omega), upn _ _ (by omega), upn _ _ (by omega), upn _ _ (by omega), upn _ _ (by omega), upn _ _ (by omega), upn _ _ (by omega)]
    exact if_neg (by omega)
  have zer : ∀ k, 10 ≤ k → k < 64 → N1 1 (52 + 64 * m + k) = 0 := fun k h1 h2 => by
    rw [hN1]
    simp only [u2r]
    rw [upn _ _ (by omega), upn _ _ (by omega), upn _ _ (by omega), upn _ _ (by omega), upn _ _ (by omega), upn _ _ (by omega), upn _ _ (by omega), upn _ _ (by omega), upn _ _ (by omega), upn _ _ (by omega)]
    exact if_pos ⟨rfl, by omega, by omega⟩
  have oth : ∀ c, c ≠ 1 → N1 c = M c := fun c hc => by
    rw [hN1, u2k _ _ hc, u2k _ _ hc, u2k _ _ hc, u2k _ _ hc, u2k _ _ hc, u2k _ _ hc, u2k _ _ hc, u2k _ _ hc, u2k _ _ hc, u2k _ _ hc]
    funext x
    exact if_neg (fun y => hc y.1)
  have r1 : RB v1 (upd (N1 1) 10 (nI (m + 1))) := by
    refine r.new hm hm12 hb hr1 hr7 hft ht hn1 hn hp1 hp hl hdep.2 (P := P) (fun c h1 h2 => ?_) (upp _ _ _) ?_ ?_ ?_ ?_ ?_ ?_ ?_ ?_ ?_ ?_ (fun k h1 h2 => ?_) (fun k h1 h2 => ?_) ?_ ?_ ?_ ?_ ?_ ?_ ?_ ?_ ?_ ?_ ?_ ?_ ?_ (fun k hk => ?_)
    · rw [upn _ _ h1, out c h2]
    · rw [upn _ _ (by omega), hN1]
      simp only [u2r]
      rw [upn _ _ (by omega), upn _ _ (by omega), upn _ _ (by omega), upn _ _ (by omega), upn _ _ (by omega), upn _ _ (by omega), upn _ _ (by omega), upn _ _ (by omega), upn _ _ (by omega), upp]
    · rw [upn _ _ (by omega), hN1]
      simp only [u2r]
      rw [upn _ _ (by omega), upn _ _ (by omega), upn _ _ (by omega), upn _ _ (by omega), upn _ _ (by omega), upn _ _ (by omega), upn _ _ (by omega), upn _ _ (by omega), upp]
    · rw [upn _ _ (by omega), hN1]
      simp only [u2r]
      rw [upn _ _ (by omega), upn _ _ (by omega), upn _ _ (by omega), upn _ _ (by omega), upn _ _ (by omega), upn _ _ (by omega), upn _ _ (by omega), upp]
    · rw [upn _ _ (by omega), hN1]
      simp only [u2r]
      rw [upn _ _ (by omega), upn _ _ (by omega), upn _ _ (by omega), upn _ _ (by omega), upn _ _ (by omega), upn _ _ (by omega), upp]
    · rw [upn _ _ (by omega), hN1]
      simp only [u2r]
      rw [upn _ _ (by omega), upn _ _ (by omega), upn _ _ (by omega), upn _ _ (by omega), upn _ _ (by omega), upp]
    · rw [upn _ _ (by omega), hN1]
      simp only [u2r]
      rw [upn _ _ (by omega), upn _ _ (by omega), upn _ _ (by omega), upn _ _ (by omega), upp]
    · rw [upn _ _ (by omega), hN1]
      simp only [u2r]
      rw [upn _ _ (by omega), upn _ _ (by omega), upn _ _ (by omega), upp]
    · rw [upn _ _ (by omega), hN1]
      simp only [u2r]
      rw [upn _ _ (by omega), upn _ _ (by omega), upp]
    · rw [upn _ _ (by omega), hN1]
      simp only [u2r]
      rw [upn _ _ (by omega), upp]
    · rw [upn _ _ (by omega), hN1]
      simp only [u2r]
      rw [upp]
    · rw [upn _ _ (by omega), zer k h1 h2]
    · rw [hv1, u2k _ _ h1, u2k _ _ h2, u2k _ _ h2, u2k _ _ h2, u2k _ _ h2, u2k _ _ h2, u2k _ _ h2, u2k _ _ h2, u2k _ _ h2, u2k _ _ h2]
    · rw [hv1, u2j _ _ (by decide), u2k _ _ (by omega), u2k _ _ (by omega), u2k _ _ (by omega), u2k _ _ (by omega), u2k _ _ (by omega), u2k _ _ (by omega), u2k _ _ (by omega), u2k _ _ (by omega), u2k _ _ (by omega)]
    · rw [hv1, u2j _ _ (by decide), u2k _ _ (by omega), u2k _ _ (by omega), u2k _ _ (by omega), u2k _ _ (by omega), u2k _ _ (by omega), u2k _ _ (by omega), u2k _ _ (by omega), u2k _ _ (by omega), u2k _ _ (by omega)]
    · rw [hv1, u2s]
    · rw [hv1, u2k _ _ (by omega), u2j _ _ (by decide), u2j _ _ (by decide), u2j _ _ (by decide), u2j _ _ (by decide), u2j _ _ (by decide), u2j _ _ (by decide), u2j _ _ (by decide), u2j _ _ (by decide), u2j _ _ (by decide)]
    · rw [hv1, u2k _ _ (by omega), u2j _ _ (by decide), u2j _ _ (by decide), u2j _ _ (by decide), u2j _ _ (by decide), u2j _ _ (by decide), u2j _ _ (by decide), u2j _ _ (by decide), u2j _ _ (by decide), u2s]
    · rw [hv1, u2k _ _ (by omega), u2j _ _ (by decide), u2j _ _ (by decide), u2j _ _ (by decide), u2j _ _ (by decide), u2j _ _ (by decide), u2j _ _ (by decide), u2j _ _ (by decide), u2s]
    · rw [hv1, u2k _ _ (by omega), u2j _ _ (by decide), u2j _ _ (by decide), u2j _ _ (by decide), u2j _ _ (by decide), u2j _ _ (by decide), u2j _ _ (by decide), u2s]
    · rw [hv1, u2k _ _ (by omega), u2j _ _ (by decide), u2j _ _ (by decide), u2j _ _ (by decide), u2j _ _ (by decide), u2j _ _ (by decide), u2s]
    · rw [hv1, u2k _ _ (by omega), u2j _ _ (by decide), u2j _ _ (by decide), u2j _ _ (by decide), u2j _ _ (by decide), u2s]
    · rw [hv1, u2k _ _ (by omega), u2j _ _ (by decide), u2j _ _ (by decide), u2j _ _ (by decide), u2s]
    · rw [hv1, u2k _ _ (by omega), u2j _ _ (by decide), u2j _ _ (by decide), u2s]
    · rw [hv1, u2k _ _ (by omega), u2j _ _ (by decide), u2s]
    · rw [hv1, u2k _ _ (by omega), u2s]
    · rw [hv1, u2k _ _ (by omega), u2j _ _ (by omega), u2j _ _ (by omega), u2j _ _ (by omega), u2j _ _ (by omega), u2j _ _ (by omega), u2j _ _ (by omega), u2j _ _ (by omega), u2j _ _ (by omega), u2j _ _ (by omega)]
  -- money of the class
  have c9 : b < cN (upd (N1 1) 10 (nI (m + 1))) 9 := by rw [cN_cong (upn _ _ (by decide)), cN_cong (out 9 (by omega))]; exact hb
  obtain ⟨v2, hv2⟩ : ∃ x, x = upd2 (upd2 v1 3 b (v1 3 b + P)) 2 0 (v1 2 0 + P) := ⟨_, rfl⟩
  obtain ⟨w2', hw2⟩ : ∃ x, x = upd (upd (upd (N1 1) 10 (nI (m + 1))) (20 + 2 * b) (upd (N1 1) 10 (nI (m + 1)) (20 + 2 * b) + P)) 11 (upd (N1 1) 10 (nI (m + 1)) 11 + P) := ⟨_, rfl⟩
  have r2 : RB v2 w2' := by rw [hv2, hw2]; exact charge_RB r1 hb10 (q := 0) (by decide) P
  obtain ⟨v3, hv3⟩ : ∃ x, x = upd2 (upd2 v2 3 b (v2 3 b + nI dep)) 2 2 (v2 2 2 + nI dep) := ⟨_, rfl⟩
  obtain ⟨w3', hw3⟩ : ∃ x, x = upd (upd w2' (20 + 2 * b) (w2' (20 + 2 * b) + nI dep)) 13 (w2' 13 + nI dep) := ⟨_, rfl⟩
  have r3 : RB v3 w3' := by rw [hv3, hw3]; exact charge_RB r2 hb10 (q := 2) (by decide) (nI dep)
  have c92 : b < cN w2' 9 := by rw [hw2, cN_cong (upn _ _ (by decide)), cN_cong (upn _ _ (by omega))]; exact c9
  obtain ⟨v4, hv4⟩ : ∃ x, x = upd2 v3 2 3 (v3 2 3 + nI dep) := ⟨_, rfl⟩
  obtain ⟨w4', hw4⟩ : ∃ x, x = upd w3' 14 (w3' 14 + nI dep) := ⟨_, rfl⟩
  have r4 : RB v4 w4' := by rw [hv4, hw4]; exact acc_RB r3 (q := 3) (by decide) (fun x => x + nI dep)
  have v402 : v4 0 2 = nI (m + 1) := by
    rw [hv4, u2k _ _ (by decide), hv3, u2k _ _ (by decide), u2k _ _ (by decide), hv2, u2k _ _ (by decide), u2k _ _ (by decide), hv1, u2s]
  have cls : f_X0_make v W = some (nI m, v4) := by
    unfold f_X0_make f_X1_begin
    have vm : v 0 2 = nI m := by rw [r.vm, hm]
    rw [vm, if_neg (nI_pos (by omega)), if_pos (show nI m < (12 : Int32) from nI_lt (b := 12) hm12 (by decide)), c_priceOf r w2 w3 w5 hft ht hn, xbs, vd, w1, ← hP, xls, xgi hm12 (by decide), xls, nI_clamp (by omega), w0, w2, w3, w4, w5, w6]
    simp only [xls, xbs]
    rw [u2k _ _ (show 0 ≠ 6 + 2 * m by omega), u2k _ _ (show 0 ≠ 6 + 2 * m by omega), u2k _ _ (show 0 ≠ 6 + 2 * m by omega), u2k _ _ (show 0 ≠ 6 + 2 * m by omega), u2k _ _ (show 0 ≠ 6 + 2 * m by omega), u2k _ _ (show 0 ≠ 6 + 2 * m by omega), u2k _ _ (show 0 ≠ 6 + 2 * m by omega), u2k _ _ (show 0 ≠ 6 + 2 * m by omega), u2k _ _ (show 0 ≠ 6 + 2 * m by omega), vm, nI_1, ← hv1, c_charge r1 c9 (q := 0) (p3 := 0) (by decide) _ rfl rfl, xbs, ← hv2, c_charge r2 c92 (q := 2) (p3 := 2) (by decide) _ rfl rfl, xbs, ← hv3, ← hv4, v402, nI_pred]
  -- money of the model
  obtain ⟨N2, hN2⟩ : ∃ x, x = upd2 N1 1 (20 + 2 * b) (N1 1 (20 + 2 * b) + (P + nI dep)) := ⟨_, rfl⟩
  obtain ⟨N3, hN3⟩ : ∃ x, x = upd2 N2 1 11 (N2 1 11 + P) := ⟨_, rfl⟩
  obtain ⟨N4, hN4⟩ : ∃ x, x = upd2 N3 1 13 (N3 1 13 + nI dep) := ⟨_, rfl⟩
  obtain ⟨N5, hN5⟩ : ∃ x, x = upd2 N4 1 14 (N4 1 14 + nI dep) := ⟨_, rfl⟩
  obtain ⟨N6, hN6⟩ : ∃ x, x = upd2 N5 1 10 (N5 1 10 + 1) := ⟨_, rfl⟩
  have n510 : N5 1 10 = nI m := by
    rw [hN5, u2j _ _ (by decide), hN4, u2j _ _ (by decide), hN3, u2j _ _ (by decide), hN2, u2j _ _ (by omega), out 10 (by omega), wm]
  have mdl : f_X8_makes M (nI b) (nI ro) (nI d) (nI f) (nI t) (nI n) (nI p) = some N6 := by
    unfold f_X8_makes
    have a : ∀ (k : Nat) (x : Int32), x = nI k → f_X8_at (nI m) x = some (nI (52 + 64 * m + k)) := fun k x hx => by rw [hx]; exact m_at m k
    rw [wm, xls, m_priceOf M (f := f) (t := t) (n := n) rfl rfl rfl hft ht hn, xbs, ← hP, hdep.1, xls, m_zero _ _ hm12, a 0 0 rfl, xbs, xgi (by omega) (by decide), nI_clamp (by omega), xls, a 1 1 rfl, xbs, xgi (by omega) (by decide), nI_clamp (by omega), xls, a 2 2 rfl, xbs, xgi (by omega) (by decide), nI_clamp (by omega), xls, a 3 3 rfl, xbs, xgi (by omega) (by decide), nI_clamp (by omega), xls, a 4 4 rfl, xbs, xgi (by omega) (by decide), nI_clamp (by omega), xls, a 5 5 rfl, xbs, xgi (by omega) (by decide), nI_clamp (by omega), xls, a 6 6 rfl, xbs, xgi (by omega) (by decide), nI_clamp (by omega), xls, a 7 7 rfl, xbs, xgi (by omega) (by decide), nI_clamp (by omega), xls, a 8 8 rfl, xbs, dc_8, dc_eq (by omega), xbs, xgi (by omega) (by decide), nI_clamp (by omega), xls, a 9 9 rfl, xbs, xgi (by omega) (by decide), nI_clamp (by omega), xls, ← hN1, m_charges _ hb10 _ rfl, xbs, ← hN2, xls, ← hN3, xls, ← hN4, xls, ← hN5, xls, ← hN6]
  refine ⟨v4, N6, cls, mdl, ?_, fun c hc => ?_, ?_, ?_, ?_⟩
  · have ew : N6 1 = w4' := by
      rw [hN6, u2r, n510, nI_1, hN5, u2r, hN4, u2r, hN3, u2r, hN2, u2r]
      funext c
      rw [hw4, hw3, hw2]
      simp only [upe]
      by_cases h10 : c = 10
      · subst h10
        simp (config := { decide := true }) [show ¬ 10 = 20 + 2 * b by omega]
      · by_cases h14 : c = 14
        · subst h14
          simp (config := { decide := true }) [show ¬ 14 = 20 + 2 * b by omega]
        · by_cases h13 : c = 13
          · subst h13
            simp (config := { decide := true }) [show ¬ 13 = 20 + 2 * b by omega]
          · by_cases h11 : c = 11
            · subst h11
              simp (config := { decide := true }) [show ¬ 11 = 20 + 2 * b by omega]
            · by_cases hb' : c = 20 + 2 * b
              · subst hb'
                simp only [if_neg h10, if_neg h11, if_neg h13, if_neg h14, if_pos, if_true]
                rw [Int32.add_assoc]
              · simp only [if_neg h10, if_neg h11, if_neg h13, if_neg h14, if_neg hb']
    rw [ew]
    exact r4
  · rw [hN6, u2k _ _ hc, hN5, u2k _ _ hc, hN4, u2k _ _ hc, hN3, u2k _ _ hc, hN2, u2k _ _ hc, oth c hc]
  · rw [hN6, u2s, n510, nI_1]
  · rw [hN6, u2r, cN_cong (upn _ _ (by decide)), hN5, u2r, cN_cong (upn _ _ (by decide)), hN4, u2r, cN_cong (upn _ _ (by decide)), hN3, u2r, cN_cong (upn _ _ (by decide)), hN2, u2r, cN_cong (upn _ _ (by omega)), cN_cong (out 9 (by omega))]
  · rw [hN6, u2j _ _ (by decide), hN5, u2j _ _ (by decide), hN4, u2j _ _ (by decide), hN3, u2j _ _ (by decide), hN2, u2j _ _ (by omega), out 0 (by omega)]
/-- the clash that a hall and the model tell -/
def CR (dv M : xV) : Prop := (dv 0 5 = -1 ∧ M 0 4 = -2000000004) ∨ ∃ s, s < 240 ∧ dv 0 5 = nI s ∧ M 0 4 = nI s
theorem s_clash {dv : xV} (c : CR dv M) : SmA (f_X7_clash dv) (f_X8_clash M) := by
  unfold f_X7_clash f_X8_clash
  rcases c with ⟨c1, c2⟩ | ⟨s, hs, c1, c2⟩
  · rw [c1, c2, if_pos rfl]
    exact SmA.mk
  · rw [c1, c2, if_neg (fun z => nI_m1 (by omega) z.symm)]
    exact SmA.mk
theorem s_hire (r : RB v (M 1)) (h : HR hv kv M) {dv : xV} (c : CR dv M) (wv : xV) (p1 p2 p3 p4 p5 p6 : Int32) : ∃ a dv' v' hv' kv' wv' M', f_X7_hire dv v hv kv wv p1 p2 p3 p4 p5 p6 = some (a, dv', v', hv', kv', wv') ∧ f_X8_hire M p1 p2 p3 p4 p5 p6 = some (a, M') ∧ RB v' (M' 1) ∧ HR hv' kv' M' ∧ CR dv' M' ∧ M' 4 = M 4 ∧ M' 0 6 = M 0 6 := by
  have h12 := r.m12
  unfold f_X7_hire f_X8_hire f_X6_takeSeries f_X6_lastDay
  obtain ⟨F, T, e1, e2, e3⟩ := takeH (upd2 (upd2 wv 0 0 p1) 0 1 p2) p4
  rw [xls, xls, e1, xbs]
  simp only [xls, xbs]
  obtain ⟨W, hW⟩ : ∃ x, x = upd2 (upd2 (upd2 (upd2 (upd2 (upd2 (upd2 wv 0 0 p1) 0 1 p2) 0 2 F) 0 3 T) 0 4 p3) 0 5 p5) 0 6 p6 := ⟨_, rfl⟩
  rw [← hW]
  have w0 : W 0 0 = p1 := by rw [hW, u2j _ _ (by decide), u2j _ _ (by decide), u2j _ _ (by decide), u2j _ _ (by decide), u2j _ _ (by decide), u2j _ _ (by decide), u2s]
  have w1 : W 0 1 = p2 := by rw [hW, u2j _ _ (by decide), u2j _ _ (by decide), u2j _ _ (by decide), u2j _ _ (by decide), u2j _ _ (by decide), u2s]
  have w2 : W 0 2 = F := by rw [hW, u2j _ _ (by decide), u2j _ _ (by decide), u2j _ _ (by decide), u2j _ _ (by decide), u2s]
  have w3 : W 0 3 = T := by rw [hW, u2j _ _ (by decide), u2j _ _ (by decide), u2j _ _ (by decide), u2s]
  have w4 : W 0 4 = p3 := by rw [hW, u2j _ _ (by decide), u2j _ _ (by decide), u2s]
  have w5 : W 0 5 = p5 := by rw [hW, u2j _ _ (by decide), u2s]
  have w6 : W 0 6 = p6 := by rw [hW, u2s]
  have stay : ∀ a : Int32, ∃ a' dv' v' hv' kv' wv' M', some (a, dv, v, hv, kv, W) = some (a', dv', v', hv', kv', wv') ∧ some (a, M) = some (a', M') ∧ RB v' (M' 1) ∧ HR hv' kv' M' ∧ CR dv' M' ∧ M' 4 = M 4 ∧ M' 0 6 = M 0 6 := fun a => ⟨a, dv, v, hv, kv, W, M, rfl, rfl, r, h, c, rfl, rfl⟩
  rcases hirer_or r p1 with ⟨b, hb, hb10, hp1, e4, e5⟩ | ⟨e4, e5⟩
  · rw [e4, xbs, i10, e5, xbs, i10]
    rcases c_rooms p2 with ⟨ro, h3, h4, hp2, e6, e7⟩ | ⟨e6, e7⟩
    · rw [e6, xbs, i10, e7, xbs, i10]
      unfold f_X8_isSeries
      rw [r.vd, r.wd]
      have bad : ∀ X, f_X6_isInRange W (nI (cN (M 1) 0)) = some 0 → ∃ a' dv' v' hv' kv' wv' M', (xb (f_X6_isInRange W (nI (cN (M 1) 0))) fun r_13 => if r_13 = 0 then some ((-2000000001), dv, v, hv, kv, W) else X) = some (a', dv', v', hv', kv', wv') ∧ some ((-2000000001 : Int32), M) = some (a', M') ∧ RB v' (M' 1) ∧ HR hv' kv' M' ∧ CR dv' M' ∧ M' 4 = M 4 ∧ M' 0 6 = M 0 6 := fun X hX => by
        rw [hX, xbs, i00]
        exact stay _
      have hd400 := r.d400
      rcases m_rng (cN (M 1) 0) 364 p3 (A := (nI (cN (M 1) 0)).toInt64) (B := 364) rfl rfl (by omega) (by decide) with ⟨d, h5, h6, hp3, e8⟩ | ⟨hd, e8⟩
      · rw [e8, xbs, i10]
        rcases hours_or p4 with ⟨f, t, h0, hf, ht, hft, ht24, e9⟩ | ⟨e9, h0⟩
        · obtain ⟨k1, k2⟩ := e3 h0
          rw [hf] at k1
          rw [ht] at k2
          rw [k1] at w2
          rw [k2] at w3
          rw [e9, xbs, i10]
          rcases m_rng 1 20 p5 (A := 1) (B := 20) rfl rfl (by decide) (by decide) with ⟨n, h7, h8, hp5, e10⟩ | ⟨hn, e10⟩
          · rw [e10, xbs, i10]
            rcases m_rng 1 60 p6 (A := 1) (B := 60) rfl rfl (by decide) (by decide) with ⟨p, h9, h10, hp6, e11⟩ | ⟨hp, e11⟩
            · rw [e11, xbs, i10, xbs, i10]
              subst hp1 hp2 hp3 hp5 hp6
              have hmul : (n - 1) * p ≤ 19 * 60 := Nat.mul_le_mul (by omega) h10
              have eL : nI d + (nI n - 1) * nI p = nI (d + (n - 1) * p) := by
                rw [show nI n - 1 = nI (n - 1) from pk_sub (b := 1) h7, pk_mul, nI_add]
              rw [rng1 (by rw [w4]; exact nI_nlt h5 (by omega)) (by rw [w4]; exact nI_nlt (a := 364) h6 (by decide)) (by rw [w2]; exact nI_pos (by omega)) (by rw [w2, w3]; exact nI_ge hft (by omega)) (by rw [w3]; exact nI_nlt (a := 24) ht24 (by decide)) (by rw [w5]; exact nI_nlt (b := 1) h7 (by omega)) (by rw [w5]; exact nI_nlt (a := 20) h8 (by decide)) (by rw [w6]; exact nI_nlt (b := 1) h9 (by omega)) (by rw [w6]; exact nI_nlt (a := 60) h10 (by decide)), xbs, i10, w4, w5, w6, eL, ht, hf]
              by_cases hl : d + (n - 1) * p ≤ 364
              · rw [if_pos (show nI (d + (n - 1) * p) ≤ (364 : Int32) from nI_le (b := 364) hl (by decide)), if_pos (show nI (d + (n - 1) * p) ≤ (364 : Int32) from nI_le (b := 364) hl (by decide))]
                obtain ⟨x, k3, k4, k5⟩ := clashOf_eq r w4 w5 w6 h8 hl
                rw [w0, w1, w2, w3] at k4
                rw [k3, xbs, k4, xbs]
                rcases k5 with rfl | ⟨s, hs, rfl⟩
                · rw [if_pos rfl, if_pos rfl]
                  unfold f_X0_isFull
                  rw [r.vm, r.wm]
                  by_cases hm : cN (M 1) 10 < 12
                  · rw [if_pos (show nI (cN (M 1) 10) < (12 : Int32) from nI_lt (b := 12) hm (by decide)), xbs, i00, if_neg (show ¬ nI (cN (M 1) 10) = (12 : Int32) from ne_lit (b := 12) (by omega) (by omega) (by decide))]
                    obtain ⟨hv', kv', M', k6, k7, k8, kp⟩ := s_save r h
                    have r' : RB v (M' 1) := by rw [kp.1]; exact r
                    obtain ⟨v', M2, k9, k10, k11, k12, k13, -⟩ := s_make r' (W := W) (m := cN (M 1) 10) (by rw [kp.1]) hm (by rw [kp.1]; exact hb) h3 h4 hft ht24 h7 h8 h9 h10 hl w0 w1 w2 w3 w4 w5 w6
                    rw [k6, xb2s, k9, xb2s, k7, xbs, k10, xbs, k13, nI_pred]
                    have z : ∀ j, j ≠ 3 → M2 0 j = M 0 j := fun j hj => by rw [k12 0 (by decide)]; exact kp.2.2.2 j hj
                    refine ⟨_, _, _, _, _, _, _, rfl, rfl, k11, k8.cong (by rw [k12 0 (by decide)]) (k12 2 (by decide)), ?_, (k12 4 (by decide)).trans kp.2.2.1, z 6 (by decide)⟩
                    unfold CR
                    rw [z 4 (by decide)]
                    exact c
                  · rw [if_neg (show ¬ nI (cN (M 1) 10) < (12 : Int32) from nI_nlt (b := 12) (by omega) (by omega)), xbs, i10, if_pos (show nI (cN (M 1) 10) = (12 : Int32) by rw [show cN (M 1) 10 = 12 by omega]; rfl)]
                    exact stay _
                · rw [if_neg (fun z => nI_m1 (by omega) z.symm : ¬ nI s = -1), if_neg (fun z => nI_m1 (by omega) z.symm : ¬ nI s = -1)]
                  refine ⟨_, _, _, _, _, _, _, rfl, rfl, ?_, h.cong ?_ ?_, Or.inr ⟨s, hs, u2s _ _ _ _, u2s _ _ _ _⟩, ?_, ?_⟩
                  · rw [u2k _ _ (by decide)]; exact r
                  · rw [u2j _ _ (by decide)]
                  · rw [u2k _ _ (by decide)]
                  · rw [u2k _ _ (by decide)]
                  · rw [u2j _ _ (by decide)]
              · rw [if_neg (show ¬ nI (d + (n - 1) * p) ≤ (364 : Int32) from nI_ge (b := d + (n - 1) * p) (a := 364) (by omega) (by omega)), if_neg (show ¬ nI (d + (n - 1) * p) ≤ (364 : Int32) from nI_ge (b := d + (n - 1) * p) (a := 364) (by omega) (by omega))]
                exact stay _
            · rw [e11, xbs, i00, xbs, i00]
              refine bad _ (rng0 ?_)
              rw [w6]
              rcases hp with hp | hp
              · exact Or.inr (Or.inr (Or.inr (Or.inr (Or.inr (Or.inr (Or.inr (Or.inl hp)))))))
              · exact Or.inr (Or.inr (Or.inr (Or.inr (Or.inr (Or.inr (Or.inr (Or.inr hp)))))))
          · rw [e10, xbs, i00, xbs, i00]
            refine bad _ (rng0 ?_)
            rw [w5]
            rcases hn with hn | hn
            · exact Or.inr (Or.inr (Or.inr (Or.inr (Or.inr (Or.inl hn)))))
            · exact Or.inr (Or.inr (Or.inr (Or.inr (Or.inr (Or.inr (Or.inl hn))))))
        · rw [e9, xbs, i00, xbs, i00]
          refine bad _ (rng0 ?_)
          rcases h0 with h0 | ⟨h0, h1⟩
          · obtain ⟨k1, k2⟩ := e2 h0
            rw [w2, k1]
            exact Or.inr (Or.inr (Or.inl (by decide)))
          · obtain ⟨k1, k2⟩ := e3 h0
            rw [w2, w3, k1, k2]
            rcases h1 with h1 | h1
            · exact Or.inr (Or.inr (Or.inr (Or.inl h1)))
            · exact Or.inr (Or.inr (Or.inr (Or.inr (Or.inl h1))))
      · rw [e8, xbs, i00, xbs, i00]
        refine bad _ (rng0 ?_)
        rw [w4]
        rcases hd with hd | hd
        · exact Or.inl hd
        · exact Or.inr (Or.inl hd)
    · rw [e6, xbs, i00, e7, xbs, i00]
      exact stay _
  · rw [e4, xbs, i00, e5, xbs, i00]
    exact stay _
end
