/-! ===== PURE p29, 6: a day, a hire: alike, and the accounts ===== -/
section
variable {d : Nat} {w w' : Nat → Int32}
theorem Sh.tdyE (s : Sh d w w') (g : Good w) (hd : d < 1000) {i k : Nat} (hi : i < cN w 10) (hk : k < 20) (D : Nat) : tdy w' (D + d) (20 * i + k) = tdy w D (20 * i + k) := by
  have gi := g.2.2.2.2.2.2.2.1 i hi
  have e : decide (hN w i 5 + d + k * hN w i 6 = D + d) = decide (hN w i 5 + k * hN w i 6 = D) := by
    rw [Bool.eq_iff_iff, decide_eq_true_iff, decide_eq_true_iff]
    omega
  unfold tdy dyN
  rw [show (20 * i + k) / 20 = i by omega, show (20 * i + k) % 20 = k by omega, s.m, s.hn hi (k := 4) (by decide) (by decide), s.hn hi (k := 12 + k) (by omega) (by omega), s.hn hi (k := 6) (by decide) (by decide), s.h5 hi gi hd, e]
theorem wDay_0 (x : Nat → Int32) : wDay x 0 = nI (cN x 0 + 1) := upp _ _ _
theorem wDay_ne {x : Nat → Int32} {c : Nat} (h0 : c ≠ 0) (h : c < 52) : wDay x c = x c := by
  unfold wDay
  rw [upn _ _ h0, mkW_ne (by omega)]
theorem wDay_h {x : Nat → Int32} {i k : Nat} (h : ¬ (12 ≤ k ∧ k < 32)) (hk : k < 64) : wDay x (52 + 64 * i + k) = x (52 + 64 * i + k) := by
  unfold wDay
  rw [upn _ _ (by omega), mkW_h h hk]
theorem wDay_s {x : Nat → Int32} {i k : Nat} (hk : k < 20) : wDay x (52 + 64 * i + (12 + k)) = if 20 * i + k < 20 * cN x 10 ∧ tdy x (cN x 0) (20 * i + k) = true then 1 else x (52 + 64 * i + (12 + k)) := by
  unfold wDay
  rw [upn _ _ (by omega), mkW_s hk]
theorem Sh.dayW (s : Sh d w w') (g : Good w) (hd : d < 1000) : Sh d (wDay w) (wDay w') := by
  have e0 := s.day' g hd
  refine ⟨?_, fun c h1 h2 => ?_, fun j hj => ?_, fun j hj => ?_⟩
  · rw [wDay_0, wDay_0, e0, nI_add]
    congr 1
    omega
  · rw [wDay_ne (by omega) (by omega), wDay_ne (by omega) (by omega)]; exact s.lo h1 h2
  · rw [wDay_ne (by omega) (by omega), wDay_ne (by omega) (by omega), wDay_ne (by omega) (by omega), wDay_ne (by omega) (by omega)]; exact s.2.2.1 j hj
  · rw [cN_cong (wDay_ne (x := w) (c := 10) (by decide) (by decide))] at hj
    refine ⟨fun k hk h5 => ?_, ?_⟩
    · by_cases c : 12 ≤ k ∧ k < 32
      · obtain ⟨q, rfl⟩ : ∃ q, k = 12 + q := ⟨k - 12, by omega⟩
        rw [wDay_s (by omega), wDay_s (by omega), e0, s.m, s.tdyE g hd hj (by omega), s.h hj hk h5]
      · rw [wDay_h c hk, wDay_h c hk]; exact s.h hj hk h5
    · rw [wDay_h (by omega) (by decide), wDay_h (by omega) (by decide)]; exact (s.2.2.2 j hj).2
theorem Inv.day {k : Nat} (I : Inv k w) : Inv k (wDay w) :=
  I.same (fun c h1 h2 => wDay_ne (by omega) (by omega)) fun i hi => ⟨wDay_h (by omega) (by decide), wDay_h (by omega) (by decide)⟩
/-! prices -/
theorem pX_n {f t j q p : Nat} (hf : f < t) (ht : t ≤ f + 3) (hq : q ≤ 5000) (e1 : w (1 + j) = nI q) (hp : p ≤ 100) (e4 : w 4 = nI p) : ∃ x, x ≤ 30000 ∧ pX w f t j = nI x := by
  have b1 : q * p ≤ 5000 * 100 := Nat.mul_le_mul hq hp
  have b2 : q * (t - f) ≤ 5000 * 3 := Nat.mul_le_mul hq (by omega)
  have b3 : q * p / 100 * (t - max f 18) ≤ 5000 * 3 := Nat.mul_le_mul (by omega) (by omega)
  refine ⟨q * (t - f) + q * p / 100 * (t - max f 18), by omega, ?_⟩
  unfold pX
  rw [e1, e4, pk_mul, pk_mul, show nI (q * p) / 100 = nI (q * p / 100) from pk_div (d := 100) (by omega) (by decide) (by decide), pk_mul, nI_add]
theorem pP_n {ro f t n : Nat} (b3 : ∀ j, j < 3 → ∃ q, q ≤ 5000 ∧ w (1 + j) = nI q) (b4 : ∃ q, q ≤ 100 ∧ w 4 = nI q) (hf : f < t) (ht : t ≤ f + 3) (hn : n ≤ 8) : ∃ P, P ≤ 720000 ∧ pP w (nI ro) f t n = nI P := by
  obtain ⟨p, hp, e4⟩ := b4
  have pr : ∀ j, j < 3 → ∃ x, x ≤ 30000 ∧ pR w (nI ro) f t j = nI x := fun j hj => by
    obtain ⟨q, hq, e1⟩ := b3 j hj
    obtain ⟨x, hx, ex⟩ := pX_n hf ht hq e1 hp e4
    unfold pR
    split
    · exact ⟨x, hx, ex⟩
    · exact ⟨0, by omega, rfl⟩
  obtain ⟨x0, h0, e0⟩ := pr 0 (by decide)
  obtain ⟨x1, h1, e1⟩ := pr 1 (by decide)
  obtain ⟨x2, h2, e2⟩ := pr 2 (by decide)
  have eS : pS w (nI ro) f t = nI (x0 + x1 + x2) := by
    show 0 + pR w (nI ro) f t 0 + pR w (nI ro) f t 1 + pR w (nI ro) f t 2 = _
    rw [e0, e1, e2, show (0 : Int32) = nI 0 from rfl, nI_add, nI_add, nI_add, Nat.zero_add]
  obtain ⟨S, hS⟩ : ∃ x, x = x0 + x1 + x2 := ⟨_, rfl⟩
  rw [← hS] at eS
  have hS1 : S ≤ 90000 := by omega
  obtain ⟨c, hc, ec⟩ : ∃ c, c ≤ 20 ∧ dcI n = nI c := by
    unfold dcI
    split
    · exact ⟨0, by omega, rfl⟩
    · split
      · exact ⟨10, by omega, rfl⟩
      · exact ⟨20, by omega, rfl⟩
  have b1 : n * S ≤ 8 * 90000 := Nat.mul_le_mul hn hS1
  have b2 : n * S * c ≤ 8 * 90000 * 20 := Nat.mul_le_mul b1 hc
  have b5 : n * S * c / 100 ≤ n * S := by
    have : n * S * c ≤ n * S * 100 := Nat.mul_le_mul (Nat.le_refl _) (by omega)
    omega
  refine ⟨n * S - n * S * c / 100, by omega, ?_⟩
  unfold pP
  rw [eS, ec, pk_mul, pk_mul, show nI (n * S * c) / 100 = nI (n * S * c / 100) from pk_div (d := 100) (by omega) (by decide) (by decide), pk_sub b5]
theorem Inv.make {k : Nat} (I : Inv k w) {b ro D f t n p : Nat} (h12 : cN w 10 < 12) (hb : b < 3) (hf : f < t) (ht : t ≤ f + 3) (hn : n ≤ 8) : Inv k (wMake w b ro D f t n p) := by
  obtain ⟨⟨a1, a2, a3, a4⟩, b1, b2, b3, b4, b5⟩ := I
  obtain ⟨P, hP, eP⟩ := pP_n (ro := ro) b3 b4 hf ht hn
  have c10 := (mk_10 (b := b) (ro := ro) (D := D) (f := f) (t := t) (n := n) (p := p) (x := w) (by omega)).2
  have s : ∀ c, c ≠ 10 → c ≠ 14 → c ≠ 13 → c ≠ 11 → c ≠ 20 + 2 * b → c < 52 → wMake w b ro D f t n p c = w c := fun c h1 h2 h3 h4 h5 h6 => mk_out rfl h1 h2 h3 h4 h5 (by omega)
  have sh : ∀ i q, i < cN w 10 → q < 64 → wMake w b ro D f t n p (52 + 64 * i + q) = w (52 + 64 * i + q) := fun i q hi hq => mk_out rfl (by omega) (by omega) (by omega) (by omega) (by omega) (by omega)
  have s14 : wMake w b ro D f t n p 14 = w 14 + w 6 := by
    unfold wMake
    rw [if_neg (by omega), if_pos rfl]
  have s13 : wMake w b ro D f t n p 13 = w 13 + w 6 := by
    unfold wMake
    rw [if_neg (by omega), if_neg (by omega), if_pos rfl]
  have s11 : wMake w b ro D f t n p 11 = w 11 + nI P := by
    unfold wMake
    rw [if_neg (by omega), if_neg (by omega), if_neg (by omega), if_pos rfl, eP]
  have sb : wMake w b ro D f t n p (20 + 2 * b) = w (20 + 2 * b) + (nI P + w 6) := by
    unfold wMake
    rw [if_neg (by omega), if_neg (by omega), if_neg (by omega), if_neg (by omega), if_pos rfl, eP]
  have n9 : wMake w b ro D f t n p (52 + 64 * cN w 10 + 9) = w 6 := mk_in (x := w) rfl (by omega) (by decide)
  have n7 : wMake w b ro D f t n p (52 + 64 * cN w 10 + 7) = nI P := (mk_in (x := w) rfl (by omega) (by decide)).trans eP
  refine ⟨⟨?_, ?_, ?_, ?_⟩, ?_, fun j hj => ?_, fun j hj => ?_, ?_, fun b' hb' => ?_⟩
  · unfold sD
    rw [c10, sI_succ, n9, sI_cong (g := fun i => w (52 + 64 * i + 9)) (fun i hi => sh i 9 hi (by decide)), s14]
    unfold sD at a1
    rw [a1]
  · unfold sPr
    rw [c10, sI_succ, n7, sI_cong (g := fun i => w (52 + 64 * i + 7)) (fun i hi => sh i 7 hi (by decide)), s11]
    unfold sPr at a2
    rw [a2]
  · rw [s13, s14, s 15 (by omega) (by omega) (by omega) (by omega) (by omega) (by omega), s 16 (by omega) (by omega) (by omega) (by omega) (by omega) (by omega), s 17 (by omega) (by omega) (by omega) (by omega) (by omega) (by omega), a3]
    grind
  · rw [dbt_ch hb (fun c h1 h2 h3 => s c (by omega) (by omega) (by omega) (by omega) h3 (by omega)) sb, s11, s 12 (by omega) (by omega) (by omega) (by omega) (by omega) (by omega), s13, s 17 (by omega) (by omega) (by omega) (by omega) (by omega) (by omega), s 18 (by omega) (by omega) (by omega) (by omega) (by omega) (by omega), s 19 (by omega) (by omega) (by omega) (by omega) (by omega) (by omega), a4]
    grind
  · rw [cN_cong (s 9 (by omega) (by omega) (by omega) (by omega) (by omega) (by omega)), b1]
  · rw [c10] at hj
    by_cases e : j = cN w 10
    · rw [e, n7]
      exact ⟨P, hP, rfl⟩
    · rw [sh j 7 (by omega) (by decide)]
      exact b2 j (by omega)
  · rw [s _ (by omega) (by omega) (by omega) (by omega) (by omega) (by omega)]
    exact b3 j hj
  · rw [s 4 (by omega) (by omega) (by omega) (by omega) (by omega) (by omega)]
    exact b4
  · rw [s _ (by omega) (by omega) (by omega) (by omega) (by omega) (by omega)]
    exact b5 b' hb'
end
