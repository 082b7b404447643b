/-! ===== PURE p29, 1: two rows, the second one d days later ===== -/
def Sh (d : Nat) (w w' : Nat → Int32) : Prop :=
  w' 0 = w 0 + nI d ∧ (∀ c, 1 ≤ c → c < 40 → w' c = w c) ∧ (∀ j, j < 6 → w' (40 + 2 * j) = w (40 + 2 * j) ∧ (w (40 + 2 * j) ≠ -1 → w' (40 + 2 * j + 1) = w (40 + 2 * j + 1) + nI d)) ∧ ∀ i, i < cN w 10 → (∀ k, k < 64 → k ≠ 5 → w' (52 + 64 * i + k) = w (52 + 64 * i + k)) ∧ w' (52 + 64 * i + 5) = w (52 + 64 * i + 5) + nI d
theorem i_shift (x y z : Int32) : x + z - (y + z) = x - y := by grind
theorem GH.five {w : Nat → Int32} {i : Nat} (g : GH w i) : hN w i 5 ≤ 364 := by
  have := g.2.2.2.2.2.2.2.2.2.2.1
  omega
theorem GH.day {w : Nat → Int32} {i k : Nat} (g : GH w i) (hk : k < hN w i 4) : hN w i 5 + k * hN w i 6 ≤ 364 := by
  have h364 := g.2.2.2.2.2.2.2.2.2.2.1
  have : k * hN w i 6 ≤ (hN w i 4 - 1) * hN w i 6 := Nat.mul_le_mul_right _ (by omega)
  omega
section
variable {d : Nat} {w w' : Nat → Int32}
theorem Sh.lo (s : Sh d w w') {c : Nat} (h1 : 1 ≤ c) (h2 : c < 40) : w' c = w c := s.2.1 c h1 h2
theorem Sh.cn (s : Sh d w w') {c : Nat} (h1 : 1 ≤ c) (h2 : c < 40) : cN w' c = cN w c := cN_cong (s.lo h1 h2)
theorem Sh.m (s : Sh d w w') : cN w' 10 = cN w 10 := s.cn (by decide) (by decide)
theorem Sh.day (s : Sh d w w') (g : Good w) : w' 0 = nI (cN w 0 + d) := by rw [s.1, g.1.1, nI_add]
theorem Sh.day' (s : Sh d w w') (g : Good w) (hd : d < 1000) : cN w' 0 = cN w 0 + d := cN_of (s.day g) (by have := g.1.2; omega)
theorem Sh.key (s : Sh d w w') {j : Nat} (hj : j < 6) : w' (40 + 2 * j) = w (40 + 2 * j) := (s.2.2.1 j hj).1
theorem Sh.h (s : Sh d w w') {i k : Nat} (hi : i < cN w 10) (hk : k < 64) (h5 : k ≠ 5) : w' (52 + 64 * i + k) = w (52 + 64 * i + k) := (s.2.2.2 i hi).1 k hk h5
theorem Sh.hn (s : Sh d w w') {i k : Nat} (hi : i < cN w 10) (hk : k < 64) (h5 : k ≠ 5) : hN w' i k = hN w i k := hN_cong (s.h hi hk h5)
theorem Sh.h5 (s : Sh d w w') {i : Nat} (hi : i < cN w 10) (g : GH w i) (hd : d < 1000) : hN w' i 5 = hN w i 5 + d := by
  have h5 := g.five
  refine hN_of ?_ (by omega)
  rw [(s.2.2.2 i hi).2, g.1 5 (by decide), nI_add]
theorem Sh.sBE (s : Sh d w w') {i t k : Nat} (hi : i < cN w 10) (hk : k < 20) : sB w' i t k = sB w i t k := by
  unfold sB
  rw [s.hn hi (by decide) (by decide), s.hn hi (by omega) (by omega)]
theorem Sh.sCE (s : Sh d w w') {i : Nat} (t : Nat) (hi : i < cN w 10) : sC w' i t = sC w i t := fb_ct_cong fun k hk => s.sBE hi hk
theorem Sh.kFE (s : Sh d w w') (x : Int32) : kF w' x = kF w x := sI_cong fun j hj => by rw [s.key hj]
theorem Sh.cHE (s : Sh d w w') {j : Nat} {X Y : Nat → Int32} (h : ∀ i, i < cN w 10 → X i = Y i) : cH w' j X = cH w j Y := by
  unfold cH
  rw [s.m]
  exact sI_cong fun i hi => by rw [s.h hi (by decide) (by decide), h i hi]
theorem Sh.kLE (s : Sh d w w') (g : Good w) (hd : d < 1000) {j : Nat} (hj : j < 6) : kL w' j = kL w j := by
  unfold kL
  rw [s.key hj]
  by_cases h : w (40 + 2 * j) = -1
  · rw [if_pos h, if_pos h]
  · rw [if_neg h, if_neg h]
    rcases g.2.2.2.2.2.2.2.2 j hj with q | ⟨i, due, hi, hdue, q1, q2⟩
    · exact absurd q h
    · have h0 := g.1.2
      rw [(s.2.2.1 j hj).2 h, s.day g, q2, g.1.1, nI_add]
      by_cases c : cN w 0 ≤ due
      · rw [if_pos (nI_le (by omega) (by omega)), if_pos (nI_le c (by omega))]
      · rw [if_neg (nI_ge (by omega) (by omega)), if_neg (nI_ge (by omega) (by omega)), pk_sub (by omega), pk_sub (by omega), show cN w 0 + d - (due + d) = cN w 0 - due by omega]
theorem Sh.kLsE (s : Sh d w w') (g : Good w) (hd : d < 1000) : kLs w' = kLs w := sI_cong fun j hj => by rw [s.kLE g hd hj]
theorem Sh.rfd2E (s : Sh d w w') (g : Good w) (hd : d < 1000) {i k : Nat} (hi : i < cN w 10) (hk : k < hN w i 4) : rfd2 w' i k = rfd2 w i k := by
  have gi := g.2.2.2.2.2.2.2.1 i hi
  unfold rfd2
  rw [s.h5 hi gi hd, s.hn hi (k := 6) (by decide) (by decide), s.hn hi (k := 4) (by decide) (by decide), s.h hi (k := 7) (by decide) (by decide), s.1, show hN w i 5 + d + k * hN w i 6 = hN w i 5 + k * hN w i 6 + d by omega, ← nI_add, i_shift]
theorem Sh.kOnE (s : Sh d w w') (g : Good w) (hd : d < 1000) {i D : Nat} (hi : i < cN w 10) : kOn w' i (D + d) = kOn w i D := by
  unfold kOn
  rw [s.h5 hi (g.2.2.2.2.2.2.2.1 i hi) hd, s.hn hi (k := 6) (by decide) (by decide), show D + d - (hN w i 5 + d) = D - hN w i 5 by omega]
theorem Sh.onBE (s : Sh d w w') (g : Good w) (hd : d < 1000) (i D : Nat) : onB w' i (D + d) = onB w i D := by
  unfold onB
  rw [s.m]
  by_cases hi : i < cN w 10
  · have gi := g.2.2.2.2.2.2.2.1 i hi
    rw [s.kOnE g hd hi, s.h5 hi gi hd, s.hn hi (k := 6) (by decide) (by decide), s.hn hi (k := 4) (by decide) (by decide), show D + d - (hN w i 5 + d) = D - hN w i 5 by omega]
    have e : decide (hN w i 5 + d ≤ D + d) = decide (hN w i 5 ≤ D) := by
      rw [Bool.eq_iff_iff, decide_eq_true_iff, decide_eq_true_iff]
      omega
    rw [e]
    by_cases hk : kOn w i D < hN w i 4
    · have h20 := gi.2.2.2.2.2.2.2.1
      rw [s.hn hi (k := 12 + kOn w i D) (by omega) (by omega)]
    · simp [hk]
  · simp [hi]
theorem Sh.candE (s : Sh d w w') (g : Good w) (hd : d < 1000) (h r f t : Int32) (D i : Nat) : cand w' h r f t (D + d) i = cand w h r f t D i := by
  unfold cand
  rw [s.onBE g hd]
  by_cases hi : i < cN w 10
  · unfold gI
    rw [s.h hi (by decide) (by decide), s.h hi (by decide) (by decide), s.h hi (by decide) (by decide), s.h hi (by decide) (by decide), s.lo (c := 5) (by decide) (by decide)]
  · have : onB w i D = false := Bool.eq_false_iff.mpr fun z => hi (onB_i z)
    simp only [this, Bool.false_and]
theorem Sh.bstE (s : Sh d w w') (g : Good w) (hd : d < 1000) (h r f t : Int32) (D : Nat) : ∀ n, bst w' h r f t (D + d) n = bst w h r f t D n
  | 0 => rfl
  | n + 1 => by
    rw [bst_s, bst_s, s.candE g hd, Sh.bstE s g hd h r f t D n]
    by_cases c : cand w h r f t D n = true
    · rw [if_pos c, if_pos c]
      have hn := cand_m c
      cases q : bst w h r f t D n with
      | none => rfl
      | some b =>
        have hb := cand_m (bst_lt q).2
        dsimp only
        rw [s.h hn (by decide) (by decide), s.h hb (by decide) (by decide)]
    · rw [if_neg c, if_neg c]
theorem Sh.sOfE (s : Sh d w w') (g : Good w) (hd : d < 1000) (h r f t : Int32) (D n : Nat) : sOf w' (D + d) (bst w' h r f t (D + d) n) = sOf w D (bst w h r f t D n) := by
  rw [s.bstE g hd]
  cases q : bst w h r f t D n with
  | none => rfl
  | some b =>
    show nI (20 * b + kOn w' b (D + d)) = nI (20 * b + kOn w b D)
    rw [s.kOnE g hd (cand_m (bst_lt q).2)]
theorem Sh.sNE (s : Sh d w w') : sN w' = sN w := by
  unfold sN
  rw [s.m]
  exact sI_cong fun i hi => by rw [s.h hi (by decide) (by decide), s.sCE 2 hi]
theorem Sh.sRE (s : Sh d w w') : sR w' = sR w := by
  unfold sR
  rw [s.m]
  exact sI_cong fun i hi => by rw [s.h hi (by decide) (by decide), s.h hi (by decide) (by decide), s.h hi (by decide) (by decide), s.sCE 1 hi]
theorem Sh.pPE (s : Sh d w w') (rooms : Int32) (f t n : Nat) : pP w' rooms f t n = pP w rooms f t n := by
  have e : pS w' rooms f t = pS w rooms f t := sI_cong fun k hk => by
    unfold pR pX
    rw [s.lo (c := 1 + k) (by omega) (by omega), s.lo (c := 4) (by decide) (by decide)]
  unfold pP
  rw [e]
theorem Sh.lpSE (s : Sh d w w') {i : Nat} (hi : i < cN w 10) : ∀ n, n ≤ 20 → lpS w' i n = lpS w i n
  | 0, _ => rfl
  | n + 1, h => by rw [lpS_s, lpS_s, s.hn hi (by omega) (by omega), Sh.lpSE s hi n (by omega)]
theorem Sh.fTE (s : Sh d w w') {i k : Nat} (hi : i < cN w 10) (hk : k ≤ 8) : fT w' i k = fT w i k := fb_ct_cong fun c hc => by rw [s.h hi (k := 32 + 4 * c) (by omega) (by omega)]
/-! the same change in both rows -/
theorem Sh.updE (s : Sh d w w') {c : Nat} (h1 : 1 ≤ c) (h2 : c < 40) (h10 : c ≠ 10) (x : Int32) : Sh d (upd w c x) (upd w' c x) := by
  refine ⟨?_, fun q a b => ?_, fun j hj => ?_, fun i hi => ?_⟩
  · rw [upn _ _ (by omega), upn _ _ (by omega)]; exact s.1
  · rw [upe, upe, s.lo a b]
  · rw [upn _ _ (by omega), upn _ _ (by omega), upn _ _ (by omega), upn _ _ (by omega)]; exact s.2.2.1 j hj
  · rw [cN_cong (upn _ _ (Ne.symm h10))] at hi
    refine ⟨fun k hk h5 => ?_, ?_⟩
    · rw [upn _ _ (by omega), upn _ _ (by omega)]; exact s.h hi hk h5
    · rw [upn _ _ (by omega), upn _ _ (by omega)]; exact (s.2.2.2 i hi).2
/-- changes by places: alike where they aren't days -/
theorem Sh.mk2 {v v' : Nat → Int32} (s : Sh d w w') (hm : cN v 10 = cN w 10) (h0 : v' 0 = v 0 + nI d) (lo : ∀ c, 1 ≤ c → c < 40 → w' c = w c → v' c = v c) (ks : ∀ j, j < 6 → v' (40 + 2 * j) = v (40 + 2 * j) ∧ (v (40 + 2 * j) ≠ -1 → v' (40 + 2 * j + 1) = v (40 + 2 * j + 1) + nI d)) (hs : ∀ i, i < cN w 10 → (∀ k, k < 64 → k ≠ 5 → w' (52 + 64 * i + k) = w (52 + 64 * i + k) → v' (52 + 64 * i + k) = v (52 + 64 * i + k)) ∧ (w' (52 + 64 * i + 5) = w (52 + 64 * i + 5) + nI d → v' (52 + 64 * i + 5) = v (52 + 64 * i + 5) + nI d)) : Sh d v v' :=
  ⟨h0, fun c a b => lo c a b (s.lo a b), ks, fun i hi => by
    rw [hm] at hi
    exact ⟨fun k hk h5 => (hs i hi).1 k hk h5 (s.h hi hk h5), (hs i hi).2 (s.2.2.2 i hi).2⟩⟩
end
