/-! ===== PURE 10: small changes keep the relation ===== -/
theorem cN_cong {w w' : Nat → Int32} {c : Nat} (h : w' c = w c) : cN w' c = cN w c := by
  unfold cN
  rw [h]
section
variable {v v' : xV} {w w' : Nat → Int32}
theorem GH.re {i : Nat} (g : GH w i) (s : ∀ k, k < 9 → w' (52 + 64 * i + k) = w (52 + 64 * i + k)) (h9 : cN w 9 ≤ cN w' 9) (d9 : w' (52 + 64 * i + 9) = nI (hN w' i 9)) (d9' : hN w' i 9 ≤ 50000) (s10 : w' (52 + 64 * i + 10) = 0 ∨ w' (52 + 64 * i + 10) = 1) (f11 : w' (52 + 64 * i + 11) = nI (hN w' i 11)) (f11' : hN w' i 11 ≤ 8) (st : ∀ k, k < hN w i 4 → w' (52 + 64 * i + (12 + k)) = nI (hN w' i (12 + k)) ∧ hN w' i (12 + k) ≤ 2 ∧ (hN w' i (12 + k) = 1 → hN w i 5 + k * hN w i 6 < cN w' 0)) : GH w' i := by
  obtain ⟨g1, g2, g3, g4, g5, g6, g7, g8, g9, g10, g11, g12, g13, g14, g15, g16, g17, g18⟩ := g
  have e : ∀ k, k < 9 → hN w' i k = hN w i k := fun k hk => hN_cong (s k hk)
  unfold GH
  rw [e 0 (by decide), e 1 (by decide), e 2 (by decide), e 3 (by decide), e 4 (by decide), e 5 (by decide), e 6 (by decide), s 8 (by decide)]
  refine ⟨fun k hk => ?_, by omega, g3, g4, g5, g6, g7, g8, g9, g10, g11, g12, d9, d9', s10, f11, f11', st⟩
  rw [s k (by omega), e k (by omega)]
  exact g1 k hk
theorem RB.money (r : RB v w) (hw : ∀ c, c < 11 ∨ 40 ≤ c → w' c = w c) (hv : ∀ k, k ≠ 2 → k ≠ 3 → k ≠ 4 → v' k = v k) (h2 : ∀ j, j < 9 → v' 2 j = w' (11 + j)) (h34 : ∀ j, j < 10 → v' 3 j = w' (20 + 2 * j) ∧ v' 4 j = w' (20 + 2 * j + 1)) : RB v' w' := by
  obtain ⟨⟨g1, g2, g3, g4, g5, g6, g7, g8, g9⟩, ⟨s1, s2⟩, ⟨r1, r2, r3⟩, r4, r5, r6, r7, r8, r9⟩ := r
  have c : ∀ c, c < 11 → cN w' c = cN w c := fun c hc => cN_cong (hw c (Or.inl hc))
  have h12 := g3.2
  refine ⟨⟨?_, ?_, ?_, ?_, ?_, ?_, ?_, fun i hi => ?_, fun j hj => ?_⟩, ⟨fun i hi => ?_, fun j hj => ?_⟩, ⟨?_, ?_, ?_⟩, fun j hj => ?_, h2, h34, fun j hj => ?_, fun i hi => ?_, fun i h1 h2 => ?_⟩
  · rw [hw 0 (by decide), c 0 (by decide)]; exact g1
  · rw [hw 9 (by decide), c 9 (by decide)]; exact g2
  · rw [hw 10 (by decide), c 10 (by decide)]; exact g3
  · rw [hw 5 (by decide), c 5 (by decide)]; exact g4
  · rw [hw 6 (by decide), c 6 (by decide)]; exact g5
  · rw [hw 7 (by decide), c 7 (by decide)]; exact g6
  · rw [hw 8 (by decide), c 8 (by decide)]; exact g7
  · rw [c 10 (by decide)] at hi
    exact (g8 i hi).cong (fun k hk => hw _ (by omega)) (by rw [c 9 (by decide)]; exact Nat.le_refl _) (by rw [c 0 (by decide)]; exact Nat.le_refl _)
  · exact (g9 j hj).cong (hw _ (by omega)) (hw _ (by omega)) (by rw [c 10 (by decide)]; exact Nat.le_refl _)
  · rw [hv _ (by omega) (by omega) (by omega)]; exact s1 i hi
  · rw [hv _ (by omega) (by omega) (by omega)]; exact s2 j hj
  · rw [hv _ (by decide) (by decide) (by decide), hw 0 (by decide)]; exact r1
  · rw [hv _ (by decide) (by decide) (by decide), hw 9 (by decide)]; exact r2
  · rw [hv _ (by decide) (by decide) (by decide), hw 10 (by decide)]; exact r3
  · rw [hv _ (by decide) (by decide) (by decide), hw _ (by omega)]; exact r4 j hj
  · rw [hv _ (by omega) (by omega) (by omega), hw _ (by omega), hw _ (by omega)]; exact r7 j hj
  · rw [c 10 (by decide)] at hi
    exact (r8 i hi).cong ((g8 i hi).2.2.2.2.2.2.2.2.2.2.2.2.2.2.2.2.1) (fun k hk => hw _ (by omega)) (fun k _ => by rw [hv _ (by omega) (by omega) (by omega)]) (fun k _ => by rw [hv _ (by omega) (by omega) (by omega)])
  · rw [c 10 (by decide)] at h1
    unfold RE
    rw [hv _ (by omega) (by omega) (by omega)]
    exact r9 i h1 h2
theorem RB.hire {i : Nat} (r : RB v w) (hi : i < cN w 10) (hw : ∀ c, c < 52 + 64 * i ∨ 52 + 64 * i + 64 ≤ c → w' c = w c) (hv : ∀ k, k ≠ 6 + 2 * i → k ≠ 7 + 2 * i → v' k = v k) (hn : v' (6 + 2 * i) 0 = v (6 + 2 * i) 0) (gi : GH w' i) (hh : RH v' w' i) : RB v' w' := by
  obtain ⟨⟨g1, g2, g3, g4, g5, g6, g7, g8, g9⟩, ⟨s1, s2⟩, ⟨r1, r2, r3⟩, r4, r5, r6, r7, r8, r9⟩ := r
  have c : ∀ c, c < 52 → cN w' c = cN w c := fun c hc => cN_cong (hw c (Or.inl (by omega)))
  have h12 := g3.2
  refine ⟨⟨?_, ?_, ?_, ?_, ?_, ?_, ?_, fun j hj => ?_, fun j hj => ?_⟩, ⟨fun j hj => ?_, fun j hj => ?_⟩, ⟨?_, ?_, ?_⟩, fun j hj => ?_, fun j hj => ?_, fun j hj => ?_, fun j hj => ?_, fun j hj => ?_, fun j h1 h2 => ?_⟩
  · rw [hw 0 (by omega), c 0 (by decide)]; exact g1
  · rw [hw 9 (by omega), c 9 (by decide)]; exact g2
  · rw [hw 10 (by omega), c 10 (by decide)]; exact g3
  · rw [hw 5 (by omega), c 5 (by decide)]; exact g4
  · rw [hw 6 (by omega), c 6 (by decide)]; exact g5
  · rw [hw 7 (by omega), c 7 (by decide)]; exact g6
  · rw [hw 8 (by omega), c 8 (by decide)]; exact g7
  · rw [c 10 (by decide)] at hj
    by_cases e : j = i
    · subst e; exact gi
    · exact (g8 j hj).cong (fun k hk => hw _ (by omega)) (by rw [c 9 (by decide)]; exact Nat.le_refl _) (by rw [c 0 (by decide)]; exact Nat.le_refl _)
  · exact (g9 j hj).cong (hw _ (by omega)) (hw _ (by omega)) (by rw [c 10 (by decide)]; exact Nat.le_refl _)
  · by_cases e : j = i
    · subst e; rw [hn]; exact s1 j hj
    · rw [hv _ (by omega) (by omega)]; exact s1 j hj
  · rw [hv _ (by omega) (by omega)]; exact s2 j hj
  · rw [hv _ (by omega) (by omega), hw 0 (by omega)]; exact r1
  · rw [hv _ (by omega) (by omega), hw 9 (by omega)]; exact r2
  · rw [hv _ (by omega) (by omega), hw 10 (by omega)]; exact r3
  · rw [hv _ (by omega) (by omega), hw _ (by omega)]; exact r4 j hj
  · rw [hv _ (by omega) (by omega), hw _ (by omega)]; exact r5 j hj
  · rw [hv _ (by omega) (by omega), hv _ (by omega) (by omega), hw _ (by omega), hw _ (by omega)]; exact r6 j hj
  · rw [hv _ (by omega) (by omega), hw _ (by omega), hw _ (by omega)]; exact r7 j hj
  · rw [c 10 (by decide)] at hj
    by_cases e : j = i
    · subst e; exact hh
    · exact (r8 j hj).cong ((g8 j hj).2.2.2.2.2.2.2.2.2.2.2.2.2.2.2.2.1) (fun k hk => hw _ (by omega)) (fun k _ => by rw [hv _ (by omega) (by omega)]) (fun k _ => by rw [hv _ (by omega) (by omega)])
  · rw [c 10 (by decide)] at h1
    unfold RE
    rw [hv _ (by omega) (by omega)]
    exact r9 j h1 h2
theorem RB.keys (r : RB v w) (hw : ∀ c, c < 40 ∨ 52 ≤ c → w' c = w c) (hv : ∀ k, k < 31 ∨ 37 ≤ k → v' k = v k) (h0 : ∀ j, j < 6 → v' (31 + j) 0 = v (31 + j) 0) (gk : ∀ j, j < 6 → GK w' j) (rk : ∀ j, j < 6 → v' (31 + j) 1 = w' (40 + 2 * j) ∧ (w' (40 + 2 * j) ≠ -1 → v' (31 + j) 2 = w' (40 + 2 * j + 1))) : RB v' w' := by
  obtain ⟨⟨g1, g2, g3, g4, g5, g6, g7, g8, g9⟩, ⟨s1, s2⟩, ⟨r1, r2, r3⟩, r4, r5, r6, r7, r8, r9⟩ := r
  have c : ∀ c, c < 40 → cN w' c = cN w c := fun c hc => cN_cong (hw c (Or.inl (by omega)))
  have h12 := g3.2
  refine ⟨⟨?_, ?_, ?_, ?_, ?_, ?_, ?_, fun j hj => ?_, gk⟩, ⟨fun j hj => ?_, fun j hj => ?_⟩, ⟨?_, ?_, ?_⟩, fun j hj => ?_, fun j hj => ?_, fun j hj => ?_, rk, fun j hj => ?_, fun j h1 h2 => ?_⟩
  · rw [hw 0 (by omega), c 0 (by decide)]; exact g1
  · rw [hw 9 (by omega), c 9 (by decide)]; exact g2
  · rw [hw 10 (by omega), c 10 (by decide)]; exact g3
  · rw [hw 5 (by omega), c 5 (by decide)]; exact g4
  · rw [hw 6 (by omega), c 6 (by decide)]; exact g5
  · rw [hw 7 (by omega), c 7 (by decide)]; exact g6
  · rw [hw 8 (by omega), c 8 (by decide)]; exact g7
  · rw [c 10 (by decide)] at hj
    exact (g8 j hj).cong (fun k hk => hw _ (by omega)) (by rw [c 9 (by decide)]; exact Nat.le_refl _) (by rw [c 0 (by decide)]; exact Nat.le_refl _)
  · rw [hv _ (by omega)]; exact s1 j hj
  · rw [h0 j hj]; exact s2 j hj
  · rw [hv _ (by omega), hw 0 (by omega)]; exact r1
  · rw [hv _ (by omega), hw 9 (by omega)]; exact r2
  · rw [hv _ (by omega), hw 10 (by omega)]; exact r3
  · rw [hv _ (by omega), hw _ (by omega)]; exact r4 j hj
  · rw [hv _ (by omega), hw _ (by omega)]; exact r5 j hj
  · rw [hv _ (by omega), hv _ (by omega), hw _ (by omega), hw _ (by omega)]; exact r6 j hj
  · rw [c 10 (by decide)] at hj
    exact (r8 j hj).cong ((g8 j hj).2.2.2.2.2.2.2.2.2.2.2.2.2.2.2.2.1) (fun k hk => hw _ (by omega)) (fun k _ => by rw [hv _ (by omega)]) (fun k _ => by rw [hv _ (by omega)])
  · rw [c 10 (by decide)] at h1
    unfold RE
    rw [hv _ (by omega)]
    exact r9 j h1 h2
/-- settings, hirers (they may grow) -/
theorem RB.heads (r : RB v w) (hw : ∀ c, c = 0 ∨ 10 ≤ c → w' c = w c) (hv : ∀ k, 2 ≤ k → v' k = v k) (hv0 : v' 0 0 = v 0 0) (hv2 : v' 0 2 = v 0 2) (hv1 : v' 0 1 = w' 9) (h9 : w' 9 = nI (cN w' 9)) (h9' : cN w' 9 ≤ 10) (hge : cN w 9 ≤ cN w' 9) (hs : ∀ j, j < 8 → v' 1 j = w' (1 + j)) (g5 : w' 5 = nI (cN w' 5) ∧ cN w' 5 ≤ 3) (g6 : w' 6 = nI (cN w' 6) ∧ cN w' 6 ≤ 50000) (g7 : w' 7 = nI (cN w' 7) ∧ cN w' 7 ≤ 5000) (g8 : w' 8 = nI (cN w' 8) ∧ cN w' 8 ≤ 30) : RB v' w' := by
  obtain ⟨⟨g1, g2, g3, -, -, -, -, gh, gk⟩, ⟨s1, s2⟩, ⟨r1, r2, r3⟩, r4, r5, r6, r7, r8, r9⟩ := r
  have c : ∀ c, c = 0 ∨ 10 ≤ c → cN w' c = cN w c := fun c hc => cN_cong (hw c hc)
  refine ⟨⟨?_, ⟨h9, h9'⟩, ?_, g5, g6, g7, g8, fun j hj => ?_, fun j hj => ?_⟩, ⟨fun j hj => ?_, fun j hj => ?_⟩, ⟨?_, hv1, ?_⟩, hs, fun j hj => ?_, fun j hj => ?_, fun j hj => ?_, fun j hj => ?_, fun j h1 h2 => ?_⟩
  · rw [hw 0 (by omega), c 0 (by omega)]; exact g1
  · rw [hw 10 (by omega), c 10 (by omega)]; exact g3
  · rw [c 10 (by omega)] at hj
    exact (gh j hj).cong (fun k hk => hw _ (by omega)) hge (by rw [c 0 (by omega)]; exact Nat.le_refl _)
  · exact (gk j hj).cong (hw _ (by omega)) (hw _ (by omega)) (by rw [c 10 (by omega)]; exact Nat.le_refl _)
  · rw [hv _ (by omega)]; exact s1 j hj
  · rw [hv _ (by omega)]; exact s2 j hj
  · rw [hv0, hw 0 (by omega)]; exact r1
  · rw [hv2, hw 10 (by omega)]; exact r3
  · rw [hv _ (by omega), hw _ (by omega)]; exact r5 j hj
  · rw [hv _ (by omega), hv _ (by omega), hw _ (by omega), hw _ (by omega)]; exact r6 j hj
  · rw [hv _ (by omega), hw _ (by omega), hw _ (by omega)]; exact r7 j hj
  · rw [c 10 (by omega)] at hj
    exact (r8 j hj).cong ((gh j hj).2.2.2.2.2.2.2.2.2.2.2.2.2.2.2.2.1) (fun k hk => hw _ (by omega)) (fun k _ => by rw [hv _ (by omega)]) (fun k _ => by rw [hv _ (by omega)])
  · rw [c 10 (by omega)] at h1
    unfold RE
    rw [hv _ (by omega)]
    exact r9 j h1 h2
theorem RB.accS (r : RB v w) {q : Nat} (hq : q < 9) (y : Int32) : RB (upd2 v 2 q y) (upd w (11 + q) y) := by
  refine r.money (fun c hc => upn _ _ (by omega)) (fun k h1 _ _ => u2k _ _ h1) (fun j hj => ?_) (fun j hj => ?_)
  · rw [u2r, upe, upe]
    by_cases e : j = q
    · subst e; rw [if_pos rfl, if_pos rfl]
    · rw [if_neg e, if_neg (by omega)]; exact r.acc hj
  · rw [u2k _ _ (by decide), u2k _ _ (by decide), upn _ _ (by omega), upn _ _ (by omega)]
    exact ⟨r.ch hj, r.pd hj⟩
theorem RB.chS (r : RB v w) {b : Nat} (hb : b < 10) (y : Int32) : RB (upd2 v 3 b y) (upd w (20 + 2 * b) y) := by
  refine r.money (fun c hc => upn _ _ (by omega)) (fun k _ h1 _ => u2k _ _ h1) (fun j hj => ?_) (fun j hj => ?_)
  · rw [u2k _ _ (by decide), upn _ _ (by omega)]
    exact r.acc hj
  · rw [u2r, u2k _ _ (by decide), upe, upe, upn _ _ (by omega)]
    refine ⟨?_, r.pd hj⟩
    by_cases e : j = b
    · subst e; rw [if_pos rfl, if_pos rfl]
    · rw [if_neg e, if_neg (by omega)]; exact r.ch hj
theorem RB.pdS (r : RB v w) {b : Nat} (hb : b < 10) (y : Int32) : RB (upd2 v 4 b y) (upd w (20 + 2 * b + 1) y) := by
  refine r.money (fun c hc => upn _ _ (by omega)) (fun k _ _ h1 => u2k _ _ h1) (fun j hj => ?_) (fun j hj => ?_)
  · rw [u2k _ _ (by decide), upn _ _ (by omega)]
    exact r.acc hj
  · refine ⟨?_, ?_⟩
    · rw [u2k _ _ (by decide), upn _ _ (by omega)]
      exact r.ch hj
    · rw [u2r, upe, upe]
      by_cases e : j = b
      · subst e; rw [if_pos rfl, if_pos rfl]
      · rw [if_neg e, if_neg (by omega)]; exact r.pd hj
theorem RH.mk2 {i : Nat} (r : RH v w i) (s : ∀ k, k < 8 → w' (52 + 64 * i + k) = w (52 + 64 * i + k)) (hv : ∀ k, 1 ≤ k → k < 9 → v' (6 + 2 * i) k = v (6 + 2 * i) k) (h11 : v' (6 + 2 * i) 11 = w' (52 + 64 * i + 9)) (h12 : v' (6 + 2 * i) 12 = w' (52 + 64 * i + 11)) (h13 : v' (6 + 2 * i) 13 = w' (52 + 64 * i + 10)) (b1 : bm (v' (6 + 2 * i) 9) (sB w' i 1)) (b2 : bm (v' (6 + 2 * i) 10) (sB w' i 2)) (f : ∀ c, c < 4 * hN w' i 11 → v' (7 + 2 * i) c = w' (52 + 64 * i + (32 + c))) : RH v' w' i := by
  obtain ⟨⟨r1, r2, r3, r4, r5, r6, r7, r8⟩, -⟩ := r
  refine ⟨⟨?_, ?_, ?_, ?_, ?_, ?_, ?_, ?_⟩, ⟨h11, h12, h13⟩, b1, b2, f⟩
  · rw [hv 1 (by decide) (by decide), s 0 (by decide)]; exact r1
  · rw [hv 2 (by decide) (by decide), s 1 (by decide)]; exact r2
  · rw [hv 3 (by decide) (by decide), s 2 (by decide)]; exact r3
  · rw [hv 4 (by decide) (by decide), s 3 (by decide)]; exact r4
  · rw [hv 5 (by decide) (by decide), s 4 (by decide)]; exact r5
  · rw [hv 6 (by decide) (by decide), s 5 (by decide)]; exact r6
  · rw [hv 7 (by decide) (by decide), s 6 (by decide)]; exact r7
  · rw [hv 8 (by decide) (by decide), s 7 (by decide)]; exact r8
theorem sB_up {i c s k : Nat} {x : Int32} (h : c ≠ 4) (h2 : ∀ k, k < 20 → c ≠ 12 + k) (hk : k < 20) : sB w i s k = sB (upd w (52 + 64 * i + c) x) i s k := by
  unfold sB
  rw [hN_cong (w' := upd w (52 + 64 * i + c) x) (k := 4) (upn _ _ (by omega)), hN_cong (w' := upd w (52 + 64 * i + c) x) (k := 12 + k) (upn _ _ (by have := h2 k hk; omega))]
theorem GH.same {i : Nat} (g : GH w i) {c : Nat} {x : Int32} (hc : 32 ≤ c) (hc2 : c < 64) : GH (upd w (52 + 64 * i + c) x) i :=
  g.cong (fun k hk => upn _ _ (by omega)) (by rw [cN_cong (upn _ _ (by omega))]; exact Nat.le_refl _) (by rw [cN_cong (upn _ _ (by omega))]; exact Nat.le_refl _)
theorem RB.depS (r : RB v w) {i n : Nat} (hi : i < cN w 10) (hn : n ≤ 50000) : RB (upd2 v (6 + 2 * i) 11 (nI n)) (upd w (52 + 64 * i + 9) (nI n)) := by
  have g := r.g hi
  have h := r.h hi
  have h12 := r.m12
  have s : ∀ k, k ≠ 9 → upd w (52 + 64 * i + 9) (nI n) (52 + 64 * i + k) = w (52 + 64 * i + k) := fun k hk => upn _ _ (by omega)
  have e9 : hN (upd w (52 + 64 * i + 9) (nI n)) i 9 = n := hN_of (upp _ _ _) (by omega)
  have c : ∀ c, c < 52 → cN (upd w (52 + 64 * i + 9) (nI n)) c = cN w c := fun c hc => cN_cong (upn _ _ (by omega))
  have e11 : hN (upd w (52 + 64 * i + 9) (nI n)) i 11 = hN w i 11 := hN_cong (s 11 (by decide))
  obtain ⟨g1, g2, g3, g4, g5, g6, g7, g8, g9, g10, g11, g12, g13, g14, g15, g16, g17, g18⟩ := id g
  refine r.hire hi (fun c hc => upn _ _ (by omega)) (fun k h1 _ => u2k _ _ h1) (u2j _ _ (by decide)) ?_ ?_
  · refine g.re (fun k hk => s k (by omega)) (by rw [c 9 (by decide)]; exact Nat.le_refl _) (by rw [e9, upp]) (by rw [e9]; exact hn) (by rw [s 10 (by decide)]; exact g15) (by rw [s 11 (by decide), e11]; exact g16) (by rw [e11]; exact g17) (fun k hk => ?_)
    rw [s (12 + k) (by omega), hN_cong (s (12 + k) (by omega)), c 0 (by decide)]
    exact g18 k hk
  · refine h.mk2 (fun k hk => s k (by omega)) (fun k h1 h2 => u2j _ _ (by omega)) (by rw [u2s, upp]) (by rw [u2j _ _ (by decide), s 11 (by decide)]; exact h.2.1.2.1) (by rw [u2j _ _ (by decide), s 10 (by decide)]; exact h.2.1.2.2) ?_ ?_ (fun cc hc => ?_)
    · rw [u2j _ _ (by decide)]
      exact bm_cong h.2.2.1 fun k hk => sB_up (by decide) (fun k _ => by omega) hk
    · rw [u2j _ _ (by decide)]
      exact bm_cong h.2.2.2.1 fun k hk => sB_up (by decide) (fun k _ => by omega) hk
    · rw [e11] at hc
      rw [u2k _ _ (by omega), s (32 + cc) (by omega)]
      exact h.2.2.2.2 cc hc
theorem RB.setS (r : RB v w) {i : Nat} (hi : i < cN w 10) : RB (upd2 v (6 + 2 * i) 13 1) (upd w (52 + 64 * i + 10) 1) := by
  have g := r.g hi
  have h := r.h hi
  have h12 := r.m12
  have s : ∀ k, k ≠ 10 → upd w (52 + 64 * i + 10) 1 (52 + 64 * i + k) = w (52 + 64 * i + k) := fun k hk => upn _ _ (by omega)
  have c : ∀ c, c < 52 → cN (upd w (52 + 64 * i + 10) 1) c = cN w c := fun c hc => cN_cong (upn _ _ (by omega))
  have e11 : hN (upd w (52 + 64 * i + 10) 1) i 11 = hN w i 11 := hN_cong (s 11 (by decide))
  have e9 : hN (upd w (52 + 64 * i + 10) 1) i 9 = hN w i 9 := hN_cong (s 9 (by decide))
  obtain ⟨g1, g2, g3, g4, g5, g6, g7, g8, g9, g10, g11, g12, g13, g14, g15, g16, g17, g18⟩ := id g
  refine r.hire hi (fun c hc => upn _ _ (by omega)) (fun k h1 _ => u2k _ _ h1) (u2j _ _ (by decide)) ?_ ?_
  · refine g.re (fun k hk => s k (by omega)) (by rw [c 9 (by decide)]; exact Nat.le_refl _) (by rw [e9, s 9 (by decide)]; exact g13) (by rw [e9]; exact g14) (by rw [upp]; exact Or.inr rfl) (by rw [s 11 (by decide), e11]; exact g16) (by rw [e11]; exact g17) (fun k hk => ?_)
    rw [s (12 + k) (by omega), hN_cong (s (12 + k) (by omega)), c 0 (by decide)]
    exact g18 k hk
  · refine h.mk2 (fun k hk => s k (by omega)) (fun k h1 h2 => u2j _ _ (by omega)) (by rw [u2j _ _ (by decide), s 9 (by decide)]; exact h.2.1.1) (by rw [u2j _ _ (by decide), s 11 (by decide)]; exact h.2.1.2.1) (by rw [u2s, upp]) ?_ ?_ (fun cc hc => ?_)
    · rw [u2j _ _ (by decide)]
      exact bm_cong h.2.2.1 fun k hk => sB_up (by decide) (fun k _ => by omega) hk
    · rw [u2j _ _ (by decide)]
      exact bm_cong h.2.2.2.1 fun k hk => sB_up (by decide) (fun k _ => by omega) hk
    · rw [e11] at hc
      rw [u2k _ _ (by omega), s (32 + cc) (by omega)]
      exact h.2.2.2.2 cc hc
/-- a session is cancelled -/
theorem RB.canS (r : RB v w) {i k : Nat} (hi : i < cN w 10) (hk : k < hN w i 4) (h0 : hN w i (12 + k) = 0) : RB (upd2 v (6 + 2 * i) 10 (v (6 + 2 * i) 10 ||| ((1 : Int32) <<< (nI k &&& 31)))) (upd w (52 + 64 * i + (12 + k)) 2) := by
  have g := r.g hi
  have h := r.h hi
  have h12 := r.m12
  obtain ⟨g1, g2, g3, g4, g5, g6, g7, g8, g9, g10, g11, g12, g13, g14, g15, g16, g17, g18⟩ := id g
  have s : ∀ j, j ≠ 12 + k → upd w (52 + 64 * i + (12 + k)) 2 (52 + 64 * i + j) = w (52 + 64 * i + j) := fun j hj => upn _ _ (by omega)
  have c : ∀ c, c < 52 → cN (upd w (52 + 64 * i + (12 + k)) 2) c = cN w c := fun c hc => cN_cong (upn _ _ (by omega))
  have e11 : hN (upd w (52 + 64 * i + (12 + k)) 2) i 11 = hN w i 11 := hN_cong (s 11 (by omega))
  have e9 : hN (upd w (52 + 64 * i + (12 + k)) 2) i 9 = hN w i 9 := hN_cong (s 9 (by omega))
  have e4 : hN (upd w (52 + 64 * i + (12 + k)) 2) i 4 = hN w i 4 := hN_cong (s 4 (by omega))
  have ek : hN (upd w (52 + 64 * i + (12 + k)) 2) i (12 + k) = 2 := hN_of (n := 2) (upp _ _ _) (by decide)
  refine r.hire hi (fun c hc => upn _ _ (by omega)) (fun k h1 _ => u2k _ _ h1) (u2j _ _ (by decide)) ?_ ?_
  · refine g.re (fun k hk => s k (by omega)) (by rw [c 9 (by decide)]; exact Nat.le_refl _) (by rw [e9, s 9 (by omega)]; exact g13) (by rw [e9]; exact g14) (by rw [s 10 (by omega)]; exact g15) (by rw [s 11 (by omega), e11]; exact g16) (by rw [e11]; exact g17) (fun j hj => ?_)
    by_cases e : j = k
    · subst e
      rw [ek, upp]
      exact ⟨rfl, by decide, fun z => by cases z⟩
    · rw [s (12 + j) (by omega), hN_cong (s (12 + j) (by omega)), c 0 (by decide)]
      exact g18 j hj
  · refine h.mk2 (fun k hk => s k (by omega)) (fun k h1 h2 => u2j _ _ (by omega)) (by rw [u2j _ _ (by decide), s 9 (by omega)]; exact h.2.1.1) (by rw [u2j _ _ (by decide), s 11 (by omega)]; exact h.2.1.2.1) (by rw [u2j _ _ (by decide), s 10 (by omega)]; exact h.2.1.2.2) ?_ ?_ (fun cc hc => ?_)
    · rw [u2j _ _ (by decide)]
      refine bm_cong h.2.2.1 fun j hj => ?_
      unfold sB
      rw [e4]
      by_cases e : j = k
      · subst e
        rw [ek, h0]
        rfl
      · rw [hN_cong (s (12 + j) (by omega))]
    · rw [u2s]
      refine bm_cong (bm_set h.2.2.2.1 (by omega)) fun j hj => ?_
      unfold sB
      rw [e4]
      by_cases e : j = k
      · subst e
        rw [ek]
        simp [hk]
      · rw [hN_cong (s (12 + j) (by omega))]
        simp [e]
    · rw [e11] at hc
      rw [u2k _ _ (by omega), s (32 + cc) (by omega)]
      exact h.2.2.2.2 cc hc
end
