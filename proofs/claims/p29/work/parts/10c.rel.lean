/-! ===== PURE 2: how the two states hang together ===== -/
/-- the number in a cell of the model's row; the number k of its hire i -/
def cN (w : Nat → Int32) (c : Nat) : Nat := (w c).toNatClampNeg
def hN (w : Nat → Int32) (i k : Nat) : Nat := (w (52 + 64 * i + k)).toNatClampNeg
def dcI (n : Nat) : Int32 := if n < 4 then 0 else if n < 10 then 10 else 20
def GH (w : Nat → Int32) (i : Nat) : Prop :=
  (∀ k, k < 7 → w (52 + 64 * i + k) = nI (hN w i k)) ∧ hN w i 0 < cN w 9 ∧ 1 ≤ hN w i 1 ∧ hN w i 1 ≤ 7 ∧ hN w i 2 < hN w i 3 ∧ hN w i 3 ≤ 24 ∧ 1 ≤ hN w i 4 ∧ hN w i 4 ≤ 20 ∧ 1 ≤ hN w i 6 ∧ hN w i 6 ≤ 60 ∧ hN w i 5 + (hN w i 4 - 1) * hN w i 6 ≤ 364 ∧
  w (52 + 64 * i + 8) = dcI (hN w i 4) ∧ w (52 + 64 * i + 9) = nI (hN w i 9) ∧ hN w i 9 ≤ 50000 ∧ (w (52 + 64 * i + 10) = 0 ∨ w (52 + 64 * i + 10) = 1) ∧ w (52 + 64 * i + 11) = nI (hN w i 11) ∧ hN w i 11 ≤ 8 ∧
  (∀ k, k < hN w i 4 → w (52 + 64 * i + (12 + k)) = nI (hN w i (12 + k)) ∧ hN w i (12 + k) ≤ 2 ∧ (hN w i (12 + k) = 1 → hN w i 5 + k * hN w i 6 < cN w 0))
def GK (w : Nat → Int32) (j : Nat) : Prop := w (40 + 2 * j) = -1 ∨ ∃ i due, i < cN w 10 ∧ due ≤ 394 ∧ w (40 + 2 * j) = nI i ∧ w (40 + 2 * j + 1) = nI due
/-- what holds of the model's row -/
def Good (w : Nat → Int32) : Prop :=
  (w 0 = nI (cN w 0) ∧ cN w 0 ≤ 400) ∧ (w 9 = nI (cN w 9) ∧ cN w 9 ≤ 10) ∧ (w 10 = nI (cN w 10) ∧ cN w 10 ≤ 12) ∧ (w 5 = nI (cN w 5) ∧ cN w 5 ≤ 3) ∧ (w 6 = nI (cN w 6) ∧ cN w 6 ≤ 50000) ∧ (w 7 = nI (cN w 7) ∧ cN w 7 ≤ 5000) ∧ (w 8 = nI (cN w 8) ∧ cN w 8 ≤ 30) ∧
  (∀ i, i < cN w 10 → GH w i) ∧ ∀ j, j < 6 → GK w j
/-- what no method changes in Books -/
def Shape (v : xV) : Prop := (∀ i, i < 12 → v (6 + 2 * i) 0 = nI i) ∧ ∀ j, j < 6 → v (31 + j) 0 = nI (j % 3)
/-- session k of hire i has the state s -/
def sB (w : Nat → Int32) (i s : Nat) (k : Nat) : Bool := decide (k < hN w i 4) && decide (hN w i (12 + k) = s)
/-- a hire that there is -/
def RH (v : xV) (w : Nat → Int32) (i : Nat) : Prop :=
  (v (6 + 2 * i) 1 = w (52 + 64 * i + 0) ∧ v (6 + 2 * i) 2 = w (52 + 64 * i + 1) ∧ v (6 + 2 * i) 3 = w (52 + 64 * i + 2) ∧ v (6 + 2 * i) 4 = w (52 + 64 * i + 3) ∧ v (6 + 2 * i) 5 = w (52 + 64 * i + 4) ∧ v (6 + 2 * i) 6 = w (52 + 64 * i + 5) ∧ v (6 + 2 * i) 7 = w (52 + 64 * i + 6) ∧ v (6 + 2 * i) 8 = w (52 + 64 * i + 7)) ∧
  (v (6 + 2 * i) 11 = w (52 + 64 * i + 9) ∧ v (6 + 2 * i) 12 = w (52 + 64 * i + 11) ∧ v (6 + 2 * i) 13 = w (52 + 64 * i + 10)) ∧ bm (v (6 + 2 * i) 9) (sB w i 1) ∧ bm (v (6 + 2 * i) 10) (sB w i 2) ∧
  ∀ c, c < 4 * hN w i 11 → v (7 + 2 * i) c = w (52 + 64 * i + (32 + c))
/-- a row that is not made yet -/
def RE (v : xV) (i : Nat) : Prop := v (6 + 2 * i) 1 = -1 ∧ ∀ k, 2 ≤ k → k < 14 → v (6 + 2 * i) k = 0
def RR (v : xV) (w : Nat → Int32) : Prop :=
  (v 0 0 = w 0 ∧ v 0 1 = w 9 ∧ v 0 2 = w 10) ∧ (∀ j, j < 8 → v 1 j = w (1 + j)) ∧ (∀ j, j < 9 → v 2 j = w (11 + j)) ∧ (∀ j, j < 10 → v 3 j = w (20 + 2 * j) ∧ v 4 j = w (20 + 2 * j + 1)) ∧
  (∀ j, j < 6 → v (31 + j) 1 = w (40 + 2 * j) ∧ (w (40 + 2 * j) ≠ -1 → v (31 + j) 2 = w (40 + 2 * j + 1))) ∧ (∀ i, i < cN w 10 → RH v w i) ∧ ∀ i, cN w 10 ≤ i → i < 12 → RE v i
def RB (v : xV) (w : Nat → Int32) : Prop := Good w ∧ Shape v ∧ RR v w
theorem cN_of {w : Nat → Int32} {c n : Nat} (h : w c = nI n) (hn : n < 2 ^ 31) : cN w c = n := by
  unfold cN
  rw [h, nI_clamp hn]
theorem hN_of {w : Nat → Int32} {i k n : Nat} (h : w (52 + 64 * i + k) = nI n) (hn : n < 2 ^ 31) : hN w i k = n := by
  unfold hN
  rw [h, nI_clamp hn]
/-! what hangs on few cells -/
theorem hN_cong {w w' : Nat → Int32} {i k : Nat} (h : w' (52 + 64 * i + k) = w (52 + 64 * i + k)) : hN w' i k = hN w i k := by
  unfold hN
  rw [h]
theorem GH.cong {w w' : Nat → Int32} {i : Nat} (g : GH w i) (h : ∀ k, k < 32 → w' (52 + 64 * i + k) = w (52 + 64 * i + k)) (h9 : cN w 9 ≤ cN w' 9) (h0 : cN w 0 ≤ cN w' 0) : GH w' i := by
  have e : ∀ k, k < 32 → hN w' i k = hN w i k := fun k hk => hN_cong (h k hk)
  obtain ⟨g1, g2, g3, g4, g5, g6, g7, g8, g9, g10, g11, g12, g13, g14, g15, g16, g17, g18⟩ := g
  unfold GH
  rw [e 0 (by decide), e 1 (by decide), e 2 (by decide), e 3 (by decide), e 4 (by decide), e 5 (by decide), e 6 (by decide), e 9 (by decide), e 11 (by decide), h 8 (by decide), h 9 (by decide), h 10 (by decide), h 11 (by decide)]
  refine ⟨fun k hk => ?_, by omega, g3, g4, g5, g6, g7, g8, g9, g10, g11, g12, g13, g14, g15, g16, g17, fun k hk => ?_⟩
  · rw [h k (by omega), e k (by omega)]
    exact g1 k hk
  · rw [h (12 + k) (by omega), e (12 + k) (by omega)]
    obtain ⟨q1, q2, q3⟩ := g18 k hk
    exact ⟨q1, q2, fun z => Nat.lt_of_lt_of_le (q3 z) h0⟩
theorem sB_cong {w w' : Nat → Int32} {i s k : Nat} (h : ∀ k, k < 32 → w' (52 + 64 * i + k) = w (52 + 64 * i + k)) (hk : k < 20) : sB w i s k = sB w' i s k := by
  unfold sB
  rw [hN_cong (h 4 (by decide)), hN_cong (h (12 + k) (by omega))]
theorem RH.cong {v v' : xV} {w w' : Nat → Int32} {i : Nat} (r : RH v w i) (g : hN w i 11 ≤ 8) (h : ∀ k, k < 64 → w' (52 + 64 * i + k) = w (52 + 64 * i + k)) (hv : ∀ k, k < 14 → v' (6 + 2 * i) k = v (6 + 2 * i) k) (hf : ∀ k, k < 32 → v' (7 + 2 * i) k = v (7 + 2 * i) k) : RH v' w' i := by
  obtain ⟨⟨r1, r2, r3, r4, r5, r6, r7, r8⟩, ⟨r9, r10, r11⟩, r12, r13, r14⟩ := r
  unfold RH
  rw [hv 1 (by decide), hv 2 (by decide), hv 3 (by decide), hv 4 (by decide), hv 5 (by decide), hv 6 (by decide), hv 7 (by decide), hv 8 (by decide), hv 9 (by decide), hv 10 (by decide), hv 11 (by decide), hv 12 (by decide), hv 13 (by decide)]
  rw [h 0 (by decide), h 1 (by decide), h 2 (by decide), h 3 (by decide), h 4 (by decide), h 5 (by decide), h 6 (by decide), h 7 (by decide), h 9 (by decide), h 10 (by decide), h 11 (by decide), hN_cong (h 11 (by decide))]
  refine ⟨⟨r1, r2, r3, r4, r5, r6, r7, r8⟩, ⟨r9, r10, r11⟩, bm_cong r12 fun k hk => sB_cong (fun k hk => h k (by omega)) hk, bm_cong r13 fun k hk => sB_cong (fun k hk => h k (by omega)) hk, fun c hc => ?_⟩
  rw [hf c (by omega), h (32 + c) (by omega)]
  exact r14 c hc
theorem GK.cong {w w' : Nat → Int32} {j : Nat} (g : GK w j) (h : w' (40 + 2 * j) = w (40 + 2 * j)) (h' : w' (40 + 2 * j + 1) = w (40 + 2 * j + 1)) (hm : cN w 10 ≤ cN w' 10) : GK w' j := by
  unfold GK
  rw [h, h']
  rcases g with g | ⟨i, due, g1, g2, g3, g4⟩
  · exact Or.inl g
  · exact Or.inr ⟨i, due, by omega, g2, g3, g4⟩
theorem RB.cong {v v' : xV} {w w' : Nat → Int32} (r : RB v w) (h : ∀ c, c < 820 → w' c = w c) (hv : ∀ k j, v' k j = v k j) : RB v' w' := by
  have hv' : v' = v := funext fun k => funext fun j => hv k j
  subst hv'
  obtain ⟨⟨g1, g2, g3, g4, g5, g6, g7, g8, g9⟩, s, r1, r2, r3, r4, r5, r6, r7⟩ := r
  have c : ∀ c, c < 820 → cN w' c = cN w c := fun c hc => by unfold cN; rw [h c hc]
  have hm := g3.2
  refine ⟨?_, s, ?_⟩
  · unfold Good
    rw [h 0 (by decide), h 9 (by decide), h 10 (by decide), h 5 (by decide), h 6 (by decide), h 7 (by decide), h 8 (by decide), c 0 (by decide), c 9 (by decide), c 10 (by decide), c 5 (by decide), c 6 (by decide), c 7 (by decide), c 8 (by decide)]
    refine ⟨g1, g2, g3, g4, g5, g6, g7, fun i hi => (g8 i hi).cong (fun k hk => h _ (by omega)) (by rw [c 9 (by decide)]; exact Nat.le_refl _) (by rw [c 0 (by decide)]; exact Nat.le_refl _), fun j hj => (g9 j hj).cong (h _ (by omega)) (h _ (by omega)) (by rw [c 10 (by decide)]; exact Nat.le_refl _)⟩
  · unfold RR
    rw [h 0 (by decide), h 9 (by decide), h 10 (by decide), c 10 (by decide)]
    refine ⟨r1, fun j hj => by rw [h _ (by omega)]; exact r2 j hj, fun j hj => by rw [h _ (by omega)]; exact r3 j hj, fun j hj => by rw [h _ (by omega), h _ (by omega)]; exact r4 j hj, fun j hj => by rw [h _ (by omega), h _ (by omega)]; exact r5 j hj, fun i hi => (r6 i hi).cong (g8 i hi).2.2.2.2.2.2.2.2.2.2.2.2.2.2.2.2.1 (fun k hk => h _ (by omega)) (fun _ _ => rfl) (fun _ _ => rfl), r7⟩
/-! the model's small methods -/
theorem lgc_lt (x y : Int64) : lg_cmp x y < 0 ↔ x < y := by
  unfold lg_cmp
  by_cases h : x > y
  · rw [if_pos h]
    have h1 : ¬ x < y := by
      have h2 : y < x := h
      rw [fa_lt64] at *
      omega
    exact ⟨fun q => absurd q (by decide), fun q => absurd q h1⟩
  · rw [if_neg h]
    by_cases e : x = y
    · subst e
      rw [if_pos rfl]
      exact ⟨fun q => absurd q (by decide), fun q => absurd q h⟩
    · rw [if_neg e]
      have h1 : x < y := by
        have h2 : ¬ y < x := h
        rw [fa_eq64] at e
        rw [fa_lt64] at *
        omega
      exact ⟨fun _ => h1, fun _ => by decide⟩
theorem lgc_gt (x y : Int64) : 0 < lg_cmp x y ↔ y < x := by
  unfold lg_cmp
  by_cases h : x > y
  · rw [if_pos h]
    exact ⟨fun _ => h, fun _ => by decide⟩
  · rw [if_neg h]
    by_cases e : x = y
    · rw [if_pos e]
      exact ⟨fun q => absurd q (by decide), fun q => absurd q h⟩
    · rw [if_neg e]
      exact ⟨fun q => absurd q (by decide), fun q => absurd q h⟩
theorem m_in (x a b : Int32) {A B : Int64} (hA : A = a.toInt64) (hB : B = b.toInt64) : f_X8_in x.toInt64 A B = some (if a ≤ x ∧ x ≤ b then 1 else 0) := by
  subst hA hB
  unfold f_X8_in
  by_cases h1 : x < a
  · rw [if_pos ((lgc_lt _ _).mpr ((fa_wide_lt _ _).mpr h1)), if_neg (fun q => (fa_of_lt h1).2.1 q.1)]
  · rw [if_neg (fun q => h1 ((fa_wide_lt _ _).mp ((lgc_lt _ _).mp q)))]
    by_cases h2 : b < x
    · rw [if_pos ((lgc_gt _ _).mpr ((fa_wide_lt _ _).mpr h2)), if_neg (fun q => (fa_of_lt h2).2.1 q.2)]
    · rw [if_neg (fun q => h2 ((fa_wide_lt _ _).mp ((lgc_gt _ _).mp q))), if_pos ⟨fa_of_nlt h1, fa_of_nlt h2⟩]
theorem i64_pred : ∀ h, h < 13 → (nI h).toInt64 - 1 = (nI h - 1).toInt64 := by decide +kernel
/-- a number below h -/
theorem lt_iff (x : Int32) {h : Nat} (hh : h < 2 ^ 31) : (0 ≤ x ∧ x ≤ nI h - 1) ↔ ∃ j, j < h ∧ x = nI j := by
  constructor
  · rintro ⟨h1, h2⟩
    have h1' : ¬ x < 0 := fun q => (fa_of_lt q).2.1 h1
    obtain ⟨j, hj, rfl⟩ := nI_of h1'
    refine ⟨j, ?_, rfl⟩
    rcases h with _ | h
    · exact absurd h2 (by rw [fa_le, nI_toInt hj]; show ¬ ((j : Int) ≤ -1); omega)
    · rw [nI_pred, nI_leI hj (by omega)] at h2
      omega
  · rintro ⟨j, hj, rfl⟩
    refine ⟨nI_pos' (by omega), ?_⟩
    rcases h with _ | h
    · exact absurd hj (Nat.not_lt_zero _)
    · rw [nI_pred, nI_leI (by omega) (by omega)]
      omega
theorem m_below {x : Int32} {B : Int64} {h : Nat} (hh : h < 13) (hB : B = (nI h).toInt64) : f_X8_in x.toInt64 0 (B - 1) = some (if 0 ≤ x ∧ x ≤ nI h - 1 then 1 else 0) := m_in x 0 (nI h - 1) (A := 0) rfl (by rw [hB]; exact i64_pred h hh)
theorem xg_b {r : Int32} {α : Type} (h : r = 0 ∨ r = 1) (k : Option α) : xg (r = 0 ∨ r = 1) k = k := if_pos h
theorem m_isHirer {M : xV} {h : Nat} (hh : h ≤ 10) (e : M 1 9 = nI h) (x : Int32) : f_X8_isHirer M x = some (if 0 ≤ x ∧ x ≤ nI h - 1 then 1 else 0) := by
  unfold f_X8_isHirer
  rw [m_below (h := h) (by omega) (by rw [e]), xbs]
  exact xg_b (by split <;> simp) _
theorem m_isHire {M : xV} {h : Nat} (hh : h ≤ 12) (e : M 1 10 = nI h) (x : Int32) : f_X8_isHire M x = some (if 0 ≤ x ∧ x ≤ nI h - 1 then 1 else 0) := by
  unfold f_X8_isHire
  rw [m_below (h := h) (by omega) (by rw [e]), xbs]
  exact xg_b (by split <;> simp) _
theorem m_isKey (x : Int32) : f_X8_isKey x = some (if 0 ≤ x ∧ x ≤ nI 6 - 1 then 1 else 0) := by
  unfold f_X8_isKey
  rw [m_in x 0 (nI 6 - 1) (A := 0) (B := 5) rfl (by decide), xbs]
  exact xg_b (by split <;> simp) _
theorem m_at (i k : Nat) : f_X8_at (nI i) (nI k) = some (nI (52 + 64 * i + k)) := by
  unfold f_X8_at
  rw [show (64 : Int32) = nI 64 from rfl, show (52 : Int32) = nI 52 from rfl, pk_mul, nI_add, nI_add]
theorem m_of {M : xV} {i k : Nat} (h : 64 * i + k < 768) : f_X8_of M (nI i) (nI k) = some (M 1 (52 + 64 * i + k)) := by
  unfold f_X8_of
  rw [m_at, xbs, xgi (by omega) (by decide), nI_clamp (by omega)]
theorem nn_div {n : Nat} (hn : n < 2 ^ 31) : nI n / 20 = nI (n / 20) := pk_div hn (by decide) (by decide)
theorem nn_rem {n : Nat} (hn : n < 2 ^ 31) : nI n - nI n / 20 * 20 = nI (n % 20) := pk_rem hn (by decide) (by decide)
theorem m_stateOf {M : xV} {i k : Nat} (hi : i < 12) (hk : k < 20) : f_X8_stateOf M (nI (20 * i + k)) = some (M 1 (52 + 64 * i + (12 + k))) := by
  unfold f_X8_stateOf
  rw [nn_rem (by omega), nn_div (by omega), show (20 * i + k) / 20 = i by omega, show (20 * i + k) % 20 = k by omega, show (12 : Int32) = nI 12 from rfl, nI_add, m_of (by omega), xbs]
theorem m_dayOf {M : xV} {i k : Nat} (hi : i < 12) (hk : k < 20) (g : GH (M 1) i) : f_X8_dayOf M (nI (20 * i + k)) = some (nI (hN (M 1) i 5 + k * hN (M 1) i 6)) := by
  unfold f_X8_dayOf
  rw [nn_rem (by omega), nn_div (by omega), show (20 * i + k) / 20 = i by omega, show (20 * i + k) % 20 = k by omega, xls, show (5 : Int32) = nI 5 from rfl, m_of (by omega), xbs, show (6 : Int32) = nI 6 from rfl, m_of (by omega), xbs, g.1 5 (by decide), g.1 6 (by decide), pk_mul, nI_add]
theorem m_isSession_neg {M : xV} {x : Int32} (h : x < 0) : f_X8_isSession M x = some 0 := by
  unfold f_X8_isSession
  rw [if_pos h]
theorem m_isSession {M : xV} {n m : Nat} (hn : n < 2 ^ 31) (hm : m ≤ 12) (e : M 1 10 = nI m) (g : ∀ i, i < m → GH (M 1) i) : f_X8_isSession M (nI n) = some (if n / 20 < m ∧ n % 20 < hN (M 1) (n / 20) 4 then 1 else 0) := by
  unfold f_X8_isSession
  rw [if_neg (nI_pos hn), nn_rem hn, nn_div hn, m_isHire hm e, xbs]
  by_cases h : n / 20 < m
  · have gi := g _ h
    rw [if_pos ((lt_iff _ (by omega)).mpr ⟨_, h, rfl⟩), if_neg (by decide), show (4 : Int32) = nI 4 from rfl, m_of (by omega), xbs, gi.1 4 (by decide)]
    have h4 := gi.2.2.2.2.2.2.2.1
    by_cases h2 : hN (M 1) (n / 20) 4 ≤ n % 20
    · rw [if_pos (nI_le h2 (by omega)), if_neg (by omega)]
    · rw [if_neg (nI_ge (by omega) (by omega)), if_pos ⟨h, by omega⟩]
  · have hq : ¬ (0 ≤ nI (n / 20) ∧ nI (n / 20) ≤ nI m - 1) := fun q => by
      obtain ⟨j, hj, q1⟩ := (lt_iff _ (by omega)).mp q
      rw [nI_eq (by omega) (by omega)] at q1
      omega
    rw [if_neg hq, if_pos rfl, if_neg (fun q => h q.1)]
