/-! ===== PURE p29, 4: the accounts, and what bounds the numbers ===== -/
theorem sI_one {f g : Nat → Int32} {i : Nat} : ∀ {n : Nat}, i < n → (∀ j, j < n → j ≠ i → f j = g j) → sI f n = sI g n - g i + f i
  | 0, h, _ => absurd h (Nat.not_lt_zero _)
  | n + 1, h, e => by
    rw [sI_succ, sI_succ]
    by_cases c : i = n
    · subst c
      rw [sI_cong (f := f) (g := g) (n := i) (fun k hk => e k (by omega) (by omega))]
      grind
    · rw [sI_one (f := f) (g := g) (i := i) (n := n) (by omega) (fun j hj hne => e j (by omega) hne), e n (by omega) (by omega)]
      grind
def sD (w : Nat → Int32) : Int32 := sI (fun i => w (52 + 64 * i + 9)) (cN w 10)
def sPr (w : Nat → Int32) : Int32 := sI (fun i => w (52 + 64 * i + 7)) (cN w 10)
def dbt (w : Nat → Int32) : Int32 := 0 + (w 20 - w 21) + (w 22 - w 23) + (w 24 - w 25)
theorem dbt_same {w w' : Nat → Int32} (h : ∀ c, 20 ≤ c → c < 26 → w' c = w c) : dbt w' = dbt w := by
  unfold dbt
  rw [h 20 (by decide) (by decide), h 21 (by decide) (by decide), h 22 (by decide) (by decide), h 23 (by decide) (by decide), h 24 (by decide) (by decide), h 25 (by decide) (by decide)]
theorem dbt_ch {w w' : Nat → Int32} {b : Nat} (hb : b < 3) {y : Int32} (h : ∀ c, 20 ≤ c → c < 26 → c ≠ 20 + 2 * b → w' c = w c) (h2 : w' (20 + 2 * b) = w (20 + 2 * b) + y) : dbt w' = dbt w + y := by
  unfold dbt
  rcases (show b = 0 ∨ b = 1 ∨ b = 2 by omega) with rfl | rfl | rfl
  · have h20 : w' 20 = w 20 + y := h2
    rw [h20, h 21 (by decide) (by decide) (by decide), h 22 (by decide) (by decide) (by decide), h 23 (by decide) (by decide) (by decide), h 24 (by decide) (by decide) (by decide), h 25 (by decide) (by decide) (by decide)]
    grind
  · have h22 : w' 22 = w 22 + y := h2
    rw [h22, h 20 (by decide) (by decide) (by decide), h 21 (by decide) (by decide) (by decide), h 23 (by decide) (by decide) (by decide), h 24 (by decide) (by decide) (by decide), h 25 (by decide) (by decide) (by decide)]
    grind
  · have h24 : w' 24 = w 24 + y := h2
    rw [h24, h 20 (by decide) (by decide) (by decide), h 21 (by decide) (by decide) (by decide), h 22 (by decide) (by decide) (by decide), h 23 (by decide) (by decide) (by decide), h 25 (by decide) (by decide) (by decide)]
    grind
theorem dbt_pd {w w' : Nat → Int32} {b : Nat} (hb : b < 3) {y : Int32} (h : ∀ c, 20 ≤ c → c < 26 → c ≠ 20 + 2 * b + 1 → w' c = w c) (h2 : w' (20 + 2 * b + 1) = w (20 + 2 * b + 1) + y) : dbt w' = dbt w - y := by
  unfold dbt
  rcases (show b = 0 ∨ b = 1 ∨ b = 2 by omega) with rfl | rfl | rfl
  · have h20 : w' 21 = w 21 + y := h2
    rw [h20, h 20 (by decide) (by decide) (by decide), h 22 (by decide) (by decide) (by decide), h 23 (by decide) (by decide) (by decide), h 24 (by decide) (by decide) (by decide), h 25 (by decide) (by decide) (by decide)]
    grind
  · have h22 : w' 23 = w 23 + y := h2
    rw [h22, h 20 (by decide) (by decide) (by decide), h 21 (by decide) (by decide) (by decide), h 22 (by decide) (by decide) (by decide), h 24 (by decide) (by decide) (by decide), h 25 (by decide) (by decide) (by decide)]
    grind
  · have h24 : w' 25 = w 25 + y := h2
    rw [h24, h 20 (by decide) (by decide) (by decide), h 21 (by decide) (by decide) (by decide), h 22 (by decide) (by decide) (by decide), h 23 (by decide) (by decide) (by decide), h 24 (by decide) (by decide) (by decide)]
    grind
def Acc (w : Nat → Int32) : Prop := sD w = w 14 ∧ sPr w = w 11 ∧ w 13 = w 14 + w 15 + w 16 + w 17 ∧ dbt w = w 11 - w 12 + w 13 - w 17 + w 18 - w 19
def Bnd (k : Nat) (w : Nat → Int32) : Prop := cN w 9 = 3 ∧ (∀ i, i < cN w 10 → ∃ P, P ≤ 720000 ∧ w (52 + 64 * i + 7) = nI P) ∧ (∀ j, j < 3 → ∃ q, q ≤ 5000 ∧ w (1 + j) = nI q) ∧ (∃ q, q ≤ 100 ∧ w 4 = nI q) ∧ ∀ b, b < 3 → ∃ Q, Q ≤ 720001 * k ∧ w (20 + 2 * b + 1) = nI Q
def Inv (k : Nat) (w : Nat → Int32) : Prop := Acc w ∧ Bnd k w
section
variable {k : Nat} {w w' : Nat → Int32}
theorem sD_same (h10 : w' 10 = w 10) (h : ∀ i, i < cN w 10 → w' (52 + 64 * i + 9) = w (52 + 64 * i + 9)) : sD w' = sD w := by
  unfold sD
  rw [cN_cong h10]
  exact sI_cong h
theorem sPr_same (h10 : w' 10 = w 10) (h : ∀ i, i < cN w 10 → w' (52 + 64 * i + 7) = w (52 + 64 * i + 7)) : sPr w' = sPr w := by
  unfold sPr
  rw [cN_cong h10]
  exact sI_cong h
theorem sD_one {i : Nat} (hi : i < cN w 10) (h10 : w' 10 = w 10) (h : ∀ j, j < cN w 10 → j ≠ i → w' (52 + 64 * j + 9) = w (52 + 64 * j + 9)) : sD w' = sD w - w (52 + 64 * i + 9) + w' (52 + 64 * i + 9) := by
  unfold sD
  rw [cN_cong h10]
  exact sI_one (f := fun i => w' (52 + 64 * i + 9)) (g := fun i => w (52 + 64 * i + 9)) hi h
/-- rows alike but in keys, days, states, faults: nothing moves -/
theorem Inv.same (I : Inv k w) (h : ∀ c, 1 ≤ c → c < 40 → w' c = w c) (hp : ∀ i, i < cN w 10 → w' (52 + 64 * i + 7) = w (52 + 64 * i + 7) ∧ w' (52 + 64 * i + 9) = w (52 + 64 * i + 9)) : Inv k w' := by
  obtain ⟨⟨a1, a2, a3, a4⟩, b1, b2, b3, b4, b5⟩ := I
  have h10 := h 10 (by decide) (by decide)
  refine ⟨⟨?_, ?_, ?_, ?_⟩, ?_, fun i hi => ?_, fun j hj => ?_, ?_, fun b hb => ?_⟩
  · rw [sD_same h10 (fun i hi => (hp i hi).2), h 14 (by decide) (by decide), a1]
  · rw [sPr_same h10 (fun i hi => (hp i hi).1), h 11 (by decide) (by decide), a2]
  · rw [h 13 (by decide) (by decide), h 14 (by decide) (by decide), h 15 (by decide) (by decide), h 16 (by decide) (by decide), h 17 (by decide) (by decide), a3]
  · rw [dbt_same (fun c h1 h2 => h c (by omega) (by omega)), h 11 (by decide) (by decide), h 12 (by decide) (by decide), h 13 (by decide) (by decide), h 17 (by decide) (by decide), h 18 (by decide) (by decide), h 19 (by decide) (by decide), a4]
  · rw [cN_cong (h 9 (by decide) (by decide)), b1]
  · rw [cN_cong h10] at hi
    rw [(hp i hi).1]
    exact b2 i hi
  · rw [h (1 + j) (by omega) (by omega)]
    exact b3 j hj
  · rw [h 4 (by decide) (by decide)]
    exact b4
  · rw [h (20 + 2 * b + 1) (by omega) (by omega)]
    exact b5 b hb
theorem Inv.more (I : Inv k w) : Inv (k + 1) w := by
  obtain ⟨a, b1, b2, b3, b4, b5⟩ := I
  refine ⟨a, b1, b2, b3, b4, fun b hb => ?_⟩
  obtain ⟨Q, h1, h2⟩ := b5 b hb
  exact ⟨Q, by omega, h2⟩
theorem Inv.set (I : Inv k w) {j q : Nat} (hj : j < 8) (hq : q ≤ moN j) : Inv k (upd w (1 + j) (nI q)) := by
  obtain ⟨⟨a1, a2, a3, a4⟩, b1, b2, b3, b4, b5⟩ := I
  have s : ∀ c, c ≠ 1 + j → upd w (1 + j) (nI q) c = w c := fun c hc => upn _ _ hc
  refine ⟨⟨?_, ?_, ?_, ?_⟩, ?_, fun i hi => ?_, fun j' hj' => ?_, ?_, fun b hb => ?_⟩
  · rw [sD_same (s 10 (by omega)) (fun i hi => s _ (by omega)), s 14 (by omega), a1]
  · rw [sPr_same (s 10 (by omega)) (fun i hi => s _ (by omega)), s 11 (by omega), a2]
  · rw [s 13 (by omega), s 14 (by omega), s 15 (by omega), s 16 (by omega), s 17 (by omega), a3]
  · rw [dbt_same (fun c h1 h2 => s c (by omega)), s 11 (by omega), s 12 (by omega), s 13 (by omega), s 17 (by omega), s 18 (by omega), s 19 (by omega), a4]
  · rw [cN_cong (s 9 (by omega)), b1]
  · rw [cN_cong (s 10 (by omega))] at hi
    rw [s _ (by omega)]
    exact b2 i hi
  · by_cases e : j' = j
    · subst e
      refine ⟨q, ?_, upp _ _ _⟩
      have : moN j' = 5000 := by
        unfold moN
        rw [if_neg (by omega), if_neg (by omega), if_neg (by omega), if_neg (by omega), if_neg (by omega)]
      omega
    · rw [s _ (by omega)]
      exact b3 j' hj'
  · by_cases e : j = 3
    · subst e
      exact ⟨q, hq, upp _ _ _⟩
    · rw [s 4 (by omega)]
      exact b4
  · rw [s _ (by omega)]
    exact b5 b hb
theorem pd_up {b Y : Nat} (hY : Y ≤ 720001) {y : Int32} (hy : y = nI Y) (h5 : ∀ b, b < 3 → ∃ Q, Q ≤ 720001 * k ∧ w (20 + 2 * b + 1) = nI Q) (ho : ∀ b', b' < 3 → b' ≠ b → w' (20 + 2 * b' + 1) = w (20 + 2 * b' + 1)) (h2 : w' (20 + 2 * b + 1) = w (20 + 2 * b + 1) + y) : ∀ b, b < 3 → ∃ Q, Q ≤ 720001 * (k + 1) ∧ w' (20 + 2 * b + 1) = nI Q := by
  intro b' hb'
  obtain ⟨Q, q1, q2⟩ := h5 b' hb'
  by_cases e : b' = b
  · subst e
    refine ⟨Q + Y, by omega, ?_⟩
    rw [h2, q2, hy, nI_add]
  · exact ⟨Q, by omega, by rw [ho b' hb' e, q2]⟩
theorem Inv.pay (I : Inv k w) {b Y : Nat} (hb : b < 3) (hY : Y ≤ 720001) : Inv (k + 1) (wPay w b (nI Y)) := by
  obtain ⟨⟨a1, a2, a3, a4⟩, b1, b2, b3, b4, b5⟩ := I
  have s : ∀ c, c ≠ 20 + 2 * b + 1 → c ≠ 19 → wPay w b (nI Y) c = w c := fun c h1 h2 => by
    unfold wPay
    rw [if_neg h1, if_neg h2]
  have s1 : wPay w b (nI Y) (20 + 2 * b + 1) = w (20 + 2 * b + 1) + nI Y := if_pos rfl
  have s2 : wPay w b (nI Y) 19 = w 19 + nI Y := by
    unfold wPay
    rw [if_neg (by omega), if_pos rfl]
  refine ⟨⟨?_, ?_, ?_, ?_⟩, ?_, fun i hi => ?_, fun j hj => ?_, ?_, pd_up hY rfl b5 (fun b' _ hb' => s _ (by omega) (by omega)) s1⟩
  · rw [sD_same (s 10 (by omega) (by omega)) (fun i hi => s _ (by omega) (by omega)), s 14 (by omega) (by omega), a1]
  · rw [sPr_same (s 10 (by omega) (by omega)) (fun i hi => s _ (by omega) (by omega)), s 11 (by omega) (by omega), a2]
  · rw [s 13 (by omega) (by omega), s 14 (by omega) (by omega), s 15 (by omega) (by omega), s 16 (by omega) (by omega), s 17 (by omega) (by omega), a3]
  · rw [dbt_pd hb (fun c h1 h2 h3 => s c h3 (by omega)) s1, s 11 (by omega) (by omega), s 12 (by omega) (by omega), s 13 (by omega) (by omega), s 17 (by omega) (by omega), s 18 (by omega) (by omega), s2, a4]
    grind
  · rw [cN_cong (s 9 (by omega) (by omega)), b1]
  · rw [cN_cong (s 10 (by omega) (by omega))] at hi
    rw [s _ (by omega) (by omega)]
    exact b2 i hi
  · rw [s _ (by omega) (by omega)]
    exact b3 j hj
  · rw [s 4 (by omega) (by omega)]
    exact b4
/-! shares -/
theorem shr_n {P n k : Nat} (hP : P < 2 ^ 31) (hn : 1 ≤ n) (hn20 : n ≤ 20) (hk : k < 20) : shr (nI P) n k = nI (P / n + (if k < P % n then 1 else 0)) := by
  unfold shr
  have e1 : nI P - nI P / nI n * nI n = nI (P % n) := pk_rem hP (by omega) (by omega)
  have e2 : nI P / nI n = nI (P / n) := pk_div hP (by omega) (by omega)
  have hm : P % n < n := Nat.mod_lt _ (by omega)
  rw [e1, e2]
  by_cases h : P % n ≤ k
  · rw [if_pos (nI_le h (by omega)), if_neg (by omega), Int32.add_zero, Nat.add_zero]
  · rw [if_neg (nI_ge (by omega) (by omega)), if_pos (by omega), nI_1]
theorem shr_sum {P n : Nat} (hP : P < 2 ^ 31) (hn : 1 ≤ n) (hn20 : n ≤ 20) : sI (fun k => shr (nI P) n k) n = nI P := by
  rw [sI_cong (g := fun k => nI (P / n + (if k < P % n then 1 else 0))) (fun k hk => shr_n hP hn hn20 (by omega)), sI_sm]
  have hm : P % n < n := Nat.mod_lt _ (by omega)
  have key : ∀ m, m ≤ n → fb_sm (fun k => P / n + (if k < P % n then 1 else 0)) m = m * (P / n) + min m (P % n) := by
    intro m
    induction m with
    | zero =>
      intro _
      rw [Nat.zero_mul, Nat.zero_min]
      rfl
    | succ m ih =>
      intro h
      rw [fb_sm_succ, ih (by omega), Nat.succ_mul]
      split <;> omega
  rw [key n (Nat.le_refl n), Nat.min_eq_right (by omega)]
  congr 1
  exact Nat.div_add_mod P n
theorem rfd2_n {i k' : Nat} (g : GH w i) (hP : ∃ P, P ≤ 720000 ∧ w (52 + 64 * i + 7) = nI P) (hk : k' < hN w i 4) : ∃ R, R ≤ 720001 ∧ rfd2 w i k' = nI R := by
  obtain ⟨P, h1, h2⟩ := hP
  have hn1 := g.2.2.2.2.2.2.1
  have hn20 := g.2.2.2.2.2.2.2.1
  have e := shr_n (P := P) (n := hN w i 4) (k := k') (by omega) hn1 hn20 (by omega)
  have hd : P / hN w i 4 ≤ P := Nat.div_le_self _ _
  unfold rfd2
  rw [h2, e]
  obtain ⟨S, hS⟩ : ∃ x, x = P / hN w i 4 + (if k' < P % hN w i 4 then 1 else 0) := ⟨_, rfl⟩
  have hS1 : S ≤ 720001 := by
    rw [hS]
    split <;> omega
  rw [← hS]
  split
  · split
    · exact ⟨0, by omega, rfl⟩
    · exact ⟨S / 2, by omega, pk_div (d := 2) (by omega) (by decide) (by decide)⟩
  · exact ⟨S, hS1, rfl⟩
theorem Inv.can (I : Inv k w) {i k' : Nat} (hi : i < cN w 10) (g : GH w i) (hk : k' < hN w i 4) : Inv (k + 1) (wCan w i k') := by
  obtain ⟨⟨a1, a2, a3, a4⟩, b1, b2, b3, b4, b5⟩ := I
  obtain ⟨R, hR, eR⟩ := rfd2_n g (b2 i hi) hk
  have hb : hN w i 0 < 3 := by rw [← b1]; exact g.2.1
  have hn20 := g.2.2.2.2.2.2.2.1
  obtain ⟨b, eb⟩ : ∃ x, x = hN w i 0 := ⟨_, rfl⟩
  have s : ∀ c, c ≠ 52 + 64 * i + (12 + k') → c ≠ 20 + 2 * b + 1 → c ≠ 12 → wCan w i k' c = w c := fun c h1 h2 h3 => by
    unfold wCan
    rw [if_neg h1, ← eb, if_neg h2, if_neg h3]
  rw [← eb] at hb
  have s1 : wCan w i k' (20 + 2 * b + 1) = w (20 + 2 * b + 1) + nI R := by
    unfold wCan
    rw [← eb, if_neg (by omega), if_pos rfl, eR]
  have s2 : wCan w i k' 12 = w 12 + nI R := by
    unfold wCan
    rw [← eb, if_neg (by omega), if_neg (by omega), if_pos rfl, eR]
  refine ⟨⟨?_, ?_, ?_, ?_⟩, ?_, fun i hi => ?_, fun j hj => ?_, ?_, pd_up hR rfl b5 (fun b' _ hb' => s _ (by omega) (by omega) (by omega)) s1⟩
  · rw [sD_same (s 10 (by omega) (by omega) (by omega)) (fun i hi => s _ (by omega) (by omega) (by omega)), s 14 (by omega) (by omega) (by omega), a1]
  · rw [sPr_same (s 10 (by omega) (by omega) (by omega)) (fun i hi => s _ (by omega) (by omega) (by omega)), s 11 (by omega) (by omega) (by omega), a2]
  · rw [s 13 (by omega) (by omega) (by omega), s 14 (by omega) (by omega) (by omega), s 15 (by omega) (by omega) (by omega), s 16 (by omega) (by omega) (by omega), s 17 (by omega) (by omega) (by omega), a3]
  · rw [dbt_pd hb (fun c h1 h2 h3 => s c (by omega) h3 (by omega)) s1, s 11 (by omega) (by omega) (by omega), s2, s 13 (by omega) (by omega) (by omega), s 17 (by omega) (by omega) (by omega), s 18 (by omega) (by omega) (by omega), s 19 (by omega) (by omega) (by omega), a4]
    grind
  · rw [cN_cong (s 9 (by omega) (by omega) (by omega)), b1]
  · rw [cN_cong (s 10 (by omega) (by omega) (by omega))] at hi
    rw [s _ (by omega) (by omega) (by omega)]
    exact b2 i hi
  · rw [s _ (by omega) (by omega) (by omega)]
    exact b3 j hj
  · rw [s 4 (by omega) (by omega) (by omega)]
    exact b4
theorem Inv.take (I : Inv k w) {i a q : Nat} (hi : i < cN w 10) (g : GH w i) (hq : q = 4 ∨ q = 5) : Inv k (wTake w i a q) := by
  obtain ⟨⟨a1, a2, a3, a4⟩, b1, b2, b3, b4, b5⟩ := I
  have hb : hN w i 0 < 3 := by rw [← b1]; exact g.2.1
  have g9 := g.2.2.2.2.2.2.2.2.2.2.2.2.1
  obtain ⟨b, eb⟩ : ∃ x, x = hN w i 0 := ⟨_, rfl⟩
  obtain ⟨D, eD⟩ : ∃ x, x = hN w i 9 := ⟨_, rfl⟩
  obtain ⟨T, eT⟩ : ∃ x, x = min D a := ⟨_, rfl⟩
  rw [← eb] at hb
  rw [← eD] at g9
  have s : ∀ c, c ≠ 52 + 64 * i + 9 → c ≠ 14 → c ≠ 11 + q → c ≠ 18 → c ≠ 20 + 2 * b → wTake w i a q c = w c := fun c h1 h2 h3 h4 h5 => by
    unfold wTake
    rw [if_neg h1, if_neg h2, if_neg h3, if_neg h4, ← eb, if_neg h5]
  have s9 : wTake w i a q (52 + 64 * i + 9) = nI (D - T) := by
    unfold wTake
    rw [if_pos rfl, ← eD, ← eT]
  have s14 : wTake w i a q 14 = w 14 - nI T := by
    unfold wTake
    rw [if_neg (by omega), if_pos rfl, ← eD, ← eT]
  have sq : wTake w i a q (11 + q) = w (11 + q) + nI T := by
    unfold wTake
    rw [if_neg (by omega), if_neg (by omega), if_pos rfl, ← eD, ← eT]
  have s18 : wTake w i a q 18 = w 18 + nI (a - T) := by
    unfold wTake
    rw [if_neg (by omega), if_neg (by omega), if_neg (by omega), if_pos rfl, ← eD, ← eT]
  have sb : wTake w i a q (20 + 2 * b) = w (20 + 2 * b) + nI (a - T) := by
    unfold wTake
    rw [if_neg (by omega), if_neg (by omega), if_neg (by omega), if_neg (by omega), ← eb, if_pos rfl, ← eD, ← eT]
  have dt : nI (D - T) + nI T = nI D := by rw [nI_add, show D - T + T = D by omega]
  have h10 : wTake w i a q 10 = w 10 := s 10 (by omega) (by omega) (by omega) (by omega) (by omega)
  refine ⟨⟨?_, ?_, ?_, ?_⟩, ?_, fun j hj => ?_, fun j hj => ?_, ?_, fun b' hb' => ?_⟩
  · rw [sD_one hi h10 (fun j hj hne => s _ (by omega) (by omega) (by omega) (by omega) (by omega)), s9, s14, g9, a1]
    grind
  · rw [sPr_same h10 (fun i hi => s _ (by omega) (by omega) (by omega) (by omega) (by omega)), s 11 (by omega) (by omega) (by omega) (by omega) (by omega), a2]
  · rw [s 13 (by omega) (by omega) (by omega) (by omega) (by omega), s14, s 17 (by omega) (by omega) (by omega) (by omega) (by omega), a3]
    rcases hq with rfl | rfl
    · have sq' : wTake w i a 4 15 = w 15 + nI T := sq
      rw [sq', s 16 (by omega) (by omega) (by omega) (by omega) (by omega)]
      grind
    · have sq' : wTake w i a 5 16 = w 16 + nI T := sq
      rw [sq', s 15 (by omega) (by omega) (by omega) (by omega) (by omega)]
      grind
  · rw [dbt_ch hb (fun c h1 h2 h3 => s c (by omega) (by omega) (by omega) (by omega) h3) sb, s 11 (by omega) (by omega) (by omega) (by omega) (by omega), s 12 (by omega) (by omega) (by omega) (by omega) (by omega), s 13 (by omega) (by omega) (by omega) (by omega) (by omega), s 17 (by omega) (by omega) (by omega) (by omega) (by omega), s18, s 19 (by omega) (by omega) (by omega) (by omega) (by omega), a4]
    grind
  · rw [cN_cong (s 9 (by omega) (by omega) (by omega) (by omega) (by omega)), b1]
  · rw [cN_cong h10] at hj
    rw [s _ (by omega) (by omega) (by omega) (by omega) (by omega)]
    exact b2 j hj
  · rw [s _ (by omega) (by omega) (by omega) (by omega) (by omega)]
    exact b3 j hj
  · rw [s 4 (by omega) (by omega) (by omega) (by omega) (by omega)]
    exact b4
  · rw [s _ (by omega) (by omega) (by omega) (by omega) (by omega)]
    exact b5 b' hb'
theorem Inv.rep (I : Inv k w) {i k' kd a : Nat} (hi : i < cN w 10) (g : GH w i) (hn : hN w i 11 < 8) : Inv k (wRep w i k' kd a) := by
  have I1 := I.take (a := a) hi g (Or.inl rfl)
  have hb10 : hN w i 0 < 3 := by rw [← I.2.1]; exact g.2.1
  have s : ∀ c, c < 52 → wRep w i k' kd a c = wTake w i a 4 c := fun c h => by
    unfold wRep
    rw [if_neg (by omega), if_neg (by omega), if_neg (by omega), if_neg (by omega), if_neg (by omega)]
  refine I1.same (fun c h1 h2 => s c (by omega)) fun j hj => ⟨?_, ?_⟩
  · unfold wRep
    rw [if_neg (by omega), if_neg (by omega), if_neg (by omega), if_neg (by omega), if_neg (by omega)]
  · unfold wRep
    rw [if_neg (by omega), if_neg (by omega), if_neg (by omega), if_neg (by omega), if_neg (by omega)]
theorem Inv.sett (I : Inv k w) {i : Nat} (hi : i < cN w 10) (g : GH w i) : Inv (k + 1) (wSet w i) := by
  obtain ⟨⟨a1, a2, a3, a4⟩, b1, b2, b3, b4, b5⟩ := I
  have hb : hN w i 0 < 3 := by rw [← b1]; exact g.2.1
  have g9 := g.2.2.2.2.2.2.2.2.2.2.2.2.1
  have g9' := g.2.2.2.2.2.2.2.2.2.2.2.2.2.1
  obtain ⟨b, eb⟩ : ∃ x, x = hN w i 0 := ⟨_, rfl⟩
  obtain ⟨D, eD⟩ : ∃ x, x = hN w i 9 := ⟨_, rfl⟩
  rw [← eb] at hb
  rw [← eD] at g9 g9'
  have s : ∀ c, c ≠ 52 + 64 * i + 9 → c ≠ 52 + 64 * i + 10 → c ≠ 14 → c ≠ 17 → c ≠ 20 + 2 * b + 1 → wSet w i c = w c := fun c h1 h2 h3 h4 h5 => by
    unfold wSet
    rw [if_neg h1, if_neg h2, if_neg h3, if_neg h4, ← eb, if_neg h5]
  have s9 : wSet w i (52 + 64 * i + 9) = 0 := if_pos rfl
  have s14 : wSet w i 14 = w 14 - nI D := by
    unfold wSet
    rw [if_neg (by omega), if_neg (by omega), if_pos rfl, g9]
  have s17 : wSet w i 17 = w 17 + nI D := by
    unfold wSet
    rw [if_neg (by omega), if_neg (by omega), if_neg (by omega), if_pos rfl, g9]
  have sb : wSet w i (20 + 2 * b + 1) = w (20 + 2 * b + 1) + nI D := by
    unfold wSet
    rw [if_neg (by omega), if_neg (by omega), if_neg (by omega), if_neg (by omega), ← eb, if_pos rfl, g9]
  have h10 : wSet w i 10 = w 10 := s 10 (by omega) (by omega) (by omega) (by omega) (by omega)
  refine ⟨⟨?_, ?_, ?_, ?_⟩, ?_, fun j hj => ?_, fun j hj => ?_, ?_, pd_up (Y := D) (by omega) rfl b5 (fun b' _ hb' => s _ (by omega) (by omega) (by omega) (by omega) (by omega)) sb⟩
  · rw [sD_one hi h10 (fun j hj hne => s _ (by omega) (by omega) (by omega) (by omega) (by omega)), s9, s14, g9, a1]
    grind
  · rw [sPr_same h10 (fun i hi => s _ (by omega) (by omega) (by omega) (by omega) (by omega)), s 11 (by omega) (by omega) (by omega) (by omega) (by omega), a2]
  · rw [s 13 (by omega) (by omega) (by omega) (by omega) (by omega), s14, s 15 (by omega) (by omega) (by omega) (by omega) (by omega), s 16 (by omega) (by omega) (by omega) (by omega) (by omega), s17, a3]
    grind
  · rw [dbt_pd hb (fun c h1 h2 h3 => s c (by omega) (by omega) (by omega) (by omega) h3) sb, s 11 (by omega) (by omega) (by omega) (by omega) (by omega), s 12 (by omega) (by omega) (by omega) (by omega) (by omega), s 13 (by omega) (by omega) (by omega) (by omega) (by omega), s17, s 18 (by omega) (by omega) (by omega) (by omega) (by omega), s 19 (by omega) (by omega) (by omega) (by omega) (by omega), a4]
    grind
  · rw [cN_cong (s 9 (by omega) (by omega) (by omega) (by omega) (by omega)), b1]
  · rw [cN_cong h10] at hj
    rw [s _ (by omega) (by omega) (by omega) (by omega) (by omega)]
    exact b2 j hj
  · rw [s _ (by omega) (by omega) (by omega) (by omega) (by omega)]
    exact b3 j hj
  · rw [s 4 (by omega) (by omega) (by omega) (by omega) (by omega)]
    exact b4
end
