/-! ===== PURE p29, 5: each step keeps the two rows d days apart; hires and days ===== -/
def wDay (w : Nat → Int32) : Nat → Int32 := upd (mkW w (cN w 0) (20 * cN w 10)) 0 (nI (cN w 0 + 1))
section
variable {d : Nat} {w w' : Nat → Int32}
theorem Sh.pay (s : Sh d w w') {b : Nat} (hb : b < 10) (y : Int32) : Sh d (wPay w b y) (wPay w' b y) := by
  have sp : ∀ (x : Nat → Int32) (c : Nat), (c = 0 ∨ c = 10 ∨ 40 ≤ c) → wPay x b y c = x c := fun x c h => by
    unfold wPay
    rw [if_neg (by omega), if_neg (by omega)]
  have or_ : ∀ c, w' c = w c → wPay w' b y c = wPay w b y c := fun c h => by
    unfold wPay
    rw [s.lo (c := 19) (by decide) (by decide), s.lo (c := 20 + 2 * b + 1) (by omega) (by omega), h]
  refine ⟨?_, fun c h1 h2 => or_ c (s.lo h1 h2), fun j hj => ?_, fun j hj => ?_⟩
  · rw [sp _ 0 (by omega), sp _ 0 (by omega)]; exact s.1
  · rw [sp w' (40 + 2 * j) (by omega), sp w (40 + 2 * j) (by omega), sp w' (40 + 2 * j + 1) (by omega), sp w (40 + 2 * j + 1) (by omega)]; exact s.2.2.1 j hj
  · rw [cN_cong (sp w 10 (by omega))] at hj
    refine ⟨fun k hk h5 => or_ _ (s.h hj hk h5), ?_⟩
    rw [sp w' _ (by omega), sp w _ (by omega)]; exact (s.2.2.2 j hj).2
theorem Sh.can (s : Sh d w w') (g : Good w) (hd : d < 1000) {i k : Nat} (hi : i < cN w 10) (hb : hN w i 0 < 10) (hk : k < hN w i 4) : Sh d (wCan w i k) (wCan w' i k) := by
  have h20 := (g.2.2.2.2.2.2.2.1 i hi).2.2.2.2.2.2.2.1
  have e0 := s.hn hi (k := 0) (by decide) (by decide)
  have eR := s.rfd2E g hd hi hk
  have sp : ∀ (x : Nat → Int32) (c : Nat), hN x i 0 = hN w i 0 → c ≠ 52 + 64 * i + (12 + k) → (c = 0 ∨ c = 10 ∨ 40 ≤ c) → wCan x i k c = x c := fun x c h0 h1 h2 => by
    unfold wCan
    rw [if_neg h1, h0, if_neg (by omega), if_neg (by omega)]
  have or_ : ∀ c, w' c = w c → wCan w' i k c = wCan w i k c := fun c h => by
    unfold wCan
    rw [e0, eR, s.lo (c := 12) (by decide) (by decide), s.lo (c := 20 + 2 * hN w i 0 + 1) (by omega) (by omega), h]
  refine ⟨?_, fun c h1 h2 => or_ c (s.lo h1 h2), fun j hj => ?_, fun j hj => ?_⟩
  · rw [sp _ 0 e0 (by omega) (by omega), sp _ 0 rfl (by omega) (by omega)]; exact s.1
  · rw [sp w' (40 + 2 * j) e0 (by omega) (by omega), sp w (40 + 2 * j) rfl (by omega) (by omega), sp w' (40 + 2 * j + 1) e0 (by omega) (by omega), sp w (40 + 2 * j + 1) rfl (by omega) (by omega)]; exact s.2.2.1 j hj
  · rw [cN_cong (sp w 10 rfl (by omega) (by omega))] at hj
    refine ⟨fun k hk h5 => or_ _ (s.h hj hk h5), ?_⟩
    rw [sp w' _ e0 (by omega) (by omega), sp w _ rfl (by omega) (by omega)]; exact (s.2.2.2 j hj).2
theorem Sh.take (s : Sh d w w') {i a q : Nat} (hi : i < cN w 10) (hb : hN w i 0 < 10) (hq : q = 4 ∨ q = 5) : Sh d (wTake w i a q) (wTake w' i a q) := by
  have e9 := s.hn hi (k := 9) (by decide) (by decide)
  have e0 := s.hn hi (k := 0) (by decide) (by decide)
  have sp : ∀ (x : Nat → Int32) (c : Nat), hN x i 0 = hN w i 0 → c ≠ 52 + 64 * i + 9 → (c = 0 ∨ c = 10 ∨ 40 ≤ c) → wTake x i a q c = x c := fun x c h0 h1 h2 => by
    unfold wTake
    rw [if_neg h1, if_neg (by omega), if_neg (by omega), if_neg (by omega), h0, if_neg (by omega)]
  have or_ : ∀ c, w' c = w c → wTake w' i a q c = wTake w i a q c := fun c h => by
    unfold wTake
    rw [e9, e0, s.lo (c := 14) (by decide) (by decide), s.lo (c := 11 + q) (by omega) (by omega), s.lo (c := 18) (by decide) (by decide), s.lo (c := 20 + 2 * hN w i 0) (by omega) (by omega), h]
  refine ⟨?_, fun c h1 h2 => or_ c (s.lo h1 h2), fun j hj => ?_, fun j hj => ?_⟩
  · rw [sp _ 0 e0 (by omega) (by omega), sp _ 0 rfl (by omega) (by omega)]; exact s.1
  · rw [sp w' (40 + 2 * j) e0 (by omega) (by omega), sp w (40 + 2 * j) rfl (by omega) (by omega), sp w' (40 + 2 * j + 1) e0 (by omega) (by omega), sp w (40 + 2 * j + 1) rfl (by omega) (by omega)]; exact s.2.2.1 j hj
  · rw [cN_cong (sp w 10 rfl (by omega) (by omega))] at hj
    refine ⟨fun k hk h5 => or_ _ (s.h hj hk h5), ?_⟩
    rw [sp w' _ e0 (by omega) (by omega), sp w _ rfl (by omega) (by omega)]; exact (s.2.2.2 j hj).2
theorem Sh.rep (s : Sh d w w') {i k kd a : Nat} (hi : i < cN w 10) (hb : hN w i 0 < 10) (hn : hN w i 11 < 8) : Sh d (wRep w i k kd a) (wRep w' i k kd a) := by
  have t := s.take (a := a) hi hb (q := 4) (Or.inl rfl)
  have e9 := s.hn hi (k := 9) (by decide) (by decide)
  have e11 := s.hn hi (k := 11) (by decide) (by decide)
  have sp : ∀ (x : Nat → Int32) (c : Nat), hN x i 11 = hN w i 11 → (c < 52 + 64 * i + 11 ∨ 52 + 64 * i + 64 ≤ c) → wRep x i k kd a c = wTake x i a 4 c := fun x c h0 h1 => by
    unfold wRep
    rw [h0, if_neg (by omega), if_neg (by omega), if_neg (by omega), if_neg (by omega), if_neg (by omega)]
  have or_ : ∀ c, wTake w' i a 4 c = wTake w i a 4 c → wRep w' i k kd a c = wRep w i k kd a c := fun c h => by
    unfold wRep
    rw [e11, e9, h]
  have c10 : cN (wTake w i a 4) 10 = cN w 10 := cN_cong (by
    unfold wTake
    rw [if_neg (by omega), if_neg (by omega), if_neg (by omega), if_neg (by omega), if_neg (by omega)])
  refine ⟨?_, fun c h1 h2 => or_ c (t.lo h1 h2), fun j hj => ?_, fun j hj => ?_⟩
  · rw [sp _ 0 e11 (by omega), sp _ 0 rfl (by omega)]; exact t.1
  · rw [sp w' (40 + 2 * j) e11 (by omega), sp w (40 + 2 * j) rfl (by omega), sp w' (40 + 2 * j + 1) e11 (by omega), sp w (40 + 2 * j + 1) rfl (by omega)]; exact t.2.2.1 j hj
  · rw [cN_cong (sp w 10 rfl (by omega))] at hj
    refine ⟨fun k hk h5 => or_ _ (t.h hj hk h5), ?_⟩
    rw [sp w' _ e11 (by omega), sp w _ rfl (by omega)]; exact (t.2.2.2 j hj).2
theorem Sh.sett (s : Sh d w w') {i : Nat} (hi : i < cN w 10) (hb : hN w i 0 < 10) : Sh d (wSet w i) (wSet w' i) := by
  have e9 := s.h hi (k := 9) (by decide) (by decide)
  have e0 := s.hn hi (k := 0) (by decide) (by decide)
  have sp : ∀ (x : Nat → Int32) (c : Nat), hN x i 0 = hN w i 0 → c ≠ 52 + 64 * i + 9 → c ≠ 52 + 64 * i + 10 → (c = 0 ∨ c = 10 ∨ 40 ≤ c) → wSet x i c = x c := fun x c h0 h1 h2 h3 => by
    unfold wSet
    rw [if_neg h1, if_neg h2, if_neg (by omega), if_neg (by omega), h0, if_neg (by omega)]
  have or_ : ∀ c, w' c = w c → wSet w' i c = wSet w i c := fun c h => by
    unfold wSet
    rw [e9, e0, s.lo (c := 14) (by decide) (by decide), s.lo (c := 17) (by decide) (by decide), s.lo (c := 20 + 2 * hN w i 0 + 1) (by omega) (by omega), h]
  refine ⟨?_, fun c h1 h2 => or_ c (s.lo h1 h2), fun j hj => ?_, fun j hj => ?_⟩
  · rw [sp _ 0 e0 (by omega) (by omega) (by omega), sp _ 0 rfl (by omega) (by omega) (by omega)]; exact s.1
  · rw [sp w' (40 + 2 * j) e0 (by omega) (by omega) (by omega), sp w (40 + 2 * j) rfl (by omega) (by omega) (by omega), sp w' (40 + 2 * j + 1) e0 (by omega) (by omega) (by omega), sp w (40 + 2 * j + 1) rfl (by omega) (by omega) (by omega)]; exact s.2.2.1 j hj
  · rw [cN_cong (sp w 10 rfl (by omega) (by omega) (by omega))] at hj
    refine ⟨fun k hk h5 => or_ _ (s.h hj hk h5), ?_⟩
    rw [sp w' _ e0 (by omega) (by omega) (by omega), sp w _ rfl (by omega) (by omega) (by omega)]; exact (s.2.2.2 j hj).2
theorem Sh.back (s : Sh d w w') {j : Nat} (hj : j < 6) : Sh d (wBack w j) (wBack w' j) := by
  have sp : ∀ (x : Nat → Int32) (c : Nat), c ≠ 40 + 2 * j → c ≠ 40 + 2 * j + 1 → wBack x j c = x c := fun x c h1 h2 => by
    unfold wBack
    rw [if_neg h1, if_neg h2]
  refine ⟨?_, fun c h1 h2 => ?_, fun q hq => ?_, fun q hq => ?_⟩
  · rw [sp w' 0 (by omega) (by omega), sp w 0 (by omega) (by omega)]; exact s.1
  · rw [sp w' c (by omega) (by omega), sp w c (by omega) (by omega)]; exact s.lo h1 h2
  · by_cases e : q = j
    · subst e
      refine ⟨?_, fun h => absurd (if_pos rfl) h⟩
      unfold wBack
      rw [if_pos rfl, if_pos rfl]
    · rw [sp w' _ (by omega) (by omega), sp w _ (by omega) (by omega), sp w' _ (by omega) (by omega), sp w _ (by omega) (by omega)]; exact s.2.2.1 q hq
  · rw [cN_cong (sp w 10 (by omega) (by omega))] at hq
    refine ⟨fun k hk h5 => ?_, ?_⟩
    · rw [sp w' _ (by omega) (by omega), sp w _ (by omega) (by omega)]; exact s.h hq hk h5
    · rw [sp w' _ (by omega) (by omega), sp w _ (by omega) (by omega)]; exact (s.2.2.2 q hq).2
theorem Sh.lend (s : Sh d w w') (g : Good w) (hd : d < 1000) {i j k : Nat} (hj : j < 6) (hi : i < cN w 10) : Sh d (wLend w j i k) (wLend w' j i k) := by
  have gi := g.2.2.2.2.2.2.2.1 i hi
  have e5 := s.h5 hi gi hd
  have e6 := s.hn hi (k := 6) (by decide) (by decide)
  have e8 := s.cn (c := 8) (by decide) (by decide)
  have sp : ∀ (x : Nat → Int32) (c : Nat), c ≠ 40 + 2 * j → c ≠ 40 + 2 * j + 1 → wLend x j i k c = x c := fun x c h1 h2 => by
    unfold wLend
    rw [if_neg h1, if_neg h2]
  refine ⟨?_, fun c h1 h2 => ?_, fun q hq => ?_, fun q hq => ?_⟩
  · rw [sp w' 0 (by omega) (by omega), sp w 0 (by omega) (by omega)]; exact s.1
  · rw [sp w' c (by omega) (by omega), sp w c (by omega) (by omega)]; exact s.lo h1 h2
  · by_cases e : q = j
    · subst e
      refine ⟨?_, fun _ => ?_⟩
      · unfold wLend
        rw [if_pos rfl, if_pos rfl]
      · unfold wLend
        rw [if_neg (by omega), if_pos rfl, if_neg (by omega), if_pos rfl, e5, e6, e8, nI_add]
        congr 1
        omega
    · rw [sp w' _ (by omega) (by omega), sp w _ (by omega) (by omega), sp w' _ (by omega) (by omega), sp w _ (by omega) (by omega)]; exact s.2.2.1 q hq
  · rw [cN_cong (sp w 10 (by omega) (by omega))] at hq
    refine ⟨fun k hk h5 => ?_, ?_⟩
    · rw [sp w' _ (by omega) (by omega), sp w _ (by omega) (by omega)]; exact s.h hq hk h5
    · rw [sp w' _ (by omega) (by omega), sp w _ (by omega) (by omega)]; exact (s.2.2.2 q hq).2
theorem mk_in {b ro D f t n p : Nat} {x : Nat → Int32} {m q : Nat} (hm : cN x 10 = m) (hb : b < 10) (hq : q < 64) : wMake x b ro D f t n p (52 + 64 * m + q) = row0 b ro D f t n p (pP x (nI ro) f t n) (x 6) q := by
  unfold wMake
  rw [hm, if_neg (by omega), if_neg (by omega), if_neg (by omega), if_neg (by omega), if_neg (by omega), if_pos (by omega), show 52 + 64 * m + q - (52 + 64 * m) = q by omega]
theorem mk_out {b ro D f t n p : Nat} {x : Nat → Int32} {m c : Nat} (hm : cN x 10 = m) (h1 : c ≠ 10) (h2 : c ≠ 14) (h3 : c ≠ 13) (h4 : c ≠ 11) (h5 : c ≠ 20 + 2 * b) (h6 : c < 52 + 64 * m ∨ 52 + 64 * m + 64 ≤ c) : wMake x b ro D f t n p c = x c := by
  unfold wMake
  rw [hm, if_neg h1, if_neg h2, if_neg h3, if_neg h4, if_neg h5, if_neg (by omega)]
theorem mk_10 {b ro D f t n p : Nat} {x : Nat → Int32} (h : cN x 10 ≤ 12) : wMake x b ro D f t n p 10 = nI (cN x 10 + 1) ∧ cN (wMake x b ro D f t n p) 10 = cN x 10 + 1 := by
  have e : wMake x b ro D f t n p 10 = nI (cN x 10 + 1) := if_pos rfl
  exact ⟨e, cN_of e (by omega)⟩
theorem row5 (b ro D f t n p d : Nat) (P dep : Int32) : row0 b ro (D + d) f t n p P dep 5 = row0 b ro D f t n p P dep 5 + nI d := (nI_add D d).symm
theorem row_ne (b ro D D' f t n p : Nat) (P dep : Int32) {q : Nat} (h : q ≠ 5) : row0 b ro D' f t n p P dep q = row0 b ro D f t n p P dep q := by
  unfold row0
  rw [if_neg h, if_neg h]
theorem Sh.make (s : Sh d w w') {b ro D f t n p : Nat} (h12 : cN w 10 ≤ 12) (hb : b < 10) : Sh d (wMake w b ro D f t n p) (wMake w' b ro (D + d) f t n p) := by
  have eP := s.pPE (nI ro) f t n
  have e6 := s.lo (c := 6) (by decide) (by decide)
  have em := s.m
  refine ⟨?_, fun c h1 h2 => ?_, fun j hj => ?_, fun j hj => ?_⟩
  · rw [mk_out (x := w') rfl (by omega) (by omega) (by omega) (by omega) (by omega) (by omega), mk_out (x := w) rfl (by omega) (by omega) (by omega) (by omega) (by omega) (by omega)]; exact s.1
  · unfold wMake
    rw [em, eP, e6, s.lo (c := 14) (by decide) (by decide), s.lo (c := 13) (by decide) (by decide), s.lo (c := 11) (by decide) (by decide), s.lo (c := 20 + 2 * b) (by omega) (by omega), if_neg (show ¬ (52 + 64 * cN w 10 ≤ c ∧ c < 52 + 64 * cN w 10 + 64) by omega), if_neg (show ¬ (52 + 64 * cN w 10 ≤ c ∧ c < 52 + 64 * cN w 10 + 64) by omega), s.lo h1 h2]
  · rw [mk_out (x := w') rfl (by omega) (by omega) (by omega) (by omega) (by omega) (by omega), mk_out (x := w) rfl (by omega) (by omega) (by omega) (by omega) (by omega) (by omega), mk_out (x := w') rfl (by omega) (by omega) (by omega) (by omega) (by omega) (by omega), mk_out (x := w) rfl (by omega) (by omega) (by omega) (by omega) (by omega) (by omega)]
    exact s.2.2.1 j hj
  · rw [(mk_10 h12).2] at hj
    by_cases e : j = cN w 10
    · refine ⟨fun k hk h5 => ?_, ?_⟩
      · rw [e, mk_in (x := w) rfl hb hk, mk_in (x := w') em hb hk, eP, e6]
        exact row_ne _ _ _ _ _ _ _ _ _ _ h5
      · rw [e, mk_in (x := w) rfl hb (by decide), mk_in (x := w') em hb (by decide), eP, e6]
        exact row5 _ _ _ _ _ _ _ _ _ _
    · have hj' : j < cN w 10 := by omega
      refine ⟨fun k hk h5 => ?_, ?_⟩
      · rw [mk_out (x := w') em (by omega) (by omega) (by omega) (by omega) (by omega) (by omega), mk_out (x := w) rfl (by omega) (by omega) (by omega) (by omega) (by omega) (by omega)]; exact s.h hj' hk h5
      · rw [mk_out (x := w') em (by omega) (by omega) (by omega) (by omega) (by omega) (by omega), mk_out (x := w) rfl (by omega) (by omega) (by omega) (by omega) (by omega) (by omega)]; exact (s.2.2.2 j hj').2
end
