/-! ===== PURE 7: hours of a day ===== -/
/-- x is a row of 24 bits -/
def bw (x : Int32) (p : Nat → Bool) : Prop := ∃ H : Nat, H < 2 ^ 24 ∧ x = nI H ∧ ∀ k, k < 24 → H.testBit k = p k
theorem bw_0 : bw 0 (fun _ => false) := ⟨0, by decide, rfl, fun k _ => Nat.zero_testBit k⟩
theorem bw_or {x y : Int32} {p q : Nat → Bool} (h : bw x p) (h' : bw y q) : bw (x ||| y) (fun k => p k || q k) := by
  obtain ⟨H, h1, rfl, h2⟩ := h
  obtain ⟨H', h1', rfl, h2'⟩ := h'
  refine ⟨H ||| H', Nat.or_lt_two_pow h1 h1', fa_or H H', fun k hk => ?_⟩
  rw [Nat.testBit_or, h2 k hk, h2' k hk]
theorem bw_cong {x : Int32} {p q : Nat → Bool} (h : bw x p) (hq : ∀ k, k < 24 → p k = q k) : bw x q := by
  obtain ⟨H, h1, h2, h3⟩ := h
  exact ⟨H, h1, h2, fun k hk => (h3 k hk).trans (hq k hk)⟩
theorem bw_ext {x y : Int32} {p : Nat → Bool} (h : bw x p) (h' : bw y p) : x = y := by
  obtain ⟨H, h1, rfl, h2⟩ := h
  obtain ⟨H', h1', rfl, h2'⟩ := h'
  congr 1
  refine Nat.eq_of_testBit_eq fun k => ?_
  rcases Nat.lt_or_ge k 24 with q | q
  · rw [h2 k q, h2' k q]
  · rw [Nat.testBit_lt_two_pow (Nat.lt_of_lt_of_le h1 (Nat.pow_le_pow_right (n := 2) (by decide) q)), Nat.testBit_lt_two_pow (Nat.lt_of_lt_of_le h1' (Nat.pow_le_pow_right (n := 2) (by decide) q))]
theorem bw_and0 {x y : Int32} {p q : Nat → Bool} (h : bw x p) (h' : bw y q) : x &&& y = 0 ↔ ∀ k, k < 24 → ¬ (p k = true ∧ q k = true) := by
  obtain ⟨H, h1, rfl, h2⟩ := h
  obtain ⟨H', h1', rfl, h2'⟩ := h'
  rw [fa_and]
  have hlt : H &&& H' < 2 ^ 24 := Nat.lt_of_le_of_lt Nat.and_le_left h1
  constructor
  · intro e k hk z
    have e0 : H &&& H' = 0 := (nI_eq (b := 0) (by omega) (by decide)).mp e
    have : (H &&& H').testBit k = true := by rw [Nat.testBit_and, h2 k hk, h2' k hk, z.1, z.2]; rfl
    rw [e0, Nat.zero_testBit] at this
    cases this
  · intro hz
    have : H &&& H' = 0 := by
      refine Nat.eq_of_testBit_eq fun k => ?_
      rw [Nat.zero_testBit]
      rcases Nat.lt_or_ge k 24 with z | z
      · have hh := hz k z
        rw [Nat.testBit_and, h2 k z, h2' k z]
        cases hp : p k with
        | false => rfl
        | true =>
          cases hq : q k with
          | false => rfl
          | true => exact absurd ⟨hp, hq⟩ hh
      · exact Nat.testBit_lt_two_pow (Nat.lt_of_lt_of_le hlt (Nat.pow_le_pow_right (n := 2) (by decide) z))
    rw [this]
    rfl
theorem seg_bits : ∀ e, e < 25 → ∀ s, s < 25 → ∀ k, k < 24 → s ≤ e → (2 ^ e - 2 ^ s).testBit k = (decide (s ≤ k) && decide (k < e)) := by decide +kernel
/-- the hours from s to e -/
def seg (s e : Nat) : Int32 := nI (2 ^ e - 2 ^ s)
theorem seg_bw {s e : Nat} (h : s ≤ e) (he : e ≤ 24) : bw (seg s e) (fun k => decide (s ≤ k) && decide (k < e)) := by
  refine ⟨2 ^ e - 2 ^ s, ?_, rfl, fun k hk => seg_bits e (by omega) s (by omega) k hk h⟩
  have h1 : 2 ^ e ≤ 2 ^ 24 := Nat.pow_le_pow_right (by decide) he
  have h2 : 0 < 2 ^ s := Nat.two_pow_pos s
  omega
theorem shl_1 {n : Nat} (hn : n < 31) : (1 : Int32) <<< (nI n &&& 31) = nI (2 ^ n) := by
  have hp : 2 ^ n < 2 ^ 31 := Nat.pow_lt_pow_right (by decide) hn
  have := pk_shlN (n := 1) (nI n &&& 31) n (s_l n (by omega)) (by omega)
  rw [Nat.one_mul] at this
  exact this
theorem hm_gen {a b : Int32} {s e : Nat} (hs : (if 24 < (if a < 0 then 0 else a) then (24 : Int32) else (if a < 0 then 0 else a)) = nI s) (he : (if 24 < (if b < nI s then nI s else b) then (24 : Int32) else (if b < nI s then nI s else b)) = nI e) (hse : s ≤ e) (he24 : e ≤ 24) : f_X7_hoursMask a b = some (seg s e) := by
  unfold f_X7_hoursMask
  rw [hs, xls, he, xls, shl_1 (by omega), shl_1 (by omega), pk_sub (Nat.pow_le_pow_right (by decide) hse)]
  rfl
theorem hm_1 {f t g : Nat} (hft : f < t) (ht : t ≤ 24) (hg : g ≤ 3) : f_X7_hoursMask (nI f - nI g) (nI t + nI g) = some (seg (f - g) (min (t + g) 24)) := by
  refine hm_gen ?_ ?_ (by omega) (by omega)
  · by_cases h : f < g
    · rw [if_pos (pk_sneg (by omega) h), if_neg (by decide), show f - g = 0 by omega]
      rfl
    · rw [pk_sub (by omega), if_neg (nI_pos (by omega)), if_neg (show ¬ (24 : Int32) < nI (f - g) from nI_nlt (a := 24) (by omega) (by decide))]
  · rw [nI_add, if_neg (nI_nlt (by omega) (by omega))]
    by_cases h : 24 < t + g
    · rw [if_pos (show (24 : Int32) < nI (t + g) from nI_lt (a := 24) h (by omega)), show min (t + g) 24 = 24 by omega]
      rfl
    · rw [if_neg (show ¬ (24 : Int32) < nI (t + g) from nI_nlt (a := 24) (by omega) (by decide)), show min (t + g) 24 = t + g by omega]
theorem hm_2 {f t : Nat} (hft : f < t) (ht : t ≤ 24) : f_X7_hoursMask (nI f) (nI t) = some (seg f t) := by
  have h := hm_1 (g := 0) hft ht (by decide)
  rw [pk_sub (Nat.zero_le _), nI_add, Nat.sub_zero, Nat.add_zero, show min t 24 = t by omega] at h
  exact h
/-! what is taken -/
def bG (w : Nat → Int32) (hirer : Int32) (gap i : Nat) : Nat := if w (52 + 64 * i + 0) = hirer then 0 else gap
def bC (w : Nat → Int32) (rooms : Int32) (d i : Nat) : Bool := onB w i d && !decide (w (52 + 64 * i + 1) &&& rooms = 0)
def aB (w : Nat → Int32) (d : Nat) (rooms hirer : Int32) (gap : Nat) : Nat → Int32
  | 0 => 0
  | i + 1 => if bC w rooms d i = true then aB w d rooms hirer gap i ||| seg (hN w i 2 - bG w hirer gap i) (min (hN w i 3 + bG w hirer gap i) 24) else aB w d rooms hirer gap i
theorem aB_s (w : Nat → Int32) (d : Nat) (rooms hirer : Int32) (gap i : Nat) : aB w d rooms hirer gap (i + 1) = if bC w rooms d i = true then aB w d rooms hirer gap i ||| seg (hN w i 2 - bG w hirer gap i) (min (hN w i 3 + bG w hirer gap i) 24) else aB w d rooms hirer gap i := rfl
def fo (P : Nat → Nat → Bool) : Nat → Nat → Bool
  | 0, _ => false
  | n + 1, k => fo P n k || P n k
theorem fo_s (P : Nat → Nat → Bool) (n k : Nat) : fo P (n + 1) k = (fo P n k || P n k) := rfl
theorem fo_iff {P : Nat → Nat → Bool} {k : Nat} : ∀ {n : Nat}, fo P n k = true ↔ ∃ i, i < n ∧ P i k = true
  | 0 => ⟨(fun h => by cases h), (fun ⟨i, hi, _⟩ => absurd hi (Nat.not_lt_zero _))⟩
  | n + 1 => by
    rw [fo_s, Bool.or_eq_true, fo_iff]
    constructor
    · rintro (⟨i, h1, h2⟩ | h)
      · exact ⟨i, by omega, h2⟩
      · exact ⟨n, by omega, h⟩
    · rintro ⟨i, h1, h2⟩
      rcases Nat.lt_or_ge i n with q | q
      · exact Or.inl ⟨i, q, h2⟩
      · have : i = n := by omega
        subst this
        exact Or.inr h2
theorem bC_m {w : Nat → Int32} {rooms : Int32} {d i : Nat} (h : bC w rooms d i = true) : i < cN w 10 := by
  unfold bC at h
  rw [Bool.and_eq_true] at h
  exact onB_i h.1
section
variable {v : xV} {w : Nat → Int32}
theorem aB_bw (hg : ∀ i, i < cN w 10 → GH w i) {d : Nat} {rooms hirer : Int32} {gap : Nat} : ∀ n, bw (aB w d rooms hirer gap n) (fo (fun i k => bC w rooms d i && (decide (hN w i 2 - bG w hirer gap i ≤ k) && decide (k < min (hN w i 3 + bG w hirer gap i) 24))) n)
  | 0 => bw_0
  | n + 1 => by
    have ih := aB_bw hg (d := d) (rooms := rooms) (hirer := hirer) (gap := gap) n
    rw [aB_s]
    by_cases h : bC w rooms d n = true
    · have g := hg n (bC_m h)
      obtain ⟨-, -, -, -, g5, g6, -⟩ := g
      rw [if_pos h]
      refine bw_cong (bw_or ih (seg_bw (by omega) (by omega))) fun k _ => ?_
      rw [fo_s, h, Bool.true_and]
    · rw [if_neg h]
      refine bw_cong ih fun k _ => ?_
      rw [fo_s, Bool.eq_false_iff.mpr h, Bool.false_and, Bool.or_false]
theorem c_blocked (r : RB v w) {d gap : Nat} (hd : d < 1000) (hgap : gap ≤ 3) (rooms hirer : Int32) : f_X0_blockedHours v (nI d) rooms hirer (nI gap) = some (aB w d rooms hirer gap 12) := by
  have h12 := r.m12
  unfold f_X0_blockedHours
  refine xup0 (fun n k => L_X0_blockedHours_17 _ v (nI d) rooms hirer (nI gap) n (aB w d rooms hirer gap k) (nI k)) _ 12 (fun n k hk => ?_) (fun n => ?_) (by decide)
  · rw [L_X0_blockedHours_17, if_neg (show ¬ (12 : Int32) ≤ nI k from nI_ge (b := 12) hk (by decide)), xgi hk (by decide), xls, nI_clamp (by omega)]
    simp only [xls, nI_1]
    by_cases hm : k < cN w 10
    · have g := r.g hm
      obtain ⟨⟨v1, v2, v3, v4, -, -, -, -⟩, -, -, -, -⟩ := r.h hm
      obtain ⟨g1, -, -, -, g5, g6, -⟩ := g
      rw [v1, v2, v3, v4, g1 2 (by decide), g1 3 (by decide), c_isOn r hk hd, xbs]
      conv => rhs; rw [aB_s]
      by_cases h1 : w (52 + 64 * k + 1) &&& rooms = 0
      · have hb : ¬ bC w rooms d k = true := by unfold bC; simp [h1]
        rw [if_pos h1, if_neg hb]
      · rw [if_neg h1]
        by_cases ho : onB w k d = true
        · have hb : bC w rooms d k = true := by unfold bC; simp [h1, ho]
          rw [if_pos ho, i10, if_pos hb]
          by_cases h0 : w (52 + 64 * k + 0) = hirer
          · have hgg : bG w hirer gap k = 0 := if_pos h0
            rw [if_pos h0, hgg, show (0 : Int32) = nI 0 from rfl, hm_1 g5 g6 (by decide), xbs]
          · have hgg : bG w hirer gap k = gap := if_neg h0
            rw [if_neg h0, hgg, hm_1 g5 g6 hgap, xbs]
        · have hb : ¬ bC w rooms d k = true := by unfold bC; simp [ho]
          rw [if_neg ho, i00, if_neg hb]
    · obtain ⟨-, q⟩ := r.e (by omega) hk
      rw [q 2 (by decide) (by decide), show (0 : Int32) &&& rooms = 0 from Int32.zero_and, if_pos rfl]
      conv => rhs; rw [aB_s]
      rw [if_neg (fun z => hm (bC_m z))]
  · rw [L_X0_blockedHours_17, if_pos (show (12 : Int32) ≤ nI 12 from by decide)]
end
def orI (a : Int32) (f : Nat) : Nat → Int32
  | 0 => a
  | j + 1 => orI a f j ||| ((1 : Int32) <<< (nI (f + j) &&& 31))
theorem orI_bw {a : Int32} {p : Nat → Bool} (h : bw a p) {f : Nat} : ∀ j, f + j ≤ 24 → bw (orI a f j) (fun k => p k || (decide (f ≤ k) && decide (k < f + j)))
  | 0, _ => bw_cong h fun k _ => by
    have : (decide (f ≤ k) && decide (k < f + 0)) = false := by
      rw [Bool.and_eq_false_iff, decide_eq_false_iff_not, decide_eq_false_iff_not]
      omega
    rw [this, Bool.or_false]
  | j + 1, hj => by
    have ih := orI_bw h (f := f) j (by omega)
    have hs : bw ((1 : Int32) <<< (nI (f + j) &&& 31)) (fun k => decide (k = f + j)) := by
      have hp : 2 ^ (f + j) < 2 ^ 24 := Nat.pow_lt_pow_right (by decide) (by omega)
      refine ⟨2 ^ (f + j), hp, shl_1 (by omega), fun k _ => ?_⟩
      rw [Nat.testBit_two_pow]
      by_cases e : k = f + j
      · simp [e]
      · simp [e, Ne.symm e]
    refine bw_cong (bw_or ih hs) fun k _ => ?_
    rw [Bool.or_assoc]
    congr 1
    by_cases h1 : f ≤ k
    · by_cases h2 : k < f + j
      · simp [h1, h2, show k < f + (j + 1) by omega]
      · by_cases h3 : k = f + j
        · simp [h1, h3]
        · simp [h1, h2, h3, show ¬ k < f + (j + 1) by omega]
    · simp [h1, show ¬ k = f + j by omega]
def tM (w : Nat → Int32) (d : Nat) (rooms : Int32) : Nat → Int32
  | 0 => 0
  | i + 1 => if bC w rooms d i = true then orI (tM w d rooms i) (hN w i 2) (hN w i 3 - hN w i 2) else tM w d rooms i
theorem tM_s (w : Nat → Int32) (d : Nat) (rooms : Int32) (i : Nat) : tM w d rooms (i + 1) = if bC w rooms d i = true then orI (tM w d rooms i) (hN w i 2) (hN w i 3 - hN w i 2) else tM w d rooms i := rfl
theorem tM_bw {w : Nat → Int32} (hg : ∀ i, i < cN w 10 → GH w i) {d : Nat} {rooms : Int32} : ∀ n, bw (tM w d rooms n) (fo (fun i k => bC w rooms d i && (decide (hN w i 2 ≤ k) && decide (k < hN w i 3))) n)
  | 0 => bw_0
  | n + 1 => by
    have ih := tM_bw hg (d := d) (rooms := rooms) n
    rw [tM_s]
    by_cases h : bC w rooms d n = true
    · have g := hg n (bC_m h)
      obtain ⟨-, -, -, -, g5, g6, -⟩ := g
      rw [if_pos h]
      refine bw_cong (orI_bw ih _ (by omega)) fun k _ => ?_
      rw [fo_s, h, Bool.true_and, show hN w n 2 + (hN w n 3 - hN w n 2) = hN w n 3 by omega]
    · rw [if_neg h]
      refine bw_cong ih fun k _ => ?_
      rw [fo_s, Bool.eq_false_iff.mpr h, Bool.false_and, Bool.or_false]
section
variable {v M : xV}
theorem m_taken_loop (r : RB v (M 1)) {d : Nat} (hd : d < 1000) (rooms : Int32) : L_X8_taken_32 (fun x_69 _ => some x_69) M (nI d) rooms 100000 0 0 = some (tM (M 1) d rooms (cN (M 1) 10)) := by
  have h12 := r.m12
  refine xup0 (fun n k => L_X8_taken_32 _ M (nI d) rooms n (tM (M 1) d rooms k) (nI k)) _ (cN (M 1) 10) (fun n i hi => ?_) (fun n => ?_) (by omega)
  · have g := r.g hi
    obtain ⟨g1, -, -, -, g5, g6, -, h20, -, -, h364, -⟩ := id g
    have o1 : f_X8_of M (nI i) 1 = some (M 1 (52 + 64 * i + 1)) := m_of (k := 1) (by omega)
    have o2 : f_X8_of M (nI i) 2 = some (nI (hN (M 1) i 2)) := (m_of (k := 2) (by omega)).trans (by rw [g1 2 (by decide)])
    have o3 : f_X8_of M (nI i) 3 = some (nI (hN (M 1) i 3)) := (m_of (k := 3) (by omega)).trans (by rw [g1 3 (by decide)])
    have o4 : f_X8_of M (nI i) 4 = some (nI (hN (M 1) i 4)) := (m_of (k := 4) (by omega)).trans (by rw [g1 4 (by decide)])
    rw [L_X8_taken_32, r.wm, if_neg (nI_ge hi (by omega))]
    have e1 : ∀ (K : Int32 → Int32 → Option Int32) (a : Int32) (x : Int32), L_X8_taken_118 K M (nI i) 100000 a x = K a x := fun K a x => by
      rw [show (100000 : Nat) = 99999 + 1 from rfl, L_X8_taken_118, o3, xbs]
      split <;> rfl
    have e2 : ∀ (K : Int32 → Int32 → Option Int32) (a : Int32) (x : Int32), L_X8_taken_118a K M (nI i) 100000 a x = K a x := fun K a x => by
      rw [show (100000 : Nat) = 99999 + 1 from rfl, L_X8_taken_118a, o3, xbs]
      split <;> rfl
    have e3 : ∀ (K : Int32 → Int32 → Option Int32) (a : Int32) (x : Int32), L_X8_taken_118b K M (nI i) 100000 a x = K a x := fun K a x => by
      rw [show (100000 : Nat) = 99999 + 1 from rfl, L_X8_taken_118b, o3, xbs]
      split <;> rfl
    have e4 : ∀ (K : Int32 → Int32 → Option Int32) (a : Int32), L_X8_taken_118c K M (nI i) 100000 a (nI (hN (M 1) i 2)) = K (orI a (hN (M 1) i 2) (hN (M 1) i 3 - hN (M 1) i 2)) (nI (hN (M 1) i 3)) := fun K a => by
      have := xup0 (fun n j => L_X8_taken_118c K M (nI i) n (orI a (hN (M 1) i 2) j) (nI (hN (M 1) i 2 + j))) (K (orI a (hN (M 1) i 2) (hN (M 1) i 3 - hN (M 1) i 2)) (nI (hN (M 1) i 3))) (hN (M 1) i 3 - hN (M 1) i 2) (fun n j hj => by
        rw [L_X8_taken_118c, o3, xbs, if_neg (nI_ge (by omega) (by omega)), xls, xls, nI_1]
        rfl) (fun n => by
        rw [L_X8_taken_118c, o3, xbs, show hN (M 1) i 2 + (hN (M 1) i 3 - hN (M 1) i 2) = hN (M 1) i 3 by omega, if_pos (nI_le (Nat.le_refl _) (by omega))]) (n := 100000) (by omega)
      exact this
    have e : ∀ K : Int32 → Int32 → Option Int32, L_X8_taken_47 K M (nI d) rooms (nI i) 100000 (tM (M 1) d rooms i) 0 = K (tM (M 1) d rooms (i + 1)) (nI (hN (M 1) i 4)) := fun K => by
      have q : L_X8_taken_47 K M (nI d) rooms (nI i) 100000 (if bC (M 1) rooms d i = true ∧ kOn (M 1) i d < 0 then tM (M 1) d rooms (i + 1) else tM (M 1) d rooms i) (nI 0) = K (if bC (M 1) rooms d i = true ∧ kOn (M 1) i d < hN (M 1) i 4 then tM (M 1) d rooms (i + 1) else tM (M 1) d rooms i) (nI (hN (M 1) i 4)) := by
        refine xup0 (fun n k => L_X8_taken_47 K M (nI d) rooms (nI i) n (if bC (M 1) rooms d i = true ∧ kOn (M 1) i d < k then tM (M 1) d rooms (i + 1) else tM (M 1) d rooms i) (nI k)) _ (hN (M 1) i 4) (fun n k hk => ?_) (fun n => ?_) (n := 100000) (by omega)
        · have gk := g.2.2.2.2.2.2.2.2.2.2.2.2.2.2.2.2.2 k hk
          have hkp : hN (M 1) i 5 + k * hN (M 1) i 6 ≤ 364 := by
            have : k * hN (M 1) i 6 ≤ (hN (M 1) i 4 - 1) * hN (M 1) i 6 := Nat.mul_le_mul_right _ (by omega)
            omega
          rw [L_X8_taken_47, o4, xbs, if_neg (nI_ge hk (by omega)), show (12 : Int32) + nI k = nI (12 + k) from nI_add 12 k, m_of (by omega), xbs, gk.1, o1, o2]
          simp only [xbs]
          rw [e1, e2, e3, e4, show (20 : Int32) * nI i + nI k = nI (20 * i + k) by rw [show (20 : Int32) = nI 20 from rfl, pk_mul, nI_add], m_dayOf (by omega) (by omega) g, xbs]
          simp only [xls, nI_1]
          have nope : ¬ (bC (M 1) rooms d i = true ∧ kOn (M 1) i d = k) → (if bC (M 1) rooms d i = true ∧ kOn (M 1) i d < k then tM (M 1) d rooms (i + 1) else tM (M 1) d rooms i) = (if bC (M 1) rooms d i = true ∧ kOn (M 1) i d < k + 1 then tM (M 1) d rooms (i + 1) else tM (M 1) d rooms i) := fun hn => by
            by_cases hb : bC (M 1) rooms d i = true
            · by_cases hq : kOn (M 1) i d < k
              · rw [if_pos ⟨hb, hq⟩, if_pos ⟨hb, by omega⟩]
              · rw [if_neg (fun z => hq z.2), if_neg (fun z => hn ⟨hb, by omega⟩)]
            · rw [if_neg (fun z => hb z.1), if_neg (fun z => hb z.1)]
          by_cases hs : hN (M 1) i (12 + k) = 2
          · rw [if_pos (by rw [hs]; rfl)]
            rw [nope (fun q => by
              have h1 := q.1
              unfold bC at h1
              rw [Bool.and_eq_true] at h1
              have := (onB_k h1.1).2
              rw [q.2] at this
              exact this hs)]
          · rw [if_neg (show ¬ nI (hN (M 1) i (12 + k)) = (2 : Int32) from ne_lit (b := 2) hs (by omega) (by decide))]
            by_cases he : hN (M 1) i 5 + k * hN (M 1) i 6 = d
            · have ho : onB (M 1) i d = true := (onB_iff hi g).mpr ⟨k, hk, hs, he⟩
              have hko := kOn_eq g he
              rw [if_pos (by rw [he])]
              by_cases h1 : M 1 (52 + 64 * i + 1) &&& rooms = 0
              · rw [if_pos h1, nope (fun q => by
                  have h2 := q.1
                  unfold bC at h2
                  simp [h1] at h2)]
              · have hb : bC (M 1) rooms d i = true := by unfold bC; simp [ho, h1]
                rw [if_neg h1, if_neg (fun z => by omega : ¬ (bC (M 1) rooms d i = true ∧ kOn (M 1) i d < k)), if_pos (⟨hb, by omega⟩ : bC (M 1) rooms d i = true ∧ kOn (M 1) i d < k + 1)]
                conv => rhs; rw [tM_s]
                rw [if_pos hb]
            · rw [if_neg (ne_lit he (by omega) (by omega)), nope (fun q => by
                have h1 := q.1
                unfold bC at h1
                rw [Bool.and_eq_true] at h1
                obtain ⟨k', h2, h3, h4⟩ := (onB_iff hi g).mp h1.1
                have := kOn_eq g h4
                rw [q.2] at this
                subst this
                exact he h4)]
        · rw [L_X8_taken_47, o4, xbs, if_pos (nI_le (Nat.le_refl _) (by omega))]
      rw [if_neg (fun z => Nat.not_lt_zero _ z.2 : ¬ (bC (M 1) rooms d i = true ∧ kOn (M 1) i d < 0))] at q
      refine q.trans ?_
      congr 1
      by_cases hc : bC (M 1) rooms d i = true
      · have h1 := hc
        unfold bC at h1
        rw [Bool.and_eq_true] at h1
        rw [if_pos ⟨hc, (onB_k h1.1).1⟩]
      · rw [if_neg (fun z => hc z.1)]
        conv => rhs; rw [tM_s]
        rw [if_neg hc]
    rw [e, xls, nI_1]
  · rw [L_X8_taken_32, r.wm, if_pos (nI_le (Nat.le_refl _) (by omega))]
theorem c_rooms (x : Int32) : (∃ j, 1 ≤ j ∧ j ≤ 7 ∧ x = nI j ∧ f_X7_areRooms x = some 1 ∧ f_X8_in x.toInt64 1 7 = some 1) ∨ (f_X7_areRooms x = some 0 ∧ f_X8_in x.toInt64 1 7 = some 0) := by
  unfold f_X7_areRooms
  rcases m_rng 1 7 x (A := 1) (B := 7) rfl rfl (by decide) (by decide) with ⟨j, h1, h2, rfl, e⟩ | ⟨h, e⟩
  · exact Or.inl ⟨j, h1, h2, rfl, by rw [if_neg (show ¬ nI j < (1 : Int32) from nI_nlt (b := 1) h1 (by omega)), if_neg (show ¬ (7 : Int32) < nI j from nI_nlt (a := 7) h2 (by decide))], e⟩
  · refine Or.inr ⟨?_, e⟩
    by_cases h1 : x < 1
    · rw [if_pos h1]
    · rw [if_neg h1]
      rcases h with h | h
      · exact absurd h h1
      · exact if_pos h
theorem s_taken (r : RB v (M 1)) (dv : xV) (p1 p2 : Int32) : SmA (f_X7_taken dv v p1 p2) (f_X8_taken M p1 p2) := by
  unfold f_X7_taken f_X8_taken
  have h12 := r.m12
  rcases m_rng 0 364 p1 (A := 0) (B := 364) rfl rfl (by decide) (by decide) with ⟨d, h1, h2, rfl, e⟩ | ⟨h, e⟩
  · rw [e, xbs, i10, if_neg (nI_pos (by omega)), if_neg (show ¬ (364 : Int32) < nI d from nI_nlt (a := 364) h2 (by decide))]
    rcases c_rooms p2 with ⟨j, h3, h4, rfl, e1, e2⟩ | ⟨e1, e2⟩
    · rw [e1, xbs, i10, e2, xbs, i10, m_taken_loop r (by omega), show (0 : Int32) = nI 0 from rfl, c_blocked r (by omega) (by decide), xbs]
      refine SmA.mk' (bw_ext (aB_bw (fun i hi => r.g hi) 12) (bw_cong (tM_bw (fun i hi => r.g hi) _) fun k hk => ?_))
      have e0 : ∀ i, bG (M 1) (-1) 0 i = 0 := fun i => by unfold bG; split <;> rfl
      rw [Bool.eq_iff_iff, fo_iff, fo_iff]
      constructor
      · rintro ⟨i, q1, q2⟩
        refine ⟨i, by omega, ?_⟩
        have g := r.g q1
        obtain ⟨-, -, -, -, g5, g6, -⟩ := g
        rw [e0, Nat.sub_zero, Nat.add_zero, show min (hN (M 1) i 3) 24 = hN (M 1) i 3 by omega]
        exact q2
      · rintro ⟨i, q1, q2⟩
        have q3 : i < cN (M 1) 10 := by
          rw [Bool.and_eq_true] at q2
          exact bC_m q2.1
        have g := r.g q3
        obtain ⟨-, -, -, -, g5, g6, -⟩ := g
        rw [e0, Nat.sub_zero, Nat.add_zero, show min (hN (M 1) i 3) 24 = hN (M 1) i 3 by omega] at q2
        exact ⟨i, q3, q2⟩
    · rw [e1, xbs, i00, e2, xbs, i00]
      exact SmA.mk
  · rw [e, xbs, i00]
    rcases h with h | h
    · rw [if_pos (show p1 < (0 : Int32) from h)]
      exact SmA.mk
    · by_cases h0 : p1 < 0
      · rw [if_pos h0]
        exact SmA.mk
      · rw [if_neg h0, if_pos (show (364 : Int32) < p1 from h)]
        exact SmA.mk
/-- a stretch is free on the mask just when nothing clashes -/
theorem free_iff (r : RB v (M 1)) {d k l : Nat} {rooms hirer : Int32} (hk : k + l ≤ 23) (hl : 1 ≤ l) : (aB (M 1) d rooms hirer (cN (M 1) 5) 12 &&& seg k (k + l)) = 0 ↔ sOf (M 1) d (bst (M 1) hirer rooms (nI k) (nI (k + l)) d 12) = -1 := by
  have h12 := r.m12
  have g5 := r.1.2.2.2.1
  rw [bw_and0 (aB_bw (fun i hi => r.g hi) 12) (seg_bw (Nat.le_add_right _ _) (by omega))]
  have hc : ∀ i, cand (M 1) hirer rooms (nI k) (nI (k + l)) d i = true ↔ bC (M 1) rooms d i = true ∧ k < hN (M 1) i 3 + bG (M 1) hirer (cN (M 1) 5) i ∧ hN (M 1) i 2 < k + l + bG (M 1) hirer (cN (M 1) 5) i := fun i => by
    by_cases hi : i < cN (M 1) 10
    · have g := r.g hi
      obtain ⟨g1, -, -, -, g55, g6, -⟩ := g
      unfold cand bC gI bG
      rw [g1 2 (by decide), g1 3 (by decide)]
      have e5 : (if M 1 (52 + 64 * i + 0) = hirer then (0 : Int32) else M 1 5) = nI (if M 1 (52 + 64 * i + 0) = hirer then 0 else cN (M 1) 5) := by
        split
        · rfl
        · exact g5.1
      have hle : (if M 1 (52 + 64 * i + 0) = hirer then 0 else cN (M 1) 5) ≤ 3 := by
        split
        · omega
        · exact g5.2
      rw [e5]
      generalize (if M 1 (52 + 64 * i + 0) = hirer then 0 else cN (M 1) 5) = q at hle ⊢
      rw [nI_add, nI_add]
      simp only [Bool.and_eq_true, Bool.not_eq_true', decide_eq_false_iff_not]
      rw [nI_leI (by omega) (by omega), nI_leI (by omega) (by omega), Nat.not_le, Nat.not_le]
      constructor
      · rintro ⟨a1, a2, a3, a4⟩
        exact ⟨⟨a1, a2⟩, a3, a4⟩
      · rintro ⟨⟨a1, a2⟩, a3, a4⟩
        exact ⟨a1, a2, a3, a4⟩
    · constructor
      · intro q
        exact absurd (cand_m q) hi
      · intro q
        exact absurd (bC_m q.1) hi
  have hs : sOf (M 1) d (bst (M 1) hirer rooms (nI k) (nI (k + l)) d 12) = -1 ↔ ∀ i, i < 12 → cand (M 1) hirer rooms (nI k) (nI (k + l)) d i = false := by
    rw [← bst_none]
    cases q : bst (M 1) hirer rooms (nI k) (nI (k + l)) d 12 with
    | none => exact ⟨fun _ => rfl, fun _ => rfl⟩
    | some b =>
      obtain ⟨hb, hcb⟩ := bst_lt q
      have hko := (onB_k (cand_on hcb)).1
      have hb20 := (r.g (cand_m hcb)).2.2.2.2.2.2.2.1
      exact ⟨fun z => absurd z.symm (nI_m1 (by omega)), fun z => by cases z⟩
  rw [hs]
  constructor
  · intro h i hi
    refine Bool.eq_false_iff.mpr fun q => ?_
    obtain ⟨q1, q2, q3⟩ := (hc i).mp q
    have g := r.g (bC_m q1)
    obtain ⟨-, -, -, -, g55, g6, -⟩ := g
    refine h (max k (hN (M 1) i 2 - bG (M 1) hirer (cN (M 1) 5) i)) (by omega) ⟨fo_iff.mpr ⟨i, hi, ?_⟩, ?_⟩
    · simp only [Bool.and_eq_true, decide_eq_true_iff]
      exact ⟨q1, by omega, by omega⟩
    · simp only [Bool.and_eq_true, decide_eq_true_iff]
      exact ⟨by omega, by omega⟩
  · rintro h x hx ⟨q1, q2⟩
    obtain ⟨i, hi, q3⟩ := fo_iff.mp q1
    simp only [Bool.and_eq_true, decide_eq_true_iff] at q2 q3
    have := h i hi
    rw [Bool.eq_false_iff] at this
    exact this ((hc i).mpr ⟨q3.1, by omega, by omega⟩)
theorem in_eq (r : RB v (M 1)) {d l : Nat} {rooms hirer : Int32} (hd : d < 1000) (hl : 1 ≤ l) (hl15 : l ≤ 15) (K1 K2 : Int32 → Option Int32) (hK : SmA (K1 (nI (24 - l))) (K2 (nI (24 - l)))) : SmA (L_X7_firstFree_92 K1 (nI l) (nI d) (aB (M 1) d rooms hirer (cN (M 1) 5) 12) 100000 8) (L_X8_firstFree_82 K2 M hirer rooms (nI l) (nI d) 100000 8) ∧ SmA (L_X7_firstFree_92 K1 (nI l) (nI d) (aB (M 1) d rooms hirer (cN (M 1) 5) 12) 100000 8) (L_X8_firstFree_82a K2 M hirer rooms (nI l) (nI d) 100000 8) := by
  have step : ∀ k, 8 ≤ k → k < 24 - l → ((aB (M 1) d rooms hirer (cN (M 1) 5) 12 &&& seg k (k + l)) = 0 ↔ sOf (M 1) d (bst (M 1) hirer rooms (nI k) (nI (k + l)) d 12) = -1) := fun k h1 h2 => free_iff r (by omega) hl
  have a100 : (100 : Int32) * nI d = nI (100 * d) := pk_mul 100 d
  constructor
  · refine xeq1 SmA (fun n k => L_X7_firstFree_92 K1 (nI l) (nI d) (aB (M 1) d rooms hirer (cN (M 1) 5) 12) n (nI (8 + k))) (fun n k => L_X8_firstFree_82 K2 M hirer rooms (nI l) (nI d) n (nI (8 + k))) (24 - l - 8) (fun n n' k hk => ?_) (fun n n' => ?_) (24 - l - 8) 0 100000 100000 (by omega) (by omega) (by omega)
    · rw [L_X7_firstFree_92, L_X8_firstFree_82, nI_add, if_neg (show ¬ (23 : Int32) < nI (8 + k + l) from nI_nlt (a := 23) (by omega) (by decide)), if_neg (show ¬ (23 : Int32) < nI (8 + k + l) from nI_nlt (a := 23) (by omega) (by decide)), hm_2 (by omega) (by omega), xbs, m_clashOn r hd, xbs]
      simp only [xls, nI_1]
      by_cases h : (aB (M 1) d rooms hirer (cN (M 1) 5) 12 &&& seg (8 + k) (8 + k + l)) = 0
      · rw [if_pos h, if_pos ((step _ (by omega) (by omega)).mp h)]
        exact Or.inl SmA.mk
      · rw [if_neg h, if_neg (fun z => h ((step _ (by omega) (by omega)).mpr z))]
        exact Or.inr ⟨rfl, rfl⟩
    · rw [show 8 + (24 - l - 8) = 24 - l by omega, L_X7_firstFree_92, L_X8_firstFree_82, nI_add, if_pos (show (23 : Int32) < nI (24 - l + l) from nI_lt (a := 23) (by omega) (by omega)), if_pos (show (23 : Int32) < nI (24 - l + l) from nI_lt (a := 23) (by omega) (by omega))]
      exact hK
  · refine xeq1 SmA (fun n k => L_X7_firstFree_92 K1 (nI l) (nI d) (aB (M 1) d rooms hirer (cN (M 1) 5) 12) n (nI (8 + k))) (fun n k => L_X8_firstFree_82a K2 M hirer rooms (nI l) (nI d) n (nI (8 + k))) (24 - l - 8) (fun n n' k hk => ?_) (fun n n' => ?_) (24 - l - 8) 0 100000 100000 (by omega) (by omega) (by omega)
    · rw [L_X7_firstFree_92, L_X8_firstFree_82a, nI_add, if_neg (show ¬ (23 : Int32) < nI (8 + k + l) from nI_nlt (a := 23) (by omega) (by decide)), if_neg (show ¬ (23 : Int32) < nI (8 + k + l) from nI_nlt (a := 23) (by omega) (by decide)), hm_2 (by omega) (by omega), xbs, m_clashOn r hd, xbs]
      simp only [xls, nI_1]
      by_cases h : (aB (M 1) d rooms hirer (cN (M 1) 5) 12 &&& seg (8 + k) (8 + k + l)) = 0
      · rw [if_pos h, if_pos ((step _ (by omega) (by omega)).mp h)]
        exact Or.inl SmA.mk
      · rw [if_neg h, if_neg (fun z => h ((step _ (by omega) (by omega)).mpr z))]
        exact Or.inr ⟨rfl, rfl⟩
    · rw [show 8 + (24 - l - 8) = 24 - l by omega, L_X7_firstFree_92, L_X8_firstFree_82a, nI_add, if_pos (show (23 : Int32) < nI (24 - l + l) from nI_lt (a := 23) (by omega) (by omega)), if_pos (show (23 : Int32) < nI (24 - l + l) from nI_lt (a := 23) (by omega) (by omega))]
      exact hK
theorem s_firstFree (r : RB v (M 1)) (dv : xV) (p1 p2 p3 p4 : Int32) : SmA (f_X7_firstFree dv v p1 p2 p3 p4) (f_X8_firstFree M p1 p2 p3 p4) := by
  unfold f_X7_firstFree f_X8_firstFree
  rcases hirer_or r p1 with ⟨j, hj, hj10, -, e1, e2⟩ | ⟨e1, e2⟩
  · rw [e1, xbs, i10, e2, xbs, i10]
    rcases c_rooms p2 with ⟨q, h3, h4, -, e3, e4⟩ | ⟨e3, e4⟩
    · rw [e3, xbs, i10, e4, xbs, i10]
      rcases m_rng 0 364 p3 (A := 0) (B := 364) rfl rfl (by decide) (by decide) with ⟨d, h5, h6, rfl, e⟩ | ⟨h, e⟩
      · rw [e, xbs, i10, if_neg (nI_pos (by omega)), if_neg (show ¬ (364 : Int32) < nI d from nI_nlt (a := 364) h6 (by decide))]
        rcases m_rng 1 15 p4 (A := 1) (B := 15) rfl rfl (by decide) (by decide) with ⟨l, h7, h8, rfl, e⟩ | ⟨h, e⟩
        · rw [e, xbs, i10, if_neg (show ¬ nI l < (1 : Int32) from nI_nlt (b := 1) h7 (by omega)), if_pos (show nI l ≤ (15 : Int32) from nI_le (b := 15) h8 (by decide)), xls, xls]
          have hd400 := r.d400
          have e14 : v 1 4 = nI (cN (M 1) 5) := (r.set (j := 4) (by decide)).trans r.1.2.2.2.1.1
          have g3 := r.1.2.2.2.1.2
          have loopA : ∀ e k n1 n2, k + e = 365 → e < n1 → e < n2 → SmA (L_X7_firstFree_58 (fun _ => some (-2000000004)) v p1 p2 (nI l) n1 (nI k)) (L_X8_firstFree_70 (fun _ => some (-2000000004)) M p1 p2 (nI l) n2 (nI k)) := by
            intro e
            induction e with
            | zero =>
              intro k n1 n2 hk h1 h2
              obtain ⟨n1, rfl⟩ : ∃ q, n1 = q + 1 := ⟨n1 - 1, by omega⟩
              obtain ⟨n2, rfl⟩ : ∃ q, n2 = q + 1 := ⟨n2 - 1, by omega⟩
              rw [L_X7_firstFree_58, L_X8_firstFree_70, if_pos (show (364 : Int32) < nI k from nI_lt (a := 364) (by omega) (by omega)), if_pos (show (364 : Int32) < nI k from nI_lt (a := 364) (by omega) (by omega))]
              exact SmA.mk
            | succ e ih =>
              intro k n1 n2 hk h1 h2
              obtain ⟨n1, rfl⟩ : ∃ q, n1 = q + 1 := ⟨n1 - 1, by omega⟩
              obtain ⟨n2, rfl⟩ : ∃ q, n2 = q + 1 := ⟨n2 - 1, by omega⟩
              rw [L_X7_firstFree_58, L_X8_firstFree_70, if_neg (show ¬ (364 : Int32) < nI k from nI_nlt (a := 364) (by omega) (by decide)), if_neg (show ¬ (364 : Int32) < nI k from nI_nlt (a := 364) (by omega) (by decide)), e14, c_blocked r (by omega) g3, xbs]
              refine (in_eq r (by omega) h7 h8 _ _ ?_).1
              rw [xls, xls, nI_1]
              exact ih (k + 1) n1 n2 (by omega) (by omega) (by omega)
          have loopB : ∀ e k n1 n2, k + e = 365 → e < n1 → e < n2 → SmA (L_X7_firstFree_58 (fun _ => some (-2000000004)) v p1 p2 (nI l) n1 (nI k)) (L_X8_firstFree_70a (fun _ => some (-2000000004)) M p1 p2 (nI l) n2 (nI k)) := by
            intro e
            induction e with
            | zero =>
              intro k n1 n2 hk h1 h2
              obtain ⟨n1, rfl⟩ : ∃ q, n1 = q + 1 := ⟨n1 - 1, by omega⟩
              obtain ⟨n2, rfl⟩ : ∃ q, n2 = q + 1 := ⟨n2 - 1, by omega⟩
              rw [L_X7_firstFree_58, L_X8_firstFree_70a, if_pos (show (364 : Int32) < nI k from nI_lt (a := 364) (by omega) (by omega)), if_pos (show (364 : Int32) < nI k from nI_lt (a := 364) (by omega) (by omega))]
              exact SmA.mk
            | succ e ih =>
              intro k n1 n2 hk h1 h2
              obtain ⟨n1, rfl⟩ : ∃ q, n1 = q + 1 := ⟨n1 - 1, by omega⟩
              obtain ⟨n2, rfl⟩ : ∃ q, n2 = q + 1 := ⟨n2 - 1, by omega⟩
              rw [L_X7_firstFree_58, L_X8_firstFree_70a, if_neg (show ¬ (364 : Int32) < nI k from nI_nlt (a := 364) (by omega) (by decide)), if_neg (show ¬ (364 : Int32) < nI k from nI_nlt (a := 364) (by omega) (by decide)), e14, c_blocked r (by omega) g3, xbs]
              refine (in_eq r (by omega) h7 h8 _ _ ?_).2
              rw [xls, xls, nI_1]
              exact ih (k + 1) n1 n2 (by omega) (by omega) (by omega)
          rw [r.vd, r.wd]
          by_cases hlt : d < cN (M 1) 0
          · rw [if_pos (nI_lt hlt (by omega)), if_pos (nI_le (by omega) (by omega))]
            by_cases hbig : cN (M 1) 0 ≤ 364
            · exact loopA (365 - cN (M 1) 0) _ _ _ (by omega) (by omega) (by omega)
            · rw [show (100000 : Nat) = 99999 + 1 from rfl, L_X7_firstFree_58, L_X8_firstFree_70, if_pos (show (364 : Int32) < nI (cN (M 1) 0) from nI_lt (a := 364) (by omega) (by omega)), if_pos (show (364 : Int32) < nI (cN (M 1) 0) from nI_lt (a := 364) (by omega) (by omega))]
              exact SmA.mk
          · rw [if_neg (nI_nlt (by omega) (by omega))]
            by_cases heq : d ≤ cN (M 1) 0
            · rw [if_pos (nI_le heq (by omega)), show cN (M 1) 0 = d by omega]
              exact loopA (365 - d) _ _ _ (by omega) (by omega) (by omega)
            · rw [if_neg (nI_ge (by omega) (by omega))]
              exact loopB (365 - d) _ _ _ (by omega) (by omega) (by omega)
        · rw [e, xbs, i00]
          rcases h with h | h
          · rw [if_pos (show p4 < (1 : Int32) from h)]
            exact SmA.mk
          · by_cases h0 : p4 < 1
            · rw [if_pos h0]
              exact SmA.mk
            · rw [if_neg h0, if_neg (show ¬ p4 ≤ (15 : Int32) from (fa_of_lt h).2.1)]
              exact SmA.mk
      · rw [e, xbs, i00]
        rcases h with h | h
        · rw [if_pos (show p3 < (0 : Int32) from h)]
          exact SmA.mk
        · by_cases h0 : p3 < 0
          · rw [if_pos h0]
            exact SmA.mk
          · rw [if_neg h0, if_pos (show (364 : Int32) < p3 from h)]
            exact SmA.mk
    · rw [e3, xbs, i00, e4, xbs, i00]
      exact SmA.mk
  · rw [e1, xbs, i00, e2, xbs, i00]
    exact SmA.mk
end
