/-! ===== PURE 8: sessions in order ===== -/
theorem ct_uni {p : Nat → Bool} {k0 : Nat} : ∀ {n : Nat}, (∀ k, k < n → p k = true → k = k0) → fb_ct p n = if k0 < n ∧ p k0 = true then 1 else 0
  | 0, _ => by rw [if_neg (fun z => Nat.not_lt_zero _ z.1)]; rfl
  | n + 1, h => by
    rw [fb_ct_succ, ct_uni (fun k hk => h k (by omega))]
    by_cases e : p n = true
    · have := h n (Nat.lt_succ_self n) e
      subst this
      rw [if_neg (fun z => Nat.lt_irrefl _ z.1), if_pos e, if_pos ⟨Nat.lt_succ_self _, e⟩]
    · rw [if_neg e, Nat.add_zero]
      by_cases c : k0 < n ∧ p k0 = true
      · rw [if_pos c, if_pos ⟨by omega, c.2⟩]
      · rw [if_neg c, if_neg]
        rintro ⟨z1, z2⟩
        rcases Nat.lt_or_ge k0 n with q | q
        · exact c ⟨q, z2⟩
        · have : k0 = n := by omega
          subst this
          exact e z2
theorem ct_blk (p : Nat → Bool) : ∀ m, fb_ct p (20 * m) = fb_sm (fun i => fb_ct (fun k => p (20 * i + k)) 20) m
  | 0 => rfl
  | m + 1 => by
    rw [show 20 * (m + 1) = 20 * m + 20 by omega, fb_ct_split, ct_blk p m]
    rfl
theorem sm_ite (p : Nat → Bool) : ∀ m, fb_sm (fun i => if p i = true then 1 else 0) m = fb_ct p m
  | 0 => rfl
  | m + 1 => by rw [fb_sm_succ, sm_ite p m, fb_ct_succ]
def liv (w : Nat → Int32) (s : Nat) : Bool := decide (s / 20 < cN w 10) && (decide (s % 20 < hN w (s / 20) 4) && !decide (hN w (s / 20) (12 + s % 20) = 2))
def dyN (w : Nat → Int32) (s : Nat) : Nat := hN w (s / 20) 5 + s % 20 * hN w (s / 20) 6
def qA (w : Nat → Int32) (i j : Nat) : Bool := decide (hN w j 2 < hN w i 2) || (decide (hN w j 2 = hN w i 2) && decide (j < i))
def ahd (w : Nat → Int32) (o s : Nat) : Bool := decide (dyN w o < dyN w s) || (decide (dyN w o = dyN w s) && (decide (hN w (o / 20) 2 < hN w (s / 20) 2) || (decide (hN w (o / 20) 2 = hN w (s / 20) 2) && decide (o < s))))
def plc (w : Nat → Int32) (s : Nat) : Nat := fb_ct (fun o => liv w o && ahd w o s) (20 * cN w 10)
def soN (w : Nat → Int32) (d : Nat) : Nat := fb_ct (fun i => onB w i d) 12
def SDn (w : Nat → Int32) (d : Nat) : Nat := fb_sm (soN w) d
def aA (w : Nat → Int32) (i d : Nat) : Nat := fb_ct (fun j => onB w j d && qA w i j) 12
section
variable {w : Nat → Int32}
theorem liv_on (hg : ∀ i, i < cN w 10 → GH w i) {s : Nat} (h : liv w s = true) : onB w (s / 20) (dyN w s) = true ∧ kOn w (s / 20) (dyN w s) = s % 20 := by
  unfold liv at h
  simp only [Bool.and_eq_true, decide_eq_true_iff, Bool.not_eq_true', decide_eq_false_iff_not] at h
  obtain ⟨h1, h2, h3⟩ := h
  have g := hg _ h1
  exact ⟨(onB_iff h1 g).mpr ⟨s % 20, h2, h3, rfl⟩, kOn_eq g rfl⟩
theorem on_liv (hg : ∀ i, i < cN w 10 → GH w i) {i d : Nat} (h : onB w i d = true) : liv w (20 * i + kOn w i d) = true ∧ dyN w (20 * i + kOn w i d) = d ∧ (20 * i + kOn w i d) / 20 = i ∧ (20 * i + kOn w i d) % 20 = kOn w i d := by
  have hi := onB_i h
  have g := hg _ hi
  have h20 := g.2.2.2.2.2.2.2.1
  have hk := onB_k h
  obtain ⟨k, h1, h2, h3⟩ := (onB_iff hi g).mp h
  have ek := kOn_eq g h3
  have e1 : (20 * i + kOn w i d) / 20 = i := by omega
  have e2 : (20 * i + kOn w i d) % 20 = kOn w i d := by omega
  refine ⟨?_, ?_, e1, e2⟩
  · unfold liv
    rw [e1, e2]
    simp only [Bool.and_eq_true, decide_eq_true_iff, Bool.not_eq_true', decide_eq_false_iff_not]
    exact ⟨hi, hk.1, hk.2⟩
  · unfold dyN
    rw [e1, e2, ek]
    exact h3
/-- sessions of a day, by their hires -/
theorem day_ct (hg : ∀ i, i < cN w 10 → GH w i) (h12 : cN w 10 ≤ 12) (d : Nat) (Q : Nat → Bool) : fb_ct (fun o => liv w o && (decide (dyN w o = d) && Q (o / 20))) (20 * cN w 10) = fb_ct (fun i => onB w i d && Q i) 12 := by
  rw [ct_cut (p := fun i => onB w i d && Q i) (m := cN w 10) h12 (fun i hi => by
    have : onB w i d = false := Bool.eq_false_iff.mpr fun q => by have := onB_i q; omega
    rw [this, Bool.false_and])]
  rw [ct_blk, ← sm_ite]
  refine fb_sm_cong fun i hi => ?_
  have g := hg i hi
  have hu : ∀ k, k < 20 → (fun k => liv w (20 * i + k) && (decide (dyN w (20 * i + k) = d) && Q ((20 * i + k) / 20))) k = true → k = kOn w i d := fun k hk q => by
    simp only [Bool.and_eq_true, decide_eq_true_iff] at q
    obtain ⟨q1, q2, q3⟩ := q
    have := (liv_on hg q1).2
    rw [show (20 * i + k) / 20 = i by omega, show (20 * i + k) % 20 = k by omega, q2] at this
    exact this.symm
  rw [ct_uni hu]
  by_cases c : onB w i d = true
  · obtain ⟨l1, l2, l3, l4⟩ := on_liv hg c
    have hk := (onB_k c).1
    have h20 := g.2.2.2.2.2.2.2.1
    rw [l1, l2, l3, c]
    simp only [decide_true, Bool.true_and]
    by_cases hq : Q i = true
    · rw [if_pos ⟨by omega, hq⟩, if_pos hq]
    · rw [if_neg (fun z => hq z.2), if_neg hq]
  · have c2 : ¬ (onB w i d && Q i) = true := by simp [c]
    rw [if_neg, if_neg c2]
    rintro ⟨z1, z2⟩
    simp only [Bool.and_eq_true, decide_eq_true_iff] at z2
    have := (liv_on hg z2.1).1
    rw [show (20 * i + kOn w i d) / 20 = i by omega, z2.2.1] at this
    exact c this
theorem SD_ct (hg : ∀ i, i < cN w 10 → GH w i) (h12 : cN w 10 ≤ 12) : ∀ d, fb_ct (fun o => liv w o && decide (dyN w o < d)) (20 * cN w 10) = SDn w d
  | 0 => fb_ct_zero.mpr fun k _ => by simp
  | d + 1 => by
    have ih := SD_ct hg h12 d
    have e := day_ct hg h12 d (fun _ => true)
    have e2 : fb_ct (fun i => onB w i d && true) 12 = soN w d := fb_ct_cong fun k _ => Bool.and_true _
    unfold SDn at ih ⊢
    rw [fb_sm_succ, ← ih, ← e2, ← e, ← fb_ct_or (fun k _ z => by
      simp only [Bool.and_eq_true, decide_eq_true_iff] at z
      omega)]
    refine fb_ct_cong fun k _ => ?_
    cases liv w k with
    | false => rfl
    | true =>
      simp only [Bool.true_and, Bool.and_true]
      rw [Bool.eq_iff_iff, Bool.or_eq_true, decide_eq_true_iff, decide_eq_true_iff, decide_eq_true_iff]
      omega
theorem plc_eq (hg : ∀ i, i < cN w 10 → GH w i) (h12 : cN w 10 ≤ 12) {s : Nat} (hs : liv w s = true) : plc w s = SDn w (dyN w s) + aA w (s / 20) (dyN w s) := by
  rw [← SD_ct hg h12, show aA w (s / 20) (dyN w s) = fb_ct (fun j => onB w j (dyN w s) && qA w (s / 20) j) 12 from rfl, ← day_ct hg h12, ← fb_ct_or (fun k _ z => by
    simp only [Bool.and_eq_true, decide_eq_true_iff] at z
    omega)]
  refine fb_ct_cong fun o _ => ?_
  cases hl : liv w o with
  | false => rfl
  | true =>
    simp only [Bool.true_and]
    unfold ahd qA
    congr 1
    by_cases e : dyN w o = dyN w s
    · simp only [e, decide_true, Bool.true_and]
      congr 1
      by_cases e2 : hN w (o / 20) 2 = hN w (s / 20) 2
      · simp only [e2, decide_true, Bool.true_and]
        rw [decide_eq_decide]
        have h1 := (liv_on hg hl).2
        have h2 := (liv_on hg hs).2
        rw [e] at h1
        constructor
        · intro q
          rcases Nat.lt_or_ge (o / 20) (s / 20) with z | z
          · exact z
          · have : o / 20 = s / 20 := by omega
            rw [this, h2] at h1
            omega
        · intro q
          omega
      · simp [e2]
    · simp [e]
theorem aA_lt {i d : Nat} (h12 : cN w 10 ≤ 12) (h : onB w i d = true) : aA w i d < soN w d := by
  have hi := onB_i h
  unfold aA soN
  have e := fb_ct_upd (fun j => onB w j d) false (i := i) (n := 12) (by omega)
  have e1 : fb_ct (fun k => if k = i then false else onB w k d) 12 + (if onB w i d = true then 1 else 0) = fb_ct (fun j => onB w j d) 12 + 0 := e
  have e3 : (if onB w i d = true then 1 else 0) = 1 := if_pos h
  rw [e3, Nat.add_zero] at e1
  have le : fb_ct (fun j => onB w j d && qA w i j) 12 ≤ fb_ct (fun k => if k = i then false else onB w k d) 12 := fb_ct_sub fun k _ q => by
    simp only [Bool.and_eq_true] at q
    by_cases z : k = i
    · subst z
      exfalso
      have := q.2
      unfold qA at this
      simp at this
    · rw [if_neg z]
      exact q.1
  simp at e
  omega
theorem SD_le (hg : ∀ i, i < cN w 10 → GH w i) (h12 : cN w 10 ≤ 12) (d : Nat) : SDn w d ≤ 240 := by
  rw [← SD_ct hg h12]
  have := fb_ct_le (fun o => liv w o && decide (dyN w o < d)) (20 * cN w 10)
  omega
theorem SD_mono {a b : Nat} (h : a ≤ b) : SDn w a ≤ SDn w b := by
  obtain ⟨e, rfl⟩ := Nat.exists_eq_add_of_le h
  exact fb_sm_mono _ _ _
theorem SD_s (d : Nat) : SDn w (d + 1) = SDn w d + soN w d := fb_sm_succ _ _
end
section
variable {v : xV} {w : Nat → Int32}
theorem c_sessionsOn (r : RB v w) {d : Nat} (hd : d < 1000) : f_X0_sessionsOn v (nI d) = some (nI (soN w d)) := by
  unfold soN
  rw [← sI_ct]
  unfold f_X0_sessionsOn
  refine xup0 (fun n k => L_X0_sessionsOn_14 _ v (nI d) n (sI (fun i => if onB w i d = true then 1 else 0) k) (nI k)) _ 12 (fun n k hk => ?_) (fun n => ?_) (by decide)
  · rw [L_X0_sessionsOn_14, if_neg (show ¬ (12 : Int32) ≤ nI k from nI_ge (b := 12) hk (by decide)), xgi hk (by decide), xls, nI_clamp (by omega), c_isOn r hk hd, xbs, sI_succ]
    simp only [xls, nI_1]
    by_cases h : onB w k d = true
    · rw [if_pos h, i10]
    · rw [if_neg h, i00]
  · rw [L_X0_sessionsOn_14, if_pos (show (12 : Int32) ≤ nI 12 from by decide)]
theorem c_ahead (r : RB v w) {i j : Nat} (hi : i < cN w 10) (hj : j < cN w 10) : f_X1_isAheadOnDay v j i = some (if qA w i j = true then 1 else 0) := by
  have h12 := r.m12
  have gi := r.g hi
  have gj := r.g hj
  have bi : hN w i 2 < 24 := by have := gi.2.2.2.2.1; have := gi.2.2.2.2.2.1; omega
  have bj : hN w j 2 < 24 := by have := gj.2.2.2.2.1; have := gj.2.2.2.2.2.1; omega
  unfold f_X1_isAheadOnDay qA
  rw [(r.h hi).1.2.2.1, (r.h hj).1.2.2.1, r.num (show i < 12 by omega), r.num (show j < 12 by omega), gi.1 2 (by decide), gj.1 2 (by decide)]
  by_cases h1 : hN w j 2 < hN w i 2
  · rw [if_pos (nI_lt h1 (by omega))]
    simp [h1]
  · rw [if_neg (nI_nlt (by omega) (by omega))]
    by_cases h2 : hN w j 2 = hN w i 2
    · rw [if_pos (by rw [h2])]
      by_cases h3 : j < i
      · rw [if_neg (nI_ge h3 (by omega))]
        simp [h2, h3]
      · rw [if_pos (nI_le (by omega) (by omega))]
        simp [h2, h3]
    · rw [if_neg (ne_lit h2 (by omega) (by omega))]
      simp [h1, h2]
theorem c_aheadOnDay (r : RB v w) {i d : Nat} (hi : i < cN w 10) (hd : d < 1000) : f_X0_aheadOnDay v i (nI d) = some (nI (aA w i d)) := by
  unfold aA
  rw [← sI_ct]
  unfold f_X0_aheadOnDay
  refine xup0 (fun n k => L_X0_aheadOnDay_16 _ v i (nI d) n (sI (fun j => if (onB w j d && qA w i j) = true then 1 else 0) k) (nI k)) _ 12 (fun n k hk => ?_) (fun n => ?_) (by decide)
  · rw [L_X0_aheadOnDay_16, if_neg (show ¬ (12 : Int32) ≤ nI k from nI_ge (b := 12) hk (by decide)), xgi hk (by decide), xls, nI_clamp (by omega), c_isOn r hk hd, xbs, sI_succ]
    simp only [xls, nI_1]
    by_cases h : onB w k d = true
    · rw [if_pos h, i10, c_ahead r hi (onB_i h), xbs, h, Bool.true_and]
      by_cases h2 : qA w i k = true
      · rw [if_pos h2, i10]
      · rw [if_neg h2, i00]
    · rw [if_neg h, i00, Bool.eq_false_iff.mpr h, Bool.false_and, if_neg (by decide)]
  · rw [L_X0_aheadOnDay_16, if_pos (show (12 : Int32) ≤ nI 12 from by decide)]
/-- the first hire of the day with so many ahead of it -/
theorem c_inDay (r : RB v w) {d q : Nat} (hd : d < 1000) (hq : q < 2 ^ 31) : (∃ i, i < 12 ∧ onB w i d = true ∧ aA w i d = q ∧ (∀ j, j < i → onB w j d = true → aA w j d ≠ q) ∧ f_X0_sessionInOrder v (nI d) (nI q) = some (nI (20 * i + kOn w i d))) ∨ ((∀ i, i < 12 → onB w i d = true → aA w i d ≠ q) ∧ f_X0_sessionInOrder v (nI d) (nI q) = some (-2000000004)) := by
  have h12 := r.m12
  have aA12 : ∀ i, aA w i d ≤ 12 := fun i => fb_ct_le _ _
  unfold f_X0_sessionInOrder
  have main : ∀ e k n, k + e = 12 → e < n → (∀ j, j < k → onB w j d = true → aA w j d ≠ q) → (∃ i, i < 12 ∧ onB w i d = true ∧ aA w i d = q ∧ (∀ j, j < i → onB w j d = true → aA w j d ≠ q) ∧ L_X0_sessionInOrder_12 (fun _ => some (-2000000004)) v (nI d) (nI q) n (nI k) = some (nI (20 * i + kOn w i d))) ∨ ((∀ i, i < 12 → onB w i d = true → aA w i d ≠ q) ∧ L_X0_sessionInOrder_12 (fun _ => some (-2000000004)) v (nI d) (nI q) n (nI k) = some (-2000000004)) := by
    intro e
    induction e with
    | zero =>
      intro k n hk hn hj
      obtain ⟨n, rfl⟩ : ∃ z, n = z + 1 := ⟨n - 1, by omega⟩
      have : k = 12 := by omega
      subst this
      exact Or.inr ⟨hj, by rw [L_X0_sessionInOrder_12, if_pos (show (12 : Int32) ≤ nI 12 from by decide)]⟩
    | succ e ih =>
      intro k n hk hn hj
      obtain ⟨n, rfl⟩ : ∃ z, n = z + 1 := ⟨n - 1, by omega⟩
      have hk12 : k < 12 := by omega
      rw [L_X0_sessionInOrder_12, if_neg (show ¬ (12 : Int32) ≤ nI k from nI_ge (b := 12) hk12 (by decide)), xgi hk12 (by decide), xls, nI_clamp (by omega), c_isOn r hk12 hd, xbs]
      simp only [xls, nI_1]
      have next : (onB w k d = true → aA w k d ≠ q) → ∀ j, j < k + 1 → onB w j d = true → aA w j d ≠ q := fun hz j h1 h2 => by
        rcases Nat.lt_or_ge j k with z | z
        · exact hj j z h2
        · have : j = k := by omega
          subst this
          exact hz h2
      by_cases ho : onB w k d = true
      · have a12 := aA12 k
        rw [if_pos ho, i10, c_aheadOnDay r (onB_i ho) hd, xbs]
        by_cases ha : aA w k d = q
        · rw [if_pos (by rw [ha])]
          refine Or.inl ⟨k, hk12, ho, ha, hj, ?_⟩
          unfold f_X0_sessionNumber
          rw [c_indexOn r hk12 hd, xbs, xbs, if_pos ho, r.num hk12, show (20 : Int32) = nI 20 from rfl, pk_mul, nI_add, Nat.mul_comm]
        · rw [if_neg (ne_lit ha (by omega) hq)]
          exact ih (k + 1) n (by omega) (by omega) (next (fun _ => ha))
      · rw [if_neg ho, i00]
        exact ih (k + 1) n (by omega) (by omega) (next (fun z => absurd z ho))
  exact main 12 0 100000 (by omega) (by omega) (fun j hj => absurd hj (Nat.not_lt_zero _))
end
section
variable {v M : xV}
theorem m_sess (r : RB v (M 1)) {s : Nat} (hs : s < 20 * cN (M 1) 10) : f_X8_isSession M (nI s) = some (if s % 20 < hN (M 1) (s / 20) 4 then 1 else 0) := by
  have h12 := r.m12
  rw [m_isSession (by omega) h12 r.wm (fun i hi => r.g hi)]
  have : s / 20 < cN (M 1) 10 := by omega
  by_cases h : s % 20 < hN (M 1) (s / 20) 4
  · rw [if_pos ⟨this, h⟩, if_pos h]
  · rw [if_neg (fun z => h z.2), if_neg h]
theorem m_st (r : RB v (M 1)) {s : Nat} (hs : s < 20 * cN (M 1) 10) (hk : s % 20 < hN (M 1) (s / 20) 4) : f_X8_stateOf M (nI s) = some (nI (hN (M 1) (s / 20) (12 + s % 20))) := by
  have h12 := r.m12
  have hi : s / 20 < cN (M 1) 10 := by omega
  have g := r.g hi
  have h20 := g.2.2.2.2.2.2.2.1
  have := m_stateOf (M := M) (i := s / 20) (k := s % 20) (by omega) (by omega)
  rw [show 20 * (s / 20) + s % 20 = s by omega] at this
  rw [this, (g.2.2.2.2.2.2.2.2.2.2.2.2.2.2.2.2.2 _ hk).1]
theorem m_dy (r : RB v (M 1)) {s : Nat} (hs : s < 20 * cN (M 1) 10) : f_X8_dayOf M (nI s) = some (nI (dyN (M 1) s)) := by
  have h12 := r.m12
  have hi : s / 20 < cN (M 1) 10 := by omega
  have := m_dayOf (M := M) (i := s / 20) (k := s % 20) (by omega) (by omega) (r.g hi)
  rw [show 20 * (s / 20) + s % 20 = s by omega] at this
  exact this
theorem dy_le (r : RB v (M 1)) {s : Nat} (hs : liv (M 1) s = true) : dyN (M 1) s ≤ 364 := by
  unfold liv at hs
  simp only [Bool.and_eq_true, decide_eq_true_iff, Bool.not_eq_true', decide_eq_false_iff_not] at hs
  have g := r.g hs.1
  have h364 := g.2.2.2.2.2.2.2.2.2.2.1
  unfold dyN
  have : s % 20 * hN (M 1) (s / 20) 6 ≤ (hN (M 1) (s / 20) 4 - 1) * hN (M 1) (s / 20) 6 := Nat.mul_le_mul_right _ (by omega)
  omega
theorem m_isAhead (r : RB v (M 1)) {o s : Nat} (ho : o < 20 * cN (M 1) 10) (hs : s < 20 * cN (M 1) 10) (lo : liv (M 1) o = true) (ls : liv (M 1) s = true) : f_X8_isAhead M (nI o) (nI s) = some (if ahd (M 1) o s = true then 1 else 0) := by
  have h12 := r.m12
  have d1 := dy_le r lo
  have d2 := dy_le r ls
  have gi := r.g (show o / 20 < cN (M 1) 10 by omega)
  have gj := r.g (show s / 20 < cN (M 1) 10 by omega)
  have bi : hN (M 1) (o / 20) 2 < 24 := by have := gi.2.2.2.2.1; have := gi.2.2.2.2.2.1; omega
  have bj : hN (M 1) (s / 20) 2 < 24 := by have := gj.2.2.2.2.1; have := gj.2.2.2.2.2.1; omega
  have o1 : f_X8_of M (nI (o / 20)) 2 = some (nI (hN (M 1) (o / 20) 2)) := (m_of (k := 2) (by omega)).trans (by rw [gi.1 2 (by decide)])
  have o2 : f_X8_of M (nI (s / 20)) 2 = some (nI (hN (M 1) (s / 20) 2)) := (m_of (k := 2) (by omega)).trans (by rw [gj.1 2 (by decide)])
  unfold f_X8_isAhead
  rw [m_dy r ho, m_dy r hs, nn_div (by omega), nn_div (by omega), o1, o2]
  simp only [xbs, xls]
  unfold ahd
  have e0 : (0 : Int32).toInt = 0 := by decide
  have z1 : ∀ a b : Nat, a < 2 ^ 30 → b < 2 ^ 30 → (nI a - nI b = 0 ↔ a = b) := fun a b ha hb => by
    rw [fa_eq, pk_sub_toInt ha hb, e0]
    omega
  have z2 : ∀ a b : Nat, a < 2 ^ 30 → b < 2 ^ 30 → (nI a - nI b < 0 ↔ a < b) := fun a b ha hb => by
    rw [fa_lt, pk_sub_toInt ha hb, e0]
    omega
  by_cases h1 : dyN (M 1) o = dyN (M 1) s
  · rw [if_pos ((z1 _ _ (by omega) (by omega)).mpr h1)]
    by_cases h2 : hN (M 1) (o / 20) 2 < hN (M 1) (s / 20) 2
    · rw [if_pos ((z2 _ _ (by omega) (by omega)).mpr h2)]
      simp [h1, h2]
    · rw [if_neg (fun z => h2 ((z2 _ _ (by omega) (by omega)).mp z))]
      by_cases h3 : hN (M 1) (o / 20) 2 = hN (M 1) (s / 20) 2
      · rw [if_pos ((z1 _ _ (by omega) (by omega)).mpr h3)]
        by_cases h4 : o < s
        · rw [if_neg (nI_ge h4 (by omega))]
          simp [h1, h3, h4]
        · rw [if_pos (nI_le (by omega) (by omega))]
          simp [h1, h3, h4]
      · rw [if_neg (fun z => h3 ((z1 _ _ (by omega) (by omega)).mp z))]
        simp [h1, h2, h3]
  · rw [if_neg (fun z => h1 ((z1 _ _ (by omega) (by omega)).mp z))]
    by_cases h2 : dyN (M 1) o < dyN (M 1) s
    · rw [if_pos ((z2 _ _ (by omega) (by omega)).mpr h2)]
      simp [h2]
    · rw [if_neg (fun z => h2 ((z2 _ _ (by omega) (by omega)).mp z)), if_neg (fun z => h1 ((z1 _ _ (by omega) (by omega)).mp z))]
      simp [h1, h2]
theorem liv_c (M : xV) {s : Nat} (hs : s < 20 * cN (M 1) 10) : liv (M 1) s = (decide (s % 20 < hN (M 1) (s / 20) 4) && !decide (hN (M 1) (s / 20) (12 + s % 20) = 2)) := by
  unfold liv
  rw [show decide (s / 20 < cN (M 1) 10) = true from decide_eq_true (by omega), Bool.true_and]
theorem m_placeOf (r : RB v (M 1)) {s : Nat} (hs : s < 20 * cN (M 1) 10) (ls : liv (M 1) s = true) : f_X8_placeOf M (nI s) = some (nI (plc (M 1) s)) := by
  have h12 := r.m12
  unfold plc
  rw [← sI_ct]
  unfold f_X8_placeOf
  refine xup0 (fun n k => L_X8_placeOf_4 _ M (nI s) n (sI (fun o => if (liv (M 1) o && ahd (M 1) o s) = true then 1 else 0) k) (nI k)) _ (20 * cN (M 1) 10) (fun n o ho => ?_) (fun n => ?_) (by omega)
  · rw [L_X8_placeOf_4, r.wm, show (20 : Int32) * nI (cN (M 1) 10) = nI (20 * cN (M 1) 10) from pk_mul 20 _, if_neg (nI_ge ho (by omega)), m_sess r ho, xbs, sI_succ]
    simp only [xls, nI_1]
    by_cases h1 : o % 20 < hN (M 1) (o / 20) 4
    · have gk := (r.g (show o / 20 < cN (M 1) 10 by omega)).2.2.2.2.2.2.2.2.2.2.2.2.2.2.2.2.2 _ h1
      rw [if_pos h1, i10, m_st r ho h1, xbs]
      by_cases h2 : hN (M 1) (o / 20) (12 + o % 20) = 2
      · have : liv (M 1) o = false := by rw [liv_c M ho]; simp [h2]
        rw [if_pos (by rw [h2]; rfl), this, Bool.false_and, if_neg (by decide)]
      · have lo : liv (M 1) o = true := by rw [liv_c M ho]; simp [h1, h2]
        rw [if_neg (show ¬ nI (hN (M 1) (o / 20) (12 + o % 20)) = (2 : Int32) from ne_lit (b := 2) h2 (by omega) (by decide)), m_isAhead r ho hs lo ls, xbs, lo, Bool.true_and]
        by_cases h3 : ahd (M 1) o s = true
        · rw [if_pos h3, i10]
        · rw [if_neg h3, i00]
    · have : liv (M 1) o = false := by rw [liv_c M ho]; simp [h1]
      rw [if_neg h1, i00, this, Bool.false_and, if_neg (by decide)]
  · rw [L_X8_placeOf_4, r.wm, show (20 : Int32) * nI (cN (M 1) 10) = nI (20 * cN (M 1) 10) from pk_mul 20 _, if_pos (nI_le (Nat.le_refl _) (by omega))]
theorem m_inOrder (r : RB v (M 1)) {p : Nat} (hp : p < 2 ^ 31) : (∃ s, s < 20 * cN (M 1) 10 ∧ liv (M 1) s = true ∧ plc (M 1) s = p ∧ (∀ o, o < s → liv (M 1) o = true → plc (M 1) o ≠ p) ∧ L_X8_inOrder_9 (fun _ => some (-2000000004)) M (nI p) 100000 0 = some (nI s)) ∨ ((∀ o, o < 20 * cN (M 1) 10 → liv (M 1) o = true → plc (M 1) o ≠ p) ∧ L_X8_inOrder_9 (fun _ => some (-2000000004)) M (nI p) 100000 0 = some (-2000000004)) := by
  have h12 := r.m12
  have pl : ∀ s, plc (M 1) s ≤ 240 := fun s => Nat.le_trans (fb_ct_le _ _) (by omega)
  have main : ∀ e k n, k + e = 20 * cN (M 1) 10 → e < n → (∀ o, o < k → liv (M 1) o = true → plc (M 1) o ≠ p) → (∃ s, s < 20 * cN (M 1) 10 ∧ liv (M 1) s = true ∧ plc (M 1) s = p ∧ (∀ o, o < s → liv (M 1) o = true → plc (M 1) o ≠ p) ∧ L_X8_inOrder_9 (fun _ => some (-2000000004)) M (nI p) n (nI k) = some (nI s)) ∨ ((∀ o, o < 20 * cN (M 1) 10 → liv (M 1) o = true → plc (M 1) o ≠ p) ∧ L_X8_inOrder_9 (fun _ => some (-2000000004)) M (nI p) n (nI k) = some (-2000000004)) := by
    intro e
    induction e with
    | zero =>
      intro k n hk hn hj
      obtain ⟨n, rfl⟩ : ∃ z, n = z + 1 := ⟨n - 1, by omega⟩
      have : k = 20 * cN (M 1) 10 := by omega
      subst this
      exact Or.inr ⟨hj, by rw [L_X8_inOrder_9, r.wm, show (20 : Int32) * nI (cN (M 1) 10) = nI (20 * cN (M 1) 10) from pk_mul 20 _, if_pos (nI_le (Nat.le_refl _) (by omega))]⟩
    | succ e ih =>
      intro k n hk hn hj
      obtain ⟨n, rfl⟩ : ∃ z, n = z + 1 := ⟨n - 1, by omega⟩
      have hkl : k < 20 * cN (M 1) 10 := by omega
      have next : (liv (M 1) k = true → plc (M 1) k ≠ p) → ∀ o, o < k + 1 → liv (M 1) o = true → plc (M 1) o ≠ p := fun hz o h1 h2 => by
        rcases Nat.lt_or_ge o k with z | z
        · exact hj o z h2
        · have : o = k := by omega
          subst this
          exact hz h2
      rw [L_X8_inOrder_9, r.wm, show (20 : Int32) * nI (cN (M 1) 10) = nI (20 * cN (M 1) 10) from pk_mul 20 _, if_neg (nI_ge hkl (by omega)), m_sess r hkl, xbs]
      simp only [xls, nI_1]
      by_cases h1 : k % 20 < hN (M 1) (k / 20) 4
      · have gk := (r.g (show k / 20 < cN (M 1) 10 by omega)).2.2.2.2.2.2.2.2.2.2.2.2.2.2.2.2.2 _ h1
        rw [if_pos h1, i10, m_st r hkl h1, xbs]
        by_cases h2 : hN (M 1) (k / 20) (12 + k % 20) = 2
        · have lf : liv (M 1) k = false := by rw [liv_c M hkl]; simp [h2]
          rw [if_pos (by rw [h2]; rfl)]
          exact ih (k + 1) n (by omega) (by omega) (next (fun z => by rw [lf] at z; cases z))
        · have lo : liv (M 1) k = true := by rw [liv_c M hkl]; simp [h1, h2]
          have hpl := pl k
          rw [if_neg (show ¬ nI (hN (M 1) (k / 20) (12 + k % 20)) = (2 : Int32) from ne_lit (b := 2) h2 (by omega) (by decide)), m_placeOf r hkl lo, xbs]
          by_cases h3 : plc (M 1) k = p
          · rw [if_pos (by rw [h3])]
            exact Or.inl ⟨k, hkl, lo, h3, hj, rfl⟩
          · rw [if_neg (ne_lit h3 (by omega) hp)]
            exact ih (k + 1) n (by omega) (by omega) (next (fun _ => h3))
      · have lf : liv (M 1) k = false := by rw [liv_c M hkl]; simp [h1]
        rw [if_neg h1, i00]
        exact ih (k + 1) n (by omega) (by omega) (next (fun z => by rw [lf] at z; cases z))
  exact main (20 * cN (M 1) 10) 0 100000 (by omega) (by omega) (fun j hj => absurd hj (Nat.not_lt_zero _))
theorem c_inOrder (r : RB v (M 1)) {p : Nat} (hp : p < 2 ^ 31) : (∃ d, d < 365 ∧ SDn (M 1) d ≤ p ∧ p < SDn (M 1) (d + 1) ∧ L_X7_inOrder_11 (fun _ _ => some (-2000000004)) v 100000 (nI p) 0 = f_X0_sessionInOrder v (nI d) (nI (p - SDn (M 1) d))) ∨ (SDn (M 1) 365 ≤ p ∧ L_X7_inOrder_11 (fun _ _ => some (-2000000004)) v 100000 (nI p) 0 = some (-2000000004)) := by
  have h12 := r.m12
  have sl : ∀ d, SDn (M 1) d ≤ 240 := SD_le (fun i hi => r.g hi) h12
  have main : ∀ e k n, k + e = 365 → e < n → SDn (M 1) k ≤ p → (∃ d, d < 365 ∧ SDn (M 1) d ≤ p ∧ p < SDn (M 1) (d + 1) ∧ L_X7_inOrder_11 (fun _ _ => some (-2000000004)) v n (nI (p - SDn (M 1) k)) (nI k) = f_X0_sessionInOrder v (nI d) (nI (p - SDn (M 1) d))) ∨ (SDn (M 1) 365 ≤ p ∧ L_X7_inOrder_11 (fun _ _ => some (-2000000004)) v n (nI (p - SDn (M 1) k)) (nI k) = some (-2000000004)) := by
    intro e
    induction e with
    | zero =>
      intro k n hk hn hj
      obtain ⟨n, rfl⟩ : ∃ z, n = z + 1 := ⟨n - 1, by omega⟩
      have : k = 365 := by omega
      subst this
      exact Or.inr ⟨hj, by rw [L_X7_inOrder_11, if_pos (show (364 : Int32) < nI 365 from by decide)]⟩
    | succ e ih =>
      intro k n hk hn hj
      obtain ⟨n, rfl⟩ : ∃ z, n = z + 1 := ⟨n - 1, by omega⟩
      have hkl : k < 365 := by omega
      have s1 := sl (k + 1)
      have s2 := SD_s (w := M 1) k
      rw [L_X7_inOrder_11, if_neg (show ¬ (364 : Int32) < nI k from nI_nlt (a := 364) (by omega) (by decide)), c_sessionsOn r (by omega), xbs]
      simp only [xls, nI_1]
      by_cases h : p < SDn (M 1) (k + 1)
      · rw [if_neg (nI_ge (by omega) (by omega))]
        refine Or.inl ⟨k, hkl, hj, h, ?_⟩
        cases f_X0_sessionInOrder v (nI k) (nI (p - SDn (M 1) k)) <;> rfl
      · rw [if_pos (nI_le (by omega) (by omega)), pk_sub (by omega), show p - SDn (M 1) k - soN (M 1) k = p - SDn (M 1) (k + 1) by omega]
        exact ih (k + 1) n (by omega) (by omega) (by omega)
  exact main 365 0 100000 (by omega) (by omega) (Nat.zero_le _)
theorem s_inOrder (r : RB v (M 1)) (dv : xV) (p1 : Int32) : SmA (f_X7_inOrder dv v p1) (f_X8_inOrder M p1) := by
  have h12 := r.m12
  have hg : ∀ i, i < cN (M 1) 10 → GH (M 1) i := fun i hi => r.g hi
  unfold f_X7_inOrder f_X8_inOrder
  by_cases h0 : p1 < 0
  · rw [if_neg (fa_of_lt h0).2.1, if_neg (fa_of_lt h0).2.1]
    exact SmA.mk
  · obtain ⟨p, hp, rfl⟩ := nI_of h0
    rw [if_pos (nI_pos' hp), if_pos (nI_pos' hp)]
    rcases c_inOrder r hp with ⟨d, hd, h1, h2, e1⟩ | ⟨h1, e1⟩
    · rw [e1]
      have sN := SD_s (w := M 1) d
      rcases c_inDay r (d := d) (q := p - SDn (M 1) d) (by omega) (by omega) with ⟨i, hi, ho, ha, hf, e2⟩ | ⟨hf, e2⟩
      · obtain ⟨l1, l2, l3, l4⟩ := on_liv hg ho
        have him := onB_i ho
        have hk20 : kOn (M 1) i d < 20 := by
          have := (onB_k ho).1
          have := (hg i him).2.2.2.2.2.2.2.1
          omega
        have pe := plc_eq hg h12 l1
        rw [l2, l3] at pe
        rcases m_inOrder r hp with ⟨s, hs, ls, ps, fs, e3⟩ | ⟨fs, e3⟩
        · rw [e2, e3]
          have pes := plc_eq hg h12 ls
          have son := liv_on hg ls
          have al := aA_lt h12 son.1
          have sD := SD_s (w := M 1) (dyN (M 1) s)
          have hday : dyN (M 1) s = d := by
            rcases Nat.lt_trichotomy (dyN (M 1) s) d with z | z | z
            · have := SD_mono (w := M 1) (show dyN (M 1) s + 1 ≤ d by omega)
              omega
            · exact z
            · have := SD_mono (w := M 1) (show d + 1 ≤ dyN (M 1) s by omega)
              omega
          rw [hday] at pes son al
          have h3 : ¬ s / 20 < i := fun z => hf _ z son.1 (by omega)
          have h4 : ¬ 20 * i + kOn (M 1) i d < s := fun z => fs _ z l1 (by omega)
          have hq : s / 20 = i := by omega
          have hk := son.2
          rw [hq] at hk
          exact SmA.mk' (by congr 1; omega)
        · exact absurd (by omega) (fs (20 * i + kOn (M 1) i d) (by omega) l1)
      · rcases m_inOrder r hp with ⟨s, hs, ls, ps, fs, e3⟩ | ⟨fs, e3⟩
        · exfalso
          have pes := plc_eq hg h12 ls
          have son := liv_on hg ls
          have al := aA_lt h12 son.1
          have sD := SD_s (w := M 1) (dyN (M 1) s)
          have hday : dyN (M 1) s = d := by
            rcases Nat.lt_trichotomy (dyN (M 1) s) d with z | z | z
            · have := SD_mono (w := M 1) (show dyN (M 1) s + 1 ≤ d by omega)
              omega
            · exact z
            · have := SD_mono (w := M 1) (show d + 1 ≤ dyN (M 1) s by omega)
              omega
          rw [hday] at pes son
          exact hf (s / 20) (by omega) son.1 (by omega)
        · rw [e2, e3]
          exact SmA.mk
    · rw [e1]
      rcases m_inOrder r hp with ⟨s, hs, ls, ps, fs, e3⟩ | ⟨fs, e3⟩
      · exfalso
        have pes := plc_eq hg h12 ls
        have son := liv_on hg ls
        have al := aA_lt h12 son.1
        have sD := SD_s (w := M 1) (dyN (M 1) s)
        have dl := dy_le r ls
        have := SD_mono (w := M 1) (show dyN (M 1) s + 1 ≤ 365 by omega)
        omega
      · rw [e3]
        exact SmA.mk
end
