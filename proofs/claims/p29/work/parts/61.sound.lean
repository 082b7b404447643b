/-! ===== PURE p29, 12: isSound answers 1 ===== -/
theorem sI_add (f g : Nat → Int32) : ∀ n, sI (fun i => f i + g i) n = sI f n + sI g n
  | 0 => rfl
  | n + 1 => by
    rw [sI_succ, sI_succ, sI_succ, sI_add f g n]
    grind
theorem sI_zero : ∀ n, sI (fun _ => 0) n = 0
  | 0 => rfl
  | n + 1 => by rw [sI_succ, sI_zero n]; rfl
theorem sI_swap (f : Nat → Nat → Int32) (a : Nat) : ∀ n, sI (fun i => sI (fun j => f i j) a) n = sI (fun j => sI (fun i => f i j) n) a
  | 0 => (sI_zero a).symm
  | n + 1 => by
    rw [sI_succ, sI_swap f a n, ← sI_add]
    rfl
theorem sI_hit {i m : Nat} (hi : i < m) (hm : m < 2 ^ 31) (x : Int32) : sI (fun q => if nI i = nI q then x else 0) m = x := by
  rw [sI_one (g := fun _ => 0) hi (fun j hj hne => if_neg (fun z => hne ((nI_eq (by omega) (by omega)).mp z).symm)), sI_zero, if_pos rfl]
  grind
section
variable {w : Nat → Int32}
/-- each key is in the box or lent for one hire -/
theorem keys6 (g : Good w) : kF w (-1) + sI (fun i => kF w (nI i)) (cN w 10) = 6 := by
  have h12 := g.2.2.1.2
  unfold kF
  rw [sI_swap (fun i j => if w (40 + 2 * j) = nI i then 1 else 0) 6 (cN w 10), ← sI_add]
  have e : ∀ j, j < 6 → (if w (40 + 2 * j) = -1 then (1 : Int32) else 0) + sI (fun i => if w (40 + 2 * j) = nI i then 1 else 0) (cN w 10) = 1 := fun j hj => by
    rcases g.2.2.2.2.2.2.2.2 j hj with q | ⟨i, due, hi, -, q1, -⟩
    · rw [if_pos q, sI_cong (g := fun _ => 0) (fun i hi => if_neg (fun z => nI_m1 (j := i) (by omega) (q.symm.trans z))), sI_zero]
      rfl
    · rw [q1, if_neg (fun z => nI_m1 (j := i) (by omega) z.symm), sI_hit hi (by omega)]
      rfl
  rw [sI_cong (g := fun _ => 1) e]
  rfl
theorem hirers3 (g : ∀ i, i < cN w 10 → GH w i) (h9 : cN w 9 = 3) (X : Nat → Int32) : sI (fun b => cH w b X) 3 = sI X (cN w 10) := by
  unfold cH
  rw [← sI_swap (fun i b => if w (52 + 64 * i + 0) = nI b then X i else 0) 3 (cN w 10)]
  exact sI_cong fun i hi => by
    have gi := g i hi
    rw [gi.1 0 (by decide)]
    exact sI_hit (by have := gi.2.1; omega) (by decide) (X i)
/-! the live sessions in their order -/
theorem ct_below {n : Nat} (h : n ≤ 20) : fb_ct (fun k => decide (k < n)) 20 = n := by
  rw [ct_cut (m := n) h (fun k hk => by simp [Nat.not_lt.mpr hk])]
  exact fb_ct_all.mpr fun k hk => by simp [hk]
theorem sN_T (g : ∀ i, i < cN w 10 → GH w i) : sN w = nI (fb_ct (liv w) (20 * cN w 10)) := by
  rw [ct_blk, ← sI_sm]
  unfold sN
  refine sI_cong fun i hi => ?_
  have gi := g i hi
  have h20 := gi.2.2.2.2.2.2.2.1
  have e : fb_ct (fun k => liv w (20 * i + k)) 20 + sC w i 2 = hN w i 4 := by
    unfold sC
    rw [← fb_ct_or (fun k hk => by
      rintro ⟨a, b⟩
      unfold liv at a
      unfold sB at b
      rw [show (20 * i + k) / 20 = i by omega, show (20 * i + k) % 20 = k by omega] at a
      simp only [Bool.and_eq_true, decide_eq_true_iff, Bool.not_eq_true', decide_eq_false_iff_not] at a b
      exact a.2.2 b.2)]
    rw [← ct_below h20]
    refine fb_ct_cong fun k hk => ?_
    unfold liv sB
    rw [show (20 * i + k) / 20 = i by omega, show (20 * i + k) % 20 = k by omega, Bool.eq_iff_iff]
    simp only [Bool.or_eq_true, Bool.and_eq_true, decide_eq_true_iff, Bool.not_eq_true', decide_eq_false_iff_not]
    constructor
    · rintro (⟨-, a, -⟩ | ⟨a, -⟩) <;> exact a
    · intro a
      by_cases c : hN w i (12 + k) = 2
      · exact Or.inr ⟨a, c⟩
      · exact Or.inl ⟨hi, a, c⟩
  rw [gi.1 4 (by decide), pk_sub (by omega)]
  congr 1
  omega
theorem ahd_self (s : Nat) : ahd w s s = false := by
  unfold ahd
  simp
theorem plc_lt {s : Nat} (hs : s < 20 * cN w 10) (ls : liv w s = true) : plc w s < fb_ct (liv w) (20 * cN w 10) := by
  have e := fb_ct_upd (liv w) false hs
  rw [ls] at e
  have le : plc w s ≤ fb_ct (fun k => if k = s then false else liv w k) (20 * cN w 10) := fb_ct_sub fun k hk h => by
    rw [Bool.and_eq_true] at h
    by_cases c : k = s
    · rw [c, ahd_self] at h
      cases h.2
    · rw [if_neg c]
      exact h.1
  simp only [if_true, Bool.false_eq_true, if_false] at e
  omega
theorem liv_h (g : ∀ i, i < cN w 10 → GH w i) {s : Nat} (ls : liv w s = true) : hN w (s / 20) 2 < 25 := by
  unfold liv at ls
  simp only [Bool.and_eq_true, decide_eq_true_iff] at ls
  have gi := g _ ls.1
  have h3 := gi.2.2.2.2.1
  have h24 := gi.2.2.2.2.2.1
  omega
theorem plc_top (g : ∀ i, i < cN w 10 → GH w i) (h12 : cN w 10 ≤ 12) (hT : 0 < fb_ct (liv w) (20 * cN w 10)) : ∃ s, s < 20 * cN w 10 ∧ liv w s = true ∧ plc w s = fb_ct (liv w) (20 * cN w 10) - 1 := by
  obtain ⟨s0, hs0, ls0⟩ := fb_ct_pos.mp hT
  let f : Nat → Int := fun s => if liv w s = true then (((dyN w s * 25 + hN w (s / 20) 2) * 240 + s : Nat) : Int) else -1
  obtain ⟨i, hi, hmax, -⟩ := fb_best f (n := 20 * cN w 10) (by omega)
  have fl : ∀ s, liv w s = true → f s = (((dyN w s * 25 + hN w (s / 20) 2) * 240 + s : Nat) : Int) := fun s hs => if_pos hs
  have li : liv w i = true := by
    by_cases c : liv w i = true
    · exact c
    · exfalso
      have h1 := hmax s0 hs0
      rw [fl s0 ls0, show f i = -1 from if_neg c] at h1
      omega
  refine ⟨i, hi, li, ?_⟩
  have e := fb_ct_upd (liv w) false hi
  rw [li] at e
  simp only [if_true, Bool.false_eq_true, if_false] at e
  have e2 : plc w i = fb_ct (fun k => if k = i then false else liv w k) (20 * cN w 10) := fb_ct_cong fun o ho => by
    by_cases c : o = i
    · rw [c, ahd_self, if_pos rfl, Bool.and_false]
    · rw [if_neg c]
      by_cases lo : liv w o = true
      · have h1 := hmax o ho
        rw [fl o lo, fl i li] at h1
        have b1 := liv_h g lo
        have b2 := liv_h g li
        have ha : ahd w o i = true := by
          unfold ahd
          simp only [Bool.or_eq_true, Bool.and_eq_true, decide_eq_true_iff]
          generalize dyN w o = x1 at *
          generalize dyN w i = x2 at *
          generalize hN w (o / 20) 2 = y1 at *
          generalize hN w (i / 20) 2 = y2 at *
          omega
        rw [lo, ha]
        rfl
      · rw [Bool.not_eq_true] at lo
        rw [lo, Bool.false_and]
  omega
end
section
variable {k : Nat} {v M : xV}
theorem io_out (r : RB v (M 1)) : f_X8_inOrder M (sN (M 1)) = some (-2000000004) := by
  have h12 := r.m12
  have hg : ∀ i, i < cN (M 1) 10 → GH (M 1) i := fun i hi => r.g hi
  have le : fb_ct (liv (M 1)) (20 * cN (M 1) 10) ≤ 20 * cN (M 1) 10 := fb_ct_le _ _
  rw [sN_T hg]
  unfold f_X8_inOrder
  rw [if_pos (nI_pos' (by omega))]
  rcases m_inOrder r (p := fb_ct (liv (M 1)) (20 * cN (M 1) 10)) (by omega) with ⟨s, hs, ls, ps, -, -⟩ | ⟨-, e⟩
  · have := plc_lt hs ls
    omega
  · exact e
theorem io_in (r : RB v (M 1)) (h : sN (M 1) ≠ 0) : ∃ s, s < 2 ^ 31 ∧ f_X8_inOrder M (sN (M 1) - 1) = some (nI s) := by
  have h12 := r.m12
  have hg : ∀ i, i < cN (M 1) 10 → GH (M 1) i := fun i hi => r.g hi
  have le : fb_ct (liv (M 1)) (20 * cN (M 1) 10) ≤ 20 * cN (M 1) 10 := fb_ct_le _ _
  rw [sN_T hg] at h ⊢
  have h0 : 0 < fb_ct (liv (M 1)) (20 * cN (M 1) 10) := by
    refine Nat.pos_of_ne_zero fun z => h ?_
    rw [z]
    rfl
  rw [show nI (fb_ct (liv (M 1)) (20 * cN (M 1) 10)) - 1 = nI (fb_ct (liv (M 1)) (20 * cN (M 1) 10) - 1) from pk_sub (b := 1) h0]
  unfold f_X8_inOrder
  rw [if_pos (nI_pos' (by omega))]
  obtain ⟨s0, hs0, ls0, ps0⟩ := plc_top hg h12 h0
  rcases m_inOrder r (p := fb_ct (liv (M 1)) (20 * cN (M 1) 10) - 1) (by omega) with ⟨s, hs, ls, ps, -, e⟩ | ⟨no, -⟩
  · exact ⟨s, by omega, e⟩
  · exact absurd ps0 (no s0 hs0 ls0)
theorem s_9 (r : RB v (M 1)) (h9 : cN (M 1) 9 = 3) (K : Int32 → Int32 → Int32 → Option Int32) : L_L_isSound_9 K M 100000 0 0 0 = K (dbt (M 1)) (sI (fun i => M 1 (52 + 64 * i + 11)) (cN (M 1) 10)) (nI 3) := by
  have q0 := xup0 (fun n q => L_L_isSound_9 K M n (sI (fun b => M 1 (20 + 2 * b) - M 1 (20 + 2 * b + 1)) q) (sI (fun b => cH (M 1) b (fun i => M 1 (52 + 64 * i + 11))) q) (nI q)) (K (sI (fun b => M 1 (20 + 2 * b) - M 1 (20 + 2 * b + 1)) 3) (sI (fun b => cH (M 1) b (fun i => M 1 (52 + 64 * i + 11))) 3) (nI 3)) 3 (fun n q h2 => by
    have e6 : f_X8_hirer M (nI q) 6 = some (cH (M 1) q (fun i => M 1 (52 + 64 * i + 11))) := by
      rw [hr_6 r (by omega), m_countHires r]
      rfl
    rw [L_L_isSound_9, if_neg (show ¬ (3 : Int32) ≤ nI q from nI_ge (b := 3) h2 (by decide)), hr_2 r (by omega), xbs, xls, e6, xbs, xls, xls, nI_1]
    rfl) (fun n => by
    rw [L_L_isSound_9, if_pos (by decide)]) (n := 100000) (by decide)
  rw [hirers3 (fun i hi => r.g hi) h9] at q0
  exact q0
theorem s_55 (r : RB v (M 1)) (K : Int32 → Int32 → Int32 → Int32 → Int32 → Option Int32) (F B : Int32) : L_L_isSound_55 K M 100000 F 0 B 0 0 = K (F - sI (fun i => M 1 (52 + 64 * i + 11)) (cN (M 1) 10)) (sD (M 1)) (B + sI (fun i => kF (M 1) (nI i)) (cN (M 1) 10)) (sPr (M 1)) (nI (cN (M 1) 10)) := by
  have h12 := r.m12
  have q0 := xup0 (fun n q => L_L_isSound_55 K M n (F - sI (fun i => M 1 (52 + 64 * i + 11)) q) (sI (fun i => M 1 (52 + 64 * i + 9)) q) (B + sI (fun i => kF (M 1) (nI i)) q) (sI (fun i => M 1 (52 + 64 * i + 7)) q) (nI q)) (K (F - sI (fun i => M 1 (52 + 64 * i + 11)) (cN (M 1) 10)) (sD (M 1)) (B + sI (fun i => kF (M 1) (nI i)) (cN (M 1) 10)) (sPr (M 1)) (nI (cN (M 1) 10))) (cN (M 1) 10) (fun n q h2 => by
    have e1 : F - sI (fun i => M 1 (52 + 64 * i + 11)) q - M 1 (52 + 64 * q + 11) = F - sI (fun i => M 1 (52 + 64 * i + 11)) (q + 1) := by
      rw [sI_succ]
      grind
    have e2 : B + sI (fun i => kF (M 1) (nI i)) q + kF (M 1) (nI q) = B + sI (fun i => kF (M 1) (nI i)) (q + 1) := by
      rw [sI_succ]
      grind
    rw [L_L_isSound_55, cnt_2, xbs, r.wm, if_neg (nI_ge h2 (by omega)), hi_12 r h2, xbs, xls, hi_14 r h2, xbs, xls, hi_13 r h2, xbs, xls, hi_7 r h2, xbs, xls, xls, nI_1, e1, e2]
    rfl) (fun n => by
    rw [L_L_isSound_55, cnt_2, xbs, r.wm, if_pos (nI_le (Nat.le_refl _) (by omega))]
    rfl) (n := 100000) (by omega)
  have e0 : L_L_isSound_55 K M 100000 (F - 0) 0 (B + 0) 0 0 = K (F - sI (fun i => M 1 (52 + 64 * i + 11)) (cN (M 1) 10)) (sD (M 1)) (B + sI (fun i => kF (M 1) (nI i)) (cN (M 1) 10)) (sPr (M 1)) (nI (cN (M 1) 10)) := q0
  rw [Int32.add_zero, show F - 0 = F by grind] at e0
  exact e0
theorem sound_ok {d : Nat} {N : xV} (T : TW d k M N) : f_L_isSound M = some 1 := by
  obtain ⟨⟨dv, v, hv, kv, tv, r, h, ht, c⟩, -, -, ⟨⟨a1, a2, a3, a4⟩, h9, -⟩, -⟩ := T
  unfold f_L_isSound
  rw [s_9 r h9, cnt_4, m_countKeys0, xbs, s_55 r, keys6 r.1, if_pos rfl, if_pos (by grind), cnt_23, xbs, if_pos a1, cnt_20, xbs, if_pos a2, cnt_22, xbs, xbs, cnt_24, xbs, cnt_25, xbs, cnt_26, xbs, if_pos a3]
  unfold J_L_isSound_194
  rw [if_neg (by decide), cnt_20, xbs, cnt_21, xbs, cnt_22, xbs, cnt_26, xbs, cnt_27, xbs, cnt_28, xbs, if_pos a4]
  unfold J_L_isSound_251
  have c3 : f_X8_count M 3 = some (sN (M 1)) := (cnt_3 M).trans (m_countSessions0 r)
  rw [if_neg (by decide), c3, xbs, io_out r, xbs, if_pos rfl, xbs]
  by_cases hz : sN (M 1) = 0
  · rw [if_pos hz]
  · obtain ⟨s, hs, es⟩ := io_in r hz
    rw [if_neg hz, xbs, es, xbs, if_neg (nI_pos hs)]
end
