/-! ===== PURE 14: days go by ===== -/
/-- the class's marks on the first n hires -/
def mkV (v : xV) (w : Nat → Int32) (d n : Nat) : xV := fun k j => if j = 9 ∧ 6 ≤ k ∧ k % 2 = 0 ∧ (k - 6) / 2 < n ∧ onB w ((k - 6) / 2) d = true then v k 9 ||| ((1 : Int32) <<< (nI (kOn w ((k - 6) / 2) d) &&& 31)) else v k j
theorem mkV_ne {v : xV} {w : Nat → Int32} {d n k j : Nat} (h : j ≠ 9) : mkV v w d n k j = v k j := if_neg (fun z => h z.1)
theorem mkV_9 {v : xV} {w : Nat → Int32} {d n i : Nat} : mkV v w d n (6 + 2 * i) 9 = if i < n ∧ onB w i d = true then v (6 + 2 * i) 9 ||| ((1 : Int32) <<< (nI (kOn w i d) &&& 31)) else v (6 + 2 * i) 9 := by
  unfold mkV
  rw [show (6 + 2 * i - 6) / 2 = i by omega]
  by_cases h : i < n ∧ onB w i d = true
  · rw [if_pos h, if_pos ⟨rfl, by omega, by omega, h.1, h.2⟩]
  · rw [if_neg h, if_neg (fun z => h ⟨z.2.2.2.1, z.2.2.2.2⟩)]
theorem idx_same {v v' : xV} {i : Nat} (h5 : v' (6 + 2 * i) 5 = v (6 + 2 * i) 5) (h6 : v' (6 + 2 * i) 6 = v (6 + 2 * i) 6) (h7 : v' (6 + 2 * i) 7 = v (6 + 2 * i) 7) (h10 : v' (6 + 2 * i) 10 = v (6 + 2 * i) 10) (x : Int32) : f_X1_indexOn v' i x = f_X1_indexOn v i x := by
  unfold f_X1_indexOn
  rw [h5, h6, h7, h10]
section
variable {v : xV} {w : Nat → Int32}
theorem c_marks (r : RB v w) (K : Int32 → Int32 → xV → Option (Int32 × xV)) {d : Nat} (hd : d = cN w 0) : L_X0_passDay_13 K 100000 0 0 v = K (nI (soN w d)) (nI 12) (mkV v w d 12) := by
  have hd400 := r.d400
  have z : mkV v w d 0 = v := by
    funext k j
    exact if_neg (fun y => Nat.not_lt_zero _ y.2.2.2.1)
  have q := xup0 (fun n k => L_X0_passDay_13 K n (nI (fb_ct (fun i => onB w i d) k)) (nI k) (mkV v w d k)) (K (nI (soN w d)) (nI 12) (mkV v w d 12)) 12 (fun n k hk => by
    have ei : f_X1_indexOn (mkV v w d k) k (mkV v w d k 0 0) = some (if onB w k d = true then nI (kOn w k d) else -1) := by
      rw [mkV_ne (by decide), r.vd, ← hd, idx_same (v := v) (mkV_ne (by decide)) (mkV_ne (by decide)) (mkV_ne (by decide)) (mkV_ne (by decide)), c_indexOn r hk (by omega)]
    rw [L_X0_passDay_13, if_neg (show ¬ (12 : Int32) ≤ nI k from nI_ge (b := 12) hk (by decide)), xgi hk (by decide), xls, nI_clamp (by omega), ei, xbs, fb_ct_succ]
    simp only [xls, nI_1]
    by_cases h : onB w k d = true
    · have hk20 : kOn w k d < 20 := by
        have := (onB_k h).1
        have := (r.g (onB_i h)).2.2.2.2.2.2.2.1
        omega
      rw [if_pos h, if_neg (fun y => nI_m1 (by omega) y.symm), if_pos h]
      congr 1
      funext a b
      rw [u2e]
      by_cases e : a = 6 + 2 * k ∧ b = 9
      · obtain ⟨rfl, rfl⟩ := e
        rw [if_pos ⟨rfl, rfl⟩, mkV_9, mkV_9, if_neg (fun y => Nat.lt_irrefl _ y.1), if_pos ⟨Nat.lt_succ_self _, h⟩]
      · rw [if_neg e]
        unfold mkV
        by_cases c : b = 9 ∧ 6 ≤ a ∧ a % 2 = 0 ∧ (a - 6) / 2 < k ∧ onB w ((a - 6) / 2) d = true
        · rw [if_pos c, if_pos ⟨c.1, c.2.1, c.2.2.1, by omega, c.2.2.2.2⟩]
        · rw [if_neg c, if_neg (fun y => c ⟨y.1, y.2.1, y.2.2.1, by omega, y.2.2.2.2⟩)]
    · rw [if_neg h, if_pos rfl, if_neg h, Nat.add_zero]
      congr 1
      funext a b
      unfold mkV
      by_cases c : b = 9 ∧ 6 ≤ a ∧ a % 2 = 0 ∧ (a - 6) / 2 < k ∧ onB w ((a - 6) / 2) d = true
      · rw [if_pos c, if_pos ⟨c.1, c.2.1, c.2.2.1, by omega, c.2.2.2.2⟩]
      · rw [if_neg c, if_neg (fun y => by
          by_cases e : (a - 6) / 2 = k
          · rw [e] at y
            exact h y.2.2.2.2
          · exact c ⟨y.1, y.2.1, y.2.2.1, by omega, y.2.2.2.2⟩)]) (fun n => by
    rw [L_X0_passDay_13, if_pos (show (12 : Int32) ≤ nI 12 from by decide)]
    rfl) (n := 100000) (by decide)
  rw [z] at q
  exact q
end
/-- the model's marks: session s is held today -/
def tdy (w : Nat → Int32) (d s : Nat) : Bool := decide (s / 20 < cN w 10) && (decide (s % 20 < hN w (s / 20) 4) && (decide (hN w (s / 20) (12 + s % 20) = 0) && decide (dyN w s = d)))
def mkW (w : Nat → Int32) (d n : Nat) : Nat → Int32 := fun c => if 52 ≤ c ∧ 12 ≤ (c - 52) % 64 ∧ (c - 52) % 64 < 32 ∧ 20 * ((c - 52) / 64) + ((c - 52) % 64 - 12) < n ∧ tdy w d (20 * ((c - 52) / 64) + ((c - 52) % 64 - 12)) = true then 1 else w c
theorem mkW_ne {w : Nat → Int32} {d n c : Nat} (h : ¬ (52 ≤ c ∧ 12 ≤ (c - 52) % 64 ∧ (c - 52) % 64 < 32)) : mkW w d n c = w c := if_neg (fun z => h ⟨z.1, z.2.1, z.2.2.1⟩)
theorem mkW_h {w : Nat → Int32} {d n i k : Nat} (h : ¬ (12 ≤ k ∧ k < 32)) (hk : k < 64) : mkW w d n (52 + 64 * i + k) = w (52 + 64 * i + k) := mkW_ne (fun z => h (by omega))
theorem mkW_s {w : Nat → Int32} {d n i k : Nat} (hk : k < 20) : mkW w d n (52 + 64 * i + (12 + k)) = if 20 * i + k < n ∧ tdy w d (20 * i + k) = true then 1 else w (52 + 64 * i + (12 + k)) := by
  unfold mkW
  have e1 : (52 + 64 * i + (12 + k) - 52) % 64 = 12 + k := by omega
  have e2 : (52 + 64 * i + (12 + k) - 52) / 64 = i := by omega
  rw [e1, e2, show 12 + k - 12 = k by omega]
  by_cases h : 20 * i + k < n ∧ tdy w d (20 * i + k) = true
  · rw [if_pos h, if_pos ⟨by omega, by omega, by omega, h.1, h.2⟩]
  · rw [if_neg h, if_neg (fun z => h ⟨z.2.2.2.1, z.2.2.2.2⟩)]
theorem m_sess0 {M : xV} {s m n4 : Nat} (hs : s < 20 * m) (hm : m ≤ 12) (e : M 1 10 = nI m) (e4 : M 1 (52 + 64 * (s / 20) + 4) = nI n4) (h4 : n4 ≤ 20) : f_X8_isSession M (nI s) = some (if s % 20 < n4 then 1 else 0) := by
  unfold f_X8_isSession
  rw [if_neg (nI_pos (by omega)), nn_rem (by omega), nn_div (by omega), m_isHire hm e, xbs, if_pos ((lt_iff _ (by omega)).mpr ⟨_, by omega, rfl⟩), i10, show f_X8_of M (nI (s / 20)) 4 = some (M 1 (52 + 64 * (s / 20) + 4)) from m_of (k := 4) (by omega), xbs, e4]
  by_cases h2 : n4 ≤ s % 20
  · rw [if_pos (nI_le h2 (by omega)), if_neg (by omega)]
  · rw [if_neg (nI_ge (by omega) (by omega)), if_pos (by omega)]
theorem m_dy0 {M : xV} {s a b : Nat} (hs : s < 240) (e5 : M 1 (52 + 64 * (s / 20) + 5) = nI a) (e6 : M 1 (52 + 64 * (s / 20) + 6) = nI b) : f_X8_dayOf M (nI s) = some (nI (a + s % 20 * b)) := by
  unfold f_X8_dayOf
  rw [nn_rem (by omega), nn_div (by omega), xls, show f_X8_of M (nI (s / 20)) 5 = some (M 1 (52 + 64 * (s / 20) + 5)) from m_of (k := 5) (by omega), xbs, show f_X8_of M (nI (s / 20)) 6 = some (M 1 (52 + 64 * (s / 20) + 6)) from m_of (k := 6) (by omega), xbs, e5, e6, pk_mul, nI_add]
theorem tdy_ct {v : xV} {w : Nat → Int32} (r : RB v w) {d : Nat} (hd : d = cN w 0) : fb_ct (tdy w d) (20 * cN w 10) = soN w d := by
  have hg : ∀ i, i < cN w 10 → GH w i := fun i hi => r.g hi
  have e := day_ct hg r.m12 d (fun _ => true)
  have e2 : fb_ct (fun i => onB w i d && true) 12 = soN w d := fb_ct_cong fun k _ => Bool.and_true _
  rw [← e2, ← e]
  refine fb_ct_cong fun s _ => ?_
  unfold tdy liv
  rw [Bool.eq_iff_iff]
  simp only [Bool.and_eq_true, decide_eq_true_iff, Bool.not_eq_true', decide_eq_false_iff_not, and_true]
  constructor
  · rintro ⟨a1, a2, a3, a4⟩
    exact ⟨⟨a1, a2, by omega⟩, a4⟩
  · rintro ⟨⟨a1, a2, a3⟩, a4⟩
    obtain ⟨-, b2, b3⟩ := (hg _ a1).2.2.2.2.2.2.2.2.2.2.2.2.2.2.2.2.2 _ a2
    refine ⟨a1, a2, ?_, a4⟩
    rcases (show hN w (s / 20) (12 + s % 20) = 0 ∨ hN w (s / 20) (12 + s % 20) = 1 by omega) with q | q
    · exact q
    · exfalso
      have := b3 q
      unfold dyN at a4
      omega
theorem m_marks {v M : xV} (r : RB v (M 1)) (K : Int32 → Int32 → xV → Option (Int32 × xV)) {d : Nat} (hd : d = cN (M 1) 0) : ∃ M', L_X8_holdsToday_4 K 100000 0 0 M = K (nI (soN (M 1) d)) (nI (20 * cN (M 1) 10)) M' ∧ M' 1 = mkW (M 1) d (20 * cN (M 1) 10) ∧ ∀ c, c ≠ 1 → M' c = M c := by
  have h12 := r.m12
  obtain ⟨m, hm⟩ : ∃ x, x = cN (M 1) 10 := ⟨_, rfl⟩
  rw [← hm] at h12 ⊢
  let S : Nat → xV := fun n k => if k = 1 then mkW (M 1) d n else M k
  have S1 : ∀ n, S n 1 = mkW (M 1) d n := fun n => if_pos rfl
  have So : ∀ n c, c ≠ 1 → S n c = M c := fun n c hc => if_neg hc
  refine ⟨S (20 * m), ?_, S1 _, So _⟩
  have z : S 0 = M := by
    funext k
    by_cases h : k = 1
    · subst h
      rw [S1]
      funext c
      exact if_neg (fun y => Nat.not_lt_zero _ y.2.2.2.1)
    · exact So 0 k h
  have q := xup0 (fun n s => L_X8_holdsToday_4 K n (nI (fb_ct (tdy (M 1) d) s)) (nI s) (S s)) (K (nI (soN (M 1) d)) (nI (20 * m)) (S (20 * m))) (20 * m) (fun n s hs => by
    have hi : s / 20 < cN (M 1) 10 := by omega
    have g := r.g hi
    have h20 := g.2.2.2.2.2.2.2.1
    have c10 : S s 1 10 = nI m := by rw [S1, mkW_ne (by omega), r.wm, hm]
    have c0 : S s 1 0 = nI d := by rw [S1, mkW_ne (by omega), r.wd, hd]
    have ce : ∀ k, k < 7 → S s 1 (52 + 64 * (s / 20) + k) = nI (hN (M 1) (s / 20) k) := fun k hk => by rw [S1, mkW_h (by omega) (by omega)]; exact g.1 k hk
    rw [L_X8_holdsToday_4, c10, show (20 : Int32) * nI m = nI (20 * m) from pk_mul 20 m, if_neg (nI_ge hs (by omega)), m_sess0 hs h12 c10 (ce 4 (by decide)) h20, xbs, fb_ct_succ]
    simp only [xls, nI_1]
    have nope : tdy (M 1) d s = false → S s = S (s + 1) := fun hf => by
      funext k
      by_cases h : k = 1
      · subst h
        rw [S1, S1]
        funext c
        unfold mkW
        by_cases y : 52 ≤ c ∧ 12 ≤ (c - 52) % 64 ∧ (c - 52) % 64 < 32 ∧ 20 * ((c - 52) / 64) + ((c - 52) % 64 - 12) < s ∧ tdy (M 1) d (20 * ((c - 52) / 64) + ((c - 52) % 64 - 12)) = true
        · rw [if_pos y, if_pos ⟨y.1, y.2.1, y.2.2.1, by omega, y.2.2.2.2⟩]
        · rw [if_neg y, if_neg (fun u => by
            by_cases e : 20 * ((c - 52) / 64) + ((c - 52) % 64 - 12) = s
            · rw [e, hf] at u
              cases u.2.2.2.2
            · exact y ⟨u.1, u.2.1, u.2.2.1, by omega, u.2.2.2.2⟩)]
      · rw [So _ _ h, So _ _ h]
    by_cases h1 : s % 20 < hN (M 1) (s / 20) 4
    · obtain ⟨gk1, gk2, -⟩ := g.2.2.2.2.2.2.2.2.2.2.2.2.2.2.2.2.2 _ h1
      have est : f_X8_stateOf (S s) (nI s) = some (nI (hN (M 1) (s / 20) (12 + s % 20))) := by
        have := m_stateOf (M := S s) (i := s / 20) (k := s % 20) (by omega) (by omega)
        rw [show 20 * (s / 20) + s % 20 = s by omega] at this
        rw [this, S1, mkW_s (by omega), show 20 * (s / 20) + s % 20 = s by omega, if_neg (fun y => Nat.lt_irrefl _ y.1), gk1]
      rw [if_pos h1, i10, est, xbs]
      by_cases h0 : hN (M 1) (s / 20) (12 + s % 20) = 0
      · rw [if_pos (by rw [h0]; rfl), m_dy0 (by omega) (ce 5 (by decide)) (ce 6 (by decide)), xbs, c0]
        by_cases hdd : hN (M 1) (s / 20) 5 + s % 20 * hN (M 1) (s / 20) 6 = d
        · have ht : tdy (M 1) d s = true := by
            unfold tdy dyN
            simp only [Bool.and_eq_true, decide_eq_true_iff]
            exact ⟨hi, h1, h0, hdd⟩
          rw [if_pos (by rw [hdd]), nn_rem (by omega), nn_div (by omega), show (12 : Int32) + nI (s % 20) = nI (12 + s % 20) from nI_add 12 _, m_at, xbs, xgi (by omega) (by decide), nI_clamp (by omega), if_pos ht]
          congr 1
          funext k c
          rw [u2e]
          by_cases e : k = 1 ∧ c = 52 + 64 * (s / 20) + (12 + s % 20)
          · obtain ⟨rfl, rfl⟩ := e
            rw [if_pos ⟨rfl, rfl⟩, S1, mkW_s (by omega), show 20 * (s / 20) + s % 20 = s by omega, if_pos ⟨Nat.lt_succ_self _, ht⟩]
          · rw [if_neg e]
            by_cases h : k = 1
            · subst h
              rw [S1, S1]
              unfold mkW
              by_cases y : 52 ≤ c ∧ 12 ≤ (c - 52) % 64 ∧ (c - 52) % 64 < 32 ∧ 20 * ((c - 52) / 64) + ((c - 52) % 64 - 12) < s ∧ tdy (M 1) d (20 * ((c - 52) / 64) + ((c - 52) % 64 - 12)) = true
              · rw [if_pos y, if_pos ⟨y.1, y.2.1, y.2.2.1, by omega, y.2.2.2.2⟩]
              · rw [if_neg y, if_neg (fun u => y ⟨u.1, u.2.1, u.2.2.1, by omega, u.2.2.2.2⟩)]
            · rw [So _ _ h, So _ _ h]
        · have hkp : hN (M 1) (s / 20) 5 + s % 20 * hN (M 1) (s / 20) 6 ≤ 364 := by
            have h364 := g.2.2.2.2.2.2.2.2.2.2.1
            have : s % 20 * hN (M 1) (s / 20) 6 ≤ (hN (M 1) (s / 20) 4 - 1) * hN (M 1) (s / 20) 6 := Nat.mul_le_mul_right _ (by omega)
            omega
          have hd400 := r.d400
          have ht : tdy (M 1) d s = false := by unfold tdy dyN; simp [hdd]
          rw [if_neg (ne_lit hdd (by omega) (by omega)), if_neg (by rw [ht]; decide), nope ht]
          rfl
      · have ht : tdy (M 1) d s = false := by unfold tdy; simp [h0]
        rw [if_neg (show ¬ nI (hN (M 1) (s / 20) (12 + s % 20)) = (0 : Int32) from ne_lit (b := 0) h0 (by omega) (by decide)), if_neg (by rw [ht]; decide), nope ht]
        rfl
    · have ht : tdy (M 1) d s = false := by unfold tdy; simp [h1]
      rw [if_neg h1, i00, if_neg (by rw [ht]; decide), nope ht]
      rfl) (fun n => by
    have c10 : S (20 * m) 1 10 = nI m := by rw [S1, mkW_ne (by omega), r.wm, hm]
    rw [L_X8_holdsToday_4, c10, show (20 : Int32) * nI m = nI (20 * m) from pk_mul 20 m, if_pos (nI_le (Nat.le_refl _) (by omega)), hm, tdy_ct r hd]) (n := 100000) (by omega)
  rw [z] at q
  exact q
/-- a day goes by -/
theorem RB.day {v : xV} {w : Nat → Int32} (r : RB v w) {d : Nat} (hd : d = cN w 0) (h400 : d + 1 ≤ 400) : RB (upd2 (mkV v w d 12) 0 0 (nI (d + 1))) (upd (mkW w d (20 * cN w 10)) 0 (nI (d + 1))) := by
  have h12 := r.m12
  obtain ⟨⟨q1, q2, q3, q4, q5, q6, q7, q8, q9⟩, ⟨s1, s2⟩, ⟨r1, r2, r3⟩, r4, r5, r6, r7, r8, r9⟩ := id r
  have ws : ∀ c, c < 52 → c ≠ 0 → upd (mkW w d (20 * cN w 10)) 0 (nI (d + 1)) c = w c := fun c h1 h2 => by rw [upn _ _ h2, mkW_ne (by omega)]
  have w0 : upd (mkW w d (20 * cN w 10)) 0 (nI (d + 1)) 0 = nI (d + 1) := upp _ _ _
  have cs : ∀ c, c < 52 → c ≠ 0 → cN (upd (mkW w d (20 * cN w 10)) 0 (nI (d + 1))) c = cN w c := fun c h1 h2 => cN_cong (ws c h1 h2)
  have c0 : cN (upd (mkW w d (20 * cN w 10)) 0 (nI (d + 1))) 0 = d + 1 := cN_of w0 (by omega)
  have wh : ∀ i k, ¬ (12 ≤ k ∧ k < 32) → k < 64 → upd (mkW w d (20 * cN w 10)) 0 (nI (d + 1)) (52 + 64 * i + k) = w (52 + 64 * i + k) := fun i k h1 h2 => by rw [upn _ _ (by omega), mkW_h h1 h2]
  have hh : ∀ i k, ¬ (12 ≤ k ∧ k < 32) → k < 64 → hN (upd (mkW w d (20 * cN w 10)) 0 (nI (d + 1))) i k = hN w i k := fun i k h1 h2 => hN_cong (wh i k h1 h2)
  have wst : ∀ i k, i < cN w 10 → k < hN w i 4 → upd (mkW w d (20 * cN w 10)) 0 (nI (d + 1)) (52 + 64 * i + (12 + k)) = if hN w i (12 + k) = 0 ∧ hN w i 5 + k * hN w i 6 = d then 1 else w (52 + 64 * i + (12 + k)) := fun i k hi hk => by
    have h20 := (q8 i hi).2.2.2.2.2.2.2.1
    rw [upn _ _ (by omega), mkW_s (by omega)]
    have ht : (20 * i + k < 20 * cN w 10 ∧ tdy w d (20 * i + k) = true) ↔ (hN w i (12 + k) = 0 ∧ hN w i 5 + k * hN w i 6 = d) := by
      unfold tdy dyN
      rw [show (20 * i + k) / 20 = i by omega, show (20 * i + k) % 20 = k by omega]
      simp only [Bool.and_eq_true, decide_eq_true_iff]
      constructor
      · rintro ⟨-, -, -, a, b⟩
        exact ⟨a, b⟩
      · rintro ⟨a, b⟩
        exact ⟨by omega, hi, hk, a, b⟩
    by_cases c : hN w i (12 + k) = 0 ∧ hN w i 5 + k * hN w i 6 = d
    · rw [if_pos c, if_pos (ht.mpr c)]
    · rw [if_neg c, if_neg (fun z => c (ht.mp z))]
  have hst : ∀ i k, i < cN w 10 → k < hN w i 4 → hN (upd (mkW w d (20 * cN w 10)) 0 (nI (d + 1))) i (12 + k) = if hN w i (12 + k) = 0 ∧ hN w i 5 + k * hN w i 6 = d then 1 else hN w i (12 + k) := fun i k hi hk => by
    have e := wst i k hi hk
    by_cases c : hN w i (12 + k) = 0 ∧ hN w i 5 + k * hN w i 6 = d
    · rw [if_pos c] at e ⊢
      exact hN_of (n := 1) e (by decide)
    · rw [if_neg c] at e ⊢
      exact hN_cong e
  refine ⟨⟨by rw [c0, w0]; exact ⟨rfl, h400⟩, ?_, ?_, ?_, ?_, ?_, ?_, fun i hi => ?_, fun j hj => ?_⟩, ⟨fun i hi => ?_, fun j hj => ?_⟩, ⟨?_, ?_, ?_⟩, fun j hj => ?_, fun j hj => ?_, fun j hj => ?_, fun j hj => ?_, fun i hi => ?_, fun i h1 h2 => ?_⟩
  · rw [ws 9 (by decide) (by decide), cs 9 (by decide) (by decide)]; exact q2
  · rw [ws 10 (by decide) (by decide), cs 10 (by decide) (by decide)]; exact q3
  · rw [ws 5 (by decide) (by decide), cs 5 (by decide) (by decide)]; exact q4
  · rw [ws 6 (by decide) (by decide), cs 6 (by decide) (by decide)]; exact q5
  · rw [ws 7 (by decide) (by decide), cs 7 (by decide) (by decide)]; exact q6
  · rw [ws 8 (by decide) (by decide), cs 8 (by decide) (by decide)]; exact q7
  · rw [cs 10 (by decide) (by decide)] at hi
    have g := q8 i hi
    obtain ⟨g1, g2, g3, g4, g5, g6, g7, g8, g9, g10, g11, g12, g13, g14, g15, g16, g17, g18⟩ := id g
    refine g.re (fun k hk => wh i k (by omega) (by omega)) (by rw [cs 9 (by decide) (by decide)]; exact Nat.le_refl _) (by rw [hh i 9 (by omega) (by decide), wh i 9 (by omega) (by decide)]; exact g13) (by rw [hh i 9 (by omega) (by decide)]; exact g14) (by rw [wh i 10 (by omega) (by decide)]; exact g15) (by rw [hh i 11 (by omega) (by decide), wh i 11 (by omega) (by decide)]; exact g16) (by rw [hh i 11 (by omega) (by decide)]; exact g17) (fun k hk => ?_)
    obtain ⟨b1, b2, b3⟩ := g18 k hk
    rw [wst i k hi hk, hst i k hi hk, c0]
    by_cases c : hN w i (12 + k) = 0 ∧ hN w i 5 + k * hN w i 6 = d
    · rw [if_pos c, if_pos c]
      exact ⟨rfl, by decide, fun _ => by omega⟩
    · rw [if_neg c, if_neg c]
      exact ⟨b1, b2, fun z => by have := b3 z; omega⟩
  · exact (q9 j hj).cong (ws _ (by omega) (by omega)) (ws _ (by omega) (by omega)) (by rw [cs 10 (by decide) (by decide)]; exact Nat.le_refl _)
  · rw [u2k _ _ (by omega), mkV_ne (by decide)]; exact s1 i hi
  · rw [u2k _ _ (by omega), mkV_ne (by decide)]; exact s2 j hj
  · rw [u2s, w0]
  · rw [u2j _ _ (by decide), mkV_ne (by decide), ws 9 (by decide) (by decide)]; exact r2
  · rw [u2j _ _ (by decide), mkV_ne (by decide), ws 10 (by decide) (by decide)]; exact r3
  · rw [u2k _ _ (by decide), ws _ (by omega) (by omega)]
    unfold mkV
    rw [if_neg (by omega)]
    exact r4 j hj
  · rw [u2k _ _ (by decide), ws _ (by omega) (by omega)]
    unfold mkV
    rw [if_neg (by omega)]
    exact r5 j hj
  · rw [u2k _ _ (by decide), u2k _ _ (by decide), ws _ (by omega) (by omega), ws _ (by omega) (by omega)]
    unfold mkV
    rw [if_neg (by omega), if_neg (by omega)]
    exact r6 j hj
  · rw [u2k _ _ (by omega), mkV_ne (by decide), mkV_ne (by decide), ws _ (by omega) (by omega), ws _ (by omega) (by omega)]; exact r7 j hj
  · rw [cs 10 (by decide) (by decide)] at hi
    have g := q8 i hi
    have h := r8 i hi
    have h20 := g.2.2.2.2.2.2.2.1
    have g17 := g.2.2.2.2.2.2.2.2.2.2.2.2.2.2.2.2.1
    have g18 := g.2.2.2.2.2.2.2.2.2.2.2.2.2.2.2.2.2
    have ev : ∀ k, k ≠ 9 → upd2 (mkV v w d 12) 0 0 (nI (d + 1)) (6 + 2 * i) k = v (6 + 2 * i) k := fun k hk => by rw [u2k _ _ (by omega), mkV_ne hk]
    have e4 := hh i 4 (by omega) (by decide)
    refine h.mk2 (fun k hk => wh i k (by omega) (by omega)) (fun k h1 h2 => ev k (by omega)) (by rw [ev _ (by decide), wh i 9 (by omega) (by decide)]; exact h.2.1.1) (by rw [ev _ (by decide), wh i 11 (by omega) (by decide)]; exact h.2.1.2.1) (by rw [ev _ (by decide), wh i 10 (by omega) (by decide)]; exact h.2.1.2.2) ?_ ?_ (fun c hc => ?_)
    · rw [u2k _ _ (by omega), mkV_9]
      by_cases ho : onB w i d = true
      · obtain ⟨k0, a1, a2, a3⟩ := (onB_iff hi g).mp ho
        have ek := kOn_eq g a3
        obtain ⟨-, b2, b3⟩ := g18 k0 a1
        have st0 : hN w i (12 + k0) = 0 := by
          rcases (show hN w i (12 + k0) = 0 ∨ hN w i (12 + k0) = 1 by omega) with z | z
          · exact z
          · have := b3 z
            omega
        rw [if_pos ⟨by omega, ho⟩, ek]
        refine bm_cong (bm_set h.2.2.1 (by omega)) fun k hk => ?_
        unfold sB
        rw [e4]
        by_cases hk4 : k < hN w i 4
        · rw [hst i k hi hk4]
          by_cases e : k = k0
          · subst e
            rw [if_pos ⟨st0, a3⟩]
            simp [hk4]
          · have hne : ¬ (hN w i (12 + k) = 0 ∧ hN w i 5 + k * hN w i 6 = d) := fun z => by
              have := kOn_eq g z.2
              omega
            rw [if_neg hne]
            simp [e]
        · have : k ≠ k0 := by omega
          simp [hk4, this]
      · rw [if_neg (fun z => ho z.2)]
        refine bm_cong h.2.2.1 fun k hk => ?_
        unfold sB
        rw [e4]
        by_cases hk4 : k < hN w i 4
        · have hne : ¬ (hN w i (12 + k) = 0 ∧ hN w i 5 + k * hN w i 6 = d) := fun z => ho ((onB_iff hi g).mpr ⟨k, hk4, by omega, z.2⟩)
          rw [hst i k hi hk4, if_neg hne]
        · simp [hk4]
    · rw [ev _ (by decide)]
      refine bm_cong h.2.2.2.1 fun k hk => ?_
      unfold sB
      rw [e4]
      by_cases hk4 : k < hN w i 4
      · rw [hst i k hi hk4]
        by_cases c : hN w i (12 + k) = 0 ∧ hN w i 5 + k * hN w i 6 = d
        · rw [if_pos c, c.1]
          rfl
        · rw [if_neg c]
      · simp [hk4]
    · rw [hh i 11 (by omega) (by decide)] at hc
      rw [u2k _ _ (by omega), wh i (32 + c) (by omega) (by omega)]
      unfold mkV
      rw [if_neg (by omega)]
      exact h.2.2.2.2 c hc
  · rw [cs 10 (by decide) (by decide)] at h1
    have ro : onB w i d = false := Bool.eq_false_iff.mpr fun z => by have := onB_i z; omega
    unfold RE
    refine ⟨?_, fun k h3 h4 => ?_⟩
    · rw [u2k _ _ (by omega), mkV_ne (by decide)]; exact (r9 i h1 h2).1
    · rw [u2k _ _ (by omega)]
      by_cases e : k = 9
      · subst e
        rw [mkV_9, if_neg (fun z => by rw [ro] at z; cases z.2)]
        exact (r9 i h1 h2).2 9 h3 h4
      · rw [mkV_ne e]; exact (r9 i h1 h2).2 k h3 h4
/-- the late fees of a day -/
theorem s_fees : ∀ (e k : Nat), k + e = 6 → ∀ (v M : xV) (kp n1 n2 : Nat), RB v (M 1) → e < n1 → e < n2 → ∃ v' M' kp', L_X0_takeLateFees_10 (fun _ v_19 => some v_19) n1 (nI k) v = some v' ∧ (∀ K : Int32 → Int32 → xV → Option (Int32 × xV), L_X8_pass_69 K n2 (nI kp) (nI k) M = K (nI kp') (nI 6) M') ∧ RB v' (M' 1) ∧ kp' ≤ kp + 50000 * e ∧ (∀ c, c ≠ 1 → M' c = M c) ∧ M' 1 0 = M 1 0 := by
  intro e
  induction e with
  | zero =>
    intro k hk v M kp n1 n2 r h1 h2
    obtain ⟨n1, rfl⟩ : ∃ q, n1 = q + 1 := ⟨n1 - 1, by omega⟩
    obtain ⟨n2, rfl⟩ : ∃ q, n2 = q + 1 := ⟨n2 - 1, by omega⟩
    have : k = 6 := by omega
    subst this
    refine ⟨v, M, kp, ?_, fun K => ?_, r, by omega, fun _ _ => rfl, rfl⟩
    · rw [L_X0_takeLateFees_10, if_pos (by decide)]
    · rw [L_X8_pass_69, if_pos (by decide)]
  | succ e ih =>
    intro k hk v M kp n1 n2 r h1 h2
    obtain ⟨n1, rfl⟩ : ∃ q, n1 = q + 1 := ⟨n1 - 1, by omega⟩
    obtain ⟨n2, rfl⟩ : ∃ q, n2 = q + 1 := ⟨n2 - 1, by omega⟩
    have hk6 : k < 6 := by omega
    have c1 : (40 : Int32) + 2 * nI k = nI (40 + 2 * k) := by rw [show (2 : Int32) = nI 2 from rfl, show (40 : Int32) = nI 40 from rfl, pk_mul, nI_add]
    have hd : f_X3_daysLate v k (v 0 0) = some (kL (M 1) k) := daysL r hk6
    have hl : f_X8_lateBy M (nI k) = some (kL (M 1) k) := m_lateBy hk6
    have cl : L_X0_takeLateFees_10 (fun _ v_19 => some v_19) (n1 + 1) (nI k) v = xb (f_X0_hireAt v (M 1 (40 + 2 * k))) fun o_6 => xo o_6 (L_X0_takeLateFees_10 (fun _ v_19 => some v_19) n1 (nI (k + 1)) v) (fun i_8 => xg (i_8 < 12) <| if kL (M 1) k ≤ 0 then L_X0_takeLateFees_10 (fun _ v_19 => some v_19) n1 (nI (k + 1)) v else xb2 (f_X0_takeFromDeposit v i_8 (v 1 6) 5) fun r_14 v_15 => L_X0_takeLateFees_10 (fun _ v_19 => some v_19) n1 (nI (k + 1)) v_15) := by
      rw [L_X0_takeLateFees_10, if_neg (show ¬ (6 : Int32) ≤ nI k from nI_ge (b := 6) hk6 (by decide)), xgi hk6 (by decide)]
      simp only [xls, nI_1, nI_clamp (show k < 2 ^ 31 by omega), hd, xbs, r.key hk6]
    have ml : ∀ K : Int32 → Int32 → xV → Option (Int32 × xV), L_X8_pass_69 K (n2 + 1) (nI kp) (nI k) M = if kL (M 1) k ≤ 0 then L_X8_pass_69 K n2 (nI kp) (nI (k + 1)) M else xb2 (f_X8_takes M (M 1 (40 + 2 * k)) (M 1 7) 5) fun r_26 M_27 => L_X8_pass_69 K n2 (nI kp + r_26) (nI (k + 1)) M_27 := fun K => by
      rw [L_X8_pass_69, if_neg (show ¬ (6 : Int32) ≤ nI k from nI_ge (b := 6) hk6 (by decide)), hl, xbs]
      simp only [xls, nI_1, c1, xgi (show 40 + 2 * k < 820 by omega) (show 820 < 2 ^ 31 by decide), nI_clamp (show 40 + 2 * k < 2 ^ 31 by omega)]
    have go : ∃ v' M' kp', L_X0_takeLateFees_10 (fun _ v_19 => some v_19) n1 (nI (k + 1)) v = some v' ∧ (∀ K : Int32 → Int32 → xV → Option (Int32 × xV), L_X8_pass_69 K n2 (nI kp) (nI (k + 1)) M = K (nI kp') (nI 6) M') ∧ RB v' (M' 1) ∧ kp' ≤ kp + 50000 * e ∧ (∀ c, c ≠ 1 → M' c = M c) ∧ M' 1 0 = M 1 0 := ih (k + 1) (by omega) v M kp n1 n2 r (by omega) (by omega)
    rw [cl]
    rcases r.gk hk6 with q | ⟨i, due, hi, hdue, q1, q2⟩
    · have z : kL (M 1) k = 0 := by unfold kL; rw [if_pos q]
      obtain ⟨v', M', kp', a1, a2, a3, a4, a5, a6⟩ := go
      rw [q, c_hireAt_out r (Or.inl (by decide)), xbs, xo_n]
      refine ⟨v', M', kp', a1, fun K => ?_, a3, by omega, a5, a6⟩
      rw [ml K, z, if_pos (by decide), a2]
    · have h12 := r.m12
      rw [q1, c_hireAt_in r hi, xbs, xo_s, xgp (show i < 12 by omega)]
      by_cases hz : kL (M 1) k ≤ 0
      · obtain ⟨v', M', kp', a1, a2, a3, a4, a5, a6⟩ := go
        rw [if_pos hz]
        refine ⟨v', M', kp', a1, fun K => ?_, a3, by omega, a5, a6⟩
        rw [ml K, if_pos hz, a2]
      · have f7 := r.1.2.2.2.2.2.1
        obtain ⟨t, v1, M1, t1, t2, t3, t4, t5, t6, t7⟩ := s_take r hi (a := cN (M 1) 7) (by omega) (Or.inr rfl) (p3 := 5) rfl
        have v16 : v 1 6 = nI (cN (M 1) 7) := (r.set (j := 6) (by decide)).trans f7.1
        obtain ⟨v', M', kp', a1, a2, a3, a4, a5, a6⟩ := ih (k + 1) (by omega) v1 M1 (kp + t) n1 n2 t4 (by omega) (by omega)
        rw [if_neg hz, v16, t2, xb2s]
        refine ⟨v', M', kp', a1, fun K => ?_, a3, by omega, fun c hc => (a5 c hc).trans (t5 c hc), a6.trans (t6 0 (by omega))⟩
        rw [ml K, if_neg hz, q1, f7.1, t3, xb2s, nI_add, a2]
section
variable {hv : xV} {kv : Nat → xV}
theorem s_days {p1 : Int32} {D : Nat} (hp : p1 = nI D) (hD : D ≤ 60) : ∀ (e k : Nat), k + e = D → ∀ (v M : xV) (x : Int32) (kp n1 n2 : Nat), RB v (M 1) → cN (M 1) 0 + e ≤ 400 → kp + 300000 * e ≤ 100000000 → e < n1 → e < n2 → ∃ x' v' M', L_X7_pass_47 (fun x_16 _ v_18 => some (x_16, v_18, hv, kv)) p1 n1 x (nI k) v = some (x', v', hv, kv) ∧ L_X8_pass_43 (fun x_35 x_36 _ M_38 => if 0 ≤ x_36 then some (x_35, M_38) else some (0, M_38)) p1 n2 x (nI kp) (nI k) M = some (x', M') ∧ RB v' (M' 1) ∧ ∀ c, c ≠ 1 → M' c = M c := by
  subst hp
  intro e
  induction e with
  | zero =>
    intro k hk v M x kp n1 n2 r hd hkp h1 h2
    obtain ⟨n1, rfl⟩ : ∃ q, n1 = q + 1 := ⟨n1 - 1, by omega⟩
    obtain ⟨n2, rfl⟩ : ∃ q, n2 = q + 1 := ⟨n2 - 1, by omega⟩
    have : k = D := by omega
    subst this
    refine ⟨x, v, M, ?_, ?_, r, fun _ _ => rfl⟩
    · rw [L_X7_pass_47, if_pos (nI_le (Nat.le_refl _) (by omega))]
    · rw [L_X8_pass_43, if_pos (nI_le (Nat.le_refl _) (by omega)), if_pos (nI_pos' (by omega))]
  | succ e ih =>
    intro k hk v M x kp n1 n2 r hd hkp h1 h2
    obtain ⟨n1, rfl⟩ : ∃ q, n1 = q + 1 := ⟨n1 - 1, by omega⟩
    obtain ⟨n2, rfl⟩ : ∃ q, n2 = q + 1 := ⟨n2 - 1, by omega⟩
    obtain ⟨d, hdd⟩ : ∃ z, z = cN (M 1) 0 := ⟨_, rfl⟩
    rw [← hdd] at hd
    have hkD : k < D := by omega
    rw [L_X7_pass_47, if_neg (nI_ge hkD (by omega)), L_X8_pass_43, if_neg (nI_ge hkD (by omega))]
    obtain ⟨M1, b1, b2, b3⟩ := m_marks r (fun x_23 _ M_25 => some (x_23, M_25)) hdd
    have eh : f_X8_holdsToday M = some (nI (soN (M 1) d), M1) := b1
    have m10 : M1 1 0 = nI d := by rw [b2, mkW_ne (by omega), r.wd, hdd]
    obtain ⟨N1, hN1⟩ : ∃ z, z = upd2 M1 1 0 (nI (d + 1)) := ⟨_, rfl⟩
    have rd := r.day hdd (by omega)
    have r1 : RB (upd2 (mkV v (M 1) d 12) 0 0 (nI (d + 1))) (N1 1) := by
      rw [hN1, u2r, b2]
      exact rd
    obtain ⟨v2, M2, kp2, a1, a2, a3, a4, a5, a6⟩ := s_fees 6 0 rfl _ N1 kp 100000 100000 r1 (by omega) (by omega)
    have ep : f_X0_passDay v = some (nI (soN (M 1) d), v2) := by
      unfold f_X0_passDay
      rw [c_marks r _ hdd]
      simp only [xls]
      rw [mkV_ne (by decide), r.vd, ← hdd, nI_1]
      unfold f_X0_takeLateFees
      have a1' : L_X0_takeLateFees_10 (fun _ v_19 => some v_19) 100000 0 (upd2 (mkV v (M 1) d 12) 0 0 (nI (d + 1))) = some v2 := a1
      rw [a1', xbs]
    have d2 : cN (M2 1) 0 = d + 1 := cN_of (a6.trans (by rw [hN1, u2s])) (by omega)
    rw [ep, xb2s, eh, xb2s]
    simp only [xls, nI_1, m10]
    rw [← hN1]
    have a2' : ∀ K : Int32 → Int32 → xV → Option (Int32 × xV), L_X8_pass_69 K 100000 (nI kp) 0 N1 = K (nI kp2) (nI 6) M2 := a2
    rw [a2']
    obtain ⟨x', v', M', c1, c2, c3, c4⟩ := ih (k + 1) (by omega) v2 M2 (x + nI (soN (M 1) d)) kp2 n1 n2 a3 (by omega) (by omega) (by omega) (by omega)
    refine ⟨x', v', M', c1, c2, c3, fun c hc => ?_⟩
    rw [c4 c hc, a5 c hc, hN1, u2k _ _ hc, b3 c hc]
theorem s_pass {v M : xV} (r : RB v (M 1)) (h : HR hv kv M) (dv : xV) (p1 : Int32) : Sm4 M (f_X7_pass dv v hv kv p1) (f_X8_pass M p1) := by
  have hd400 := r.d400
  unfold f_X7_pass f_X8_pass
  rcases m_rng 1 60 p1 (A := 1) (B := 60) rfl rfl (by decide) (by decide) with ⟨D, h1, h2, rfl, e⟩ | ⟨hq, e⟩
  · rw [e, xbs, i10, if_neg (show ¬ nI D < (1 : Int32) from nI_nlt (b := 1) h1 (by omega)), if_pos (show nI D ≤ (60 : Int32) from nI_le (b := 60) h2 (by decide)), r.vd, r.wd, nI_add]
    by_cases hl : cN (M 1) 0 + D ≤ 400
    · rw [if_pos (show nI (cN (M 1) 0 + D) ≤ (400 : Int32) from nI_le (b := 400) hl (by decide)), if_pos (show nI (cN (M 1) 0 + D) ≤ (400 : Int32) from nI_le (b := 400) hl (by decide))]
      obtain ⟨hv', kv', M1, e1, e2, e3, kp⟩ := s_save r h
      have r' : RB v (M1 1) := by rw [kp.1]; exact r
      obtain ⟨x', v', M', c1, c2, c3, c4⟩ := s_days (hv := hv') (kv := kv') (p1 := nI D) rfl h2 D 0 (by omega) v M1 0 0 100000 100000 r' (by rw [kp.1]; exact hl) (by omega) (by omega) (by omega)
      rw [e1, xb2s, e2, xbs]
      have c1' : L_X7_pass_47 (fun x_16 _ v_18 => some (x_16, v_18, hv', kv')) (nI D) 100000 0 0 v = some (x', v', hv', kv') := c1
      have c2' : L_X8_pass_43 (fun x_35 x_36 _ M_38 => if 0 ≤ x_36 then some (x_35, M_38) else some (0, M_38)) (nI D) 100000 0 0 0 M1 = some (x', M') := c2
      rw [c1', c2']
      exact Sm4.fin kp e3 c3 c4 rfl
    · rw [if_neg (show ¬ nI (cN (M 1) 0 + D) ≤ (400 : Int32) from nI_ge (b := cN (M 1) 0 + D) (a := 400) (by omega) (by omega)), if_neg (show ¬ nI (cN (M 1) 0 + D) ≤ (400 : Int32) from nI_ge (b := cN (M 1) 0 + D) (a := 400) (by omega) (by omega))]
      exact Sm4.stay r h
  · rw [e, xbs, i00]
    rcases hq with hq | hq
    · rw [if_pos (show p1 < (1 : Int32) from hq)]
      exact Sm4.stay r h
    · by_cases h0 : p1 < 1
      · rw [if_pos h0]
        exact Sm4.stay r h
      · rw [if_neg h0, if_neg (show ¬ p1 ≤ (60 : Int32) from (fa_of_lt hq).2.1)]
        exact Sm4.stay r h
end
