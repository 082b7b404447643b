/-! ===== PURE 11: calls that change a little ===== -/
def Sm4 (M : xV) (x : Option (Int32 × xV × xV × (Nat → xV))) (y : Option (Int32 × xV)) : Prop := ∃ a v' hv' kv' M', x = some (a, v', hv', kv') ∧ y = some (a, M') ∧ RB v' (M' 1) ∧ HR hv' kv' M' ∧ M' 4 = M 4 ∧ ∀ j, j ≠ 3 → M' 0 j = M 0 j
theorem Sm4.stay {a : Int32} {v hv M : xV} {kv : Nat → xV} (r : RB v (M 1)) (h : HR hv kv M) : Sm4 M (some (a, v, hv, kv)) (some (a, M)) := ⟨a, v, hv, kv, M, rfl, rfl, r, h, rfl, fun _ _ => rfl⟩
theorem Sm4.fin {a b : Int32} {v' hv' M M1 M2 : xV} {kv' : Nat → xV} (k : Kept M M1) (h : HR hv' kv' M1) (r : RB v' (M2 1)) (e : ∀ c, c ≠ 1 → M2 c = M1 c) (hab : a = b) : Sm4 M (some (a, v', hv', kv')) (some (b, M2)) := by
  subst hab
  refine ⟨a, v', hv', kv', M2, rfl, rfl, r, h.cong (by rw [e 0 (by decide)]) (e 2 (by decide)), (e 4 (by decide)).trans k.2.2.1, fun j hj => ?_⟩
  rw [e 0 (by decide)]
  exact k.2.2.2 j hj
theorem u2c (v : xV) {k k' : Nat} (h : k ≠ k') (j j' : Nat) (x y : Int32) : upd2 (upd2 v k j x) k' j' y = upd2 (upd2 v k' j' y) k j x := by
  funext a b
  simp only [u2e]
  by_cases h1 : a = k ∧ b = j
  · have h2 : ¬ (a = k' ∧ b = j') := fun z => h (h1.1.symm.trans z.1)
    simp only [if_pos h1, if_neg h2]
  · simp only [if_neg h1]
section
variable {v : xV} {w : Nat → Int32}
theorem c_credit (r : RB v w) {b q : Nat} (hb : b < cN w 9) (hq : q < 9) (y : Int32) {p1 p3 : Int32} (hp1 : p1 = nI b) (hp : p3 = nI q) : f_X0_credit v p1 y p3 = some (upd2 (upd2 v 4 b (v 4 b + y)) 2 q (v 2 q + y)) := by
  subst hp hp1
  have hh := r.h10
  have xb10 : xin (nI b) 10 := nI_in (by omega) (by decide)
  have xq9 : xin (nI q) 9 := nI_in hq (by decide)
  unfold f_X0_credit
  rw [c_isHirer_in r hb, xbs, i10, if_neg (nI_pos (by omega)), if_neg (show ¬ (9 : Int32) ≤ nI q from nI_ge (b := 9) hq (by decide))]
  simp only [xgp xb10, xgp xq9, xls, nI_clamp (show b < 2 ^ 31 by omega), nI_clamp (show q < 2 ^ 31 by omega), u2k _ _ (show (2 : Nat) ≠ 4 by decide)]
theorem c_charge (r : RB v w) {b q : Nat} (hb : b < cN w 9) (hq : q < 9) (y : Int32) {p1 p3 : Int32} (hp1 : p1 = nI b) (hp : p3 = nI q) : f_X0_charge v p1 y p3 = some (upd2 (upd2 v 3 b (v 3 b + y)) 2 q (v 2 q + y)) := by
  subst hp hp1
  have hh := r.h10
  have xb10 : xin (nI b) 10 := nI_in (by omega) (by decide)
  have xq9 : xin (nI q) 9 := nI_in hq (by decide)
  unfold f_X0_charge
  rw [c_isHirer_in r hb, xbs, i10, if_neg (nI_pos (by omega)), if_neg (show ¬ (9 : Int32) ≤ nI q from nI_ge (b := 9) hq (by decide))]
  simp only [xgp xb10, xgp xq9, xls, nI_clamp (show b < 2 ^ 31 by omega), nI_clamp (show q < 2 ^ 31 by omega), u2k _ _ (show (2 : Nat) ≠ 3 by decide)]
theorem credit_RB (r : RB v w) {b q : Nat} (hb : b < 10) (hq : q < 9) (y : Int32) : RB (upd2 (upd2 v 4 b (v 4 b + y)) 2 q (v 2 q + y)) (upd (upd w (20 + 2 * b + 1) (w (20 + 2 * b + 1) + y)) (11 + q) (w (11 + q) + y)) := by
  rw [r.acc hq, r.pd hb]
  exact (r.pdS hb _).accS hq _
theorem charge_RB (r : RB v w) {b q : Nat} (hb : b < 10) (hq : q < 9) (y : Int32) : RB (upd2 (upd2 v 3 b (v 3 b + y)) 2 q (v 2 q + y)) (upd (upd w (20 + 2 * b) (w (20 + 2 * b) + y)) (11 + q) (w (11 + q) + y)) := by
  rw [r.acc hq, r.ch hb]
  exact (r.chS hb _).accS hq _
end
theorem m_pays (M : xV) {b : Nat} (hb : b < 10) (y : Int32) {p1 : Int32} (hp : p1 = nI b) : f_X8_pays M p1 y = some (upd2 M 1 (20 + 2 * b + 1) (M 1 (20 + 2 * b + 1) + y)) := by
  subst hp
  unfold f_X8_pays
  rw [show (20 : Int32) + 2 * nI b + 1 = nI (20 + 2 * b + 1) by rw [show (2 : Int32) = nI 2 from rfl, show (20 : Int32) = nI 20 from rfl, pk_mul, nI_add, nI_1], xgi (by omega) (by decide), xgi (by omega) (by decide), nI_clamp (by omega), xls]
theorem m_charges (M : xV) {b : Nat} (hb : b < 10) (y : Int32) {p1 : Int32} (hp : p1 = nI b) : f_X8_charges M p1 y = some (upd2 M 1 (20 + 2 * b) (M 1 (20 + 2 * b) + y)) := by
  subst hp
  unfold f_X8_charges
  rw [show (20 : Int32) + 2 * nI b = nI (20 + 2 * b) by rw [show (2 : Int32) = nI 2 from rfl, show (20 : Int32) = nI 20 from rfl, pk_mul, nI_add], xgi (by omega) (by decide), xgi (by omega) (by decide), nI_clamp (by omega), xls]
section
variable {v M hv : xV} {kv : Nat → xV}
theorem s_addHirer (r : RB v (M 1)) (h : HR hv kv M) (dv : xV) : Sm4 M (f_X7_addHirer dv v hv kv) (f_X8_addHirer M) := by
  have hh := r.h10
  unfold f_X7_addHirer f_X8_addHirer
  rw [r.vh, r.wh]
  by_cases hn : cN (M 1) 9 < 10
  · rw [if_pos (show nI (cN (M 1) 9) < (10 : Int32) from nI_lt (b := 10) hn (by decide)), if_neg (show ¬ nI (cN (M 1) 9) = (10 : Int32) from ne_lit (b := 10) (by omega) (by omega) (by decide))]
    obtain ⟨hv', kv', M', e1, e2, e3, k⟩ := s_save r h
    rw [e1, xb2s, e2, xbs, xls, xls, k.1, r.wh, nI_1, u2s, u2s, nI_pred]
    refine Sm4.fin k e3 ?_ (fun c hc => by simp [upd2, hc]) rfl
    rw [u2r, k.1]
    have e9 : upd (M 1) 9 (nI (cN (M 1) 9 + 1)) 9 = nI (cN (M 1) 9 + 1) := upp _ _ _
    have c9 : cN (upd (M 1) 9 (nI (cN (M 1) 9 + 1))) 9 = cN (M 1) 9 + 1 := cN_of e9 (by omega)
    have s : ∀ c, c ≠ 9 → upd (M 1) 9 (nI (cN (M 1) 9 + 1)) c = M 1 c := fun c hc => upn _ _ hc
    refine r.heads (fun c hc => s c (by omega)) (fun k hk => u2k _ _ (by omega)) (u2j _ _ (by decide)) (u2j _ _ (by decide)) (by rw [u2s, e9]) (by rw [c9, e9]) (by rw [c9]; omega) (by rw [c9]; omega) (fun j hj => ?_) ?_ ?_ ?_ ?_
    · rw [u2k _ _ (by decide), s _ (by omega)]; exact r.set hj
    · rw [s 5 (by decide), cN_cong (s 5 (by decide))]; exact r.1.2.2.2.1
    · rw [s 6 (by decide), cN_cong (s 6 (by decide))]; exact r.1.2.2.2.2.1
    · rw [s 7 (by decide), cN_cong (s 7 (by decide))]; exact r.1.2.2.2.2.2.1
    · rw [s 8 (by decide), cN_cong (s 8 (by decide))]; exact r.1.2.2.2.2.2.2.1
  · rw [if_neg (show ¬ nI (cN (M 1) 9) < (10 : Int32) from nI_nlt (b := 10) (by omega) (by omega)), if_pos (show nI (cN (M 1) 9) = (10 : Int32) by rw [show cN (M 1) 9 = 10 by omega]; rfl)]
    exact Sm4.stay r h
theorem s_pay (r : RB v (M 1)) (h : HR hv kv M) (dv : xV) (p1 p2 : Int32) : Sm4 M (f_X7_pay dv v hv kv p1 p2) (f_X8_pay M p1 p2) := by
  unfold f_X7_pay f_X8_pay
  rcases hirer_or r p1 with ⟨j, hj, hj10, rfl, e1, e2⟩ | ⟨e1, e2⟩
  · have x1 : xin (nI j) 10 := nI_in hj10 (by decide)
    have c1 : (20 : Int32) + 2 * nI j = nI (20 + 2 * j) := by rw [show (2 : Int32) = nI 2 from rfl, show (20 : Int32) = nI 20 from rfl, pk_mul, nI_add]
    rw [e1, xbs, i10, e2, xbs, i10]
    rcases m_rng 1 1000000 p2 (A := 1) (B := 1000000) rfl rfl (by decide) (by decide) with ⟨q, h1, h2, rfl, e⟩ | ⟨hq, e⟩
    · rw [e, xbs, i10, if_neg (show ¬ nI q < (1 : Int32) from nI_nlt (b := 1) h1 (by omega)), if_pos (show nI q ≤ (1000000 : Int32) from nI_le (b := 1000000) h2 (by decide))]
      simp only [xgp x1, c1, nI_1, xgi (show 20 + 2 * j < 820 by omega) (show 820 < 2 ^ 31 by decide), xgi (show 20 + 2 * j + 1 < 820 by omega) (show 820 < 2 ^ 31 by decide), nI_clamp (show j < 2 ^ 31 by omega), nI_clamp (show 20 + 2 * j < 2 ^ 31 by omega), nI_clamp (show 20 + 2 * j + 1 < 2 ^ 31 by omega), r.pd hj10]
      by_cases hl : M 1 (20 + 2 * j + 1) + nI q ≤ 100000000
      · rw [if_pos hl, if_pos hl]
        obtain ⟨hv', kv', M', e3, e4, e5, k⟩ := s_save r h
        have r' : RB v (M' 1) := by rw [k.1]; exact r
        have hj' : j < cN (M' 1) 9 := by rw [k.1]; exact hj
        rw [e3, xb2s, e4, xbs, c_credit r' hj' (q := 8) (p3 := 8) (by decide) _ rfl rfl, xbs, m_pays _ hj10 _ rfl, xbs, xls]
        have rc := credit_RB r' hj10 (q := 8) (by decide) (nI q)
        have es : upd (upd (M' 1) (20 + 2 * j + 1) (M' 1 (20 + 2 * j + 1) + nI q)) 19 (M' 1 19 + nI q) = upd2 (upd2 M' 1 (20 + 2 * j + 1) (M' 1 (20 + 2 * j + 1) + nI q)) 1 19 (upd2 M' 1 (20 + 2 * j + 1) (M' 1 (20 + 2 * j + 1) + nI q) 1 19 + nI q) 1 := by
          rw [u2r, u2r, upn _ _ (by omega)]
        rw [show 11 + 8 = 19 from rfl, es] at rc
        refine Sm4.fin k e5 rc (fun c hc => by simp [upd2, hc]) ?_
        have q1 := rc.ch hj10
        have q2 := rc.pd hj10
        rw [q1, q2]
      · rw [if_neg hl, if_neg hl]
        exact Sm4.stay r h
    · rw [e, xbs, i00]
      rcases hq with hq | hq
      · rw [if_pos (show p2 < (1 : Int32) from hq)]
        exact Sm4.stay r h
      · by_cases h0 : p2 < 1
        · rw [if_pos h0]
          exact Sm4.stay r h
        · rw [if_neg h0, if_neg (show ¬ p2 ≤ (1000000 : Int32) from (fa_of_lt hq).2.1)]
          exact Sm4.stay r h
  · rw [e1, xbs, i00, e2, xbs, i00]
    exact Sm4.stay r h
theorem s_cancel (r : RB v (M 1)) (h : HR hv kv M) (dv : xV) (p1 : Int32) : Sm4 M (f_X7_cancel dv v hv kv p1) (f_X8_cancel M p1) := by
  have h12 := r.m12
  unfold f_X7_cancel f_X8_cancel
  rcases sess_or r p1 with ⟨i, k, hi, hi12, hk, hk20, rfl, e1, e2⟩ | ⟨e1, e2⟩
  · have g := r.g hi
    obtain ⟨gk1, gk2, -⟩ := g.2.2.2.2.2.2.2.2.2.2.2.2.2.2.2.2.2 k hk
    rw [e1, xbs, xo_s, xgp hi12, e2, xbs, i10, xls, nn_rem (by omega), nn_div (by omega), show (20 * i + k) / 20 = i by omega, show (20 * i + k) % 20 = k by omega, c_stateOf r hi hk, xbs, m_stateOf hi12 hk20, gk1, xbs]
    by_cases hs : hN (M 1) i (12 + k) = 0
    · rw [if_pos (by rw [hs]; rfl), if_pos (by rw [hs]; rfl)]
      obtain ⟨hv', kv', M', e3, e4, e5, kp⟩ := s_save r h
      have r' : RB v (M' 1) := by rw [kp.1]; exact r
      have g' : GH (M' 1) i := by rw [kp.1]; exact g
      have hi' : i < cN (M' 1) 10 := by rw [kp.1]; exact hi
      have hk' : k < hN (M' 1) i 4 := by rw [kp.1]; exact hk
      have hs' : hN (M' 1) i (12 + k) = 0 := by rw [kp.1]; exact hs
      have hb9 := g'.2.1
      have hb10 : hN (M' 1) i 0 < 10 := Nat.lt_of_lt_of_le hb9 r'.h10
      have rS := r'.canS hi' hk' hs'
      have e0 : upd (M' 1) (52 + 64 * i + (12 + k)) 2 (52 + 64 * i + 0) = nI (hN (M' 1) i 0) := by rw [upn _ _ (by omega)]; exact g'.1 0 (by decide)
      have hb9' : hN (M' 1) i 0 < cN (upd (M' 1) (52 + 64 * i + (12 + k)) 2) 9 := by rw [cN_cong (upn _ _ (by omega))]; exact hb9
      have v1 : upd2 v (6 + 2 * i) 10 (v (6 + 2 * i) 10 ||| ((1 : Int32) <<< (nI k &&& 31))) (6 + 2 * i) 1 = nI (hN (M' 1) i 0) := by
        rw [u2j _ _ (by decide), (r'.h hi').1.1]; exact g'.1 0 (by decide)
      rw [e3, xb2s, e4, xbs, c_refundOf r' hi', xbs, xls, c_credit rS hb9' (q := 1) (p3 := 1) (by decide) _ v1 rfl, xbs]
      rw [m_refundOf hi12 hk20 g', xbs, xls, show (12 : Int32) + nI k = nI (12 + k) from nI_add 12 k, m_at, xbs, xgi (by omega) (by decide), xls, nI_clamp (by omega), show f_X8_of (upd2 M' 1 (52 + 64 * i + (12 + k)) 2) (nI i) 0 = some (nI (hN (M' 1) i 0)) from (m_of (k := 0) (by omega)).trans (by rw [u2r, e0]), xbs, m_pays _ hb10 _ rfl, xbs, xls]
      have rc := credit_RB rS hb10 (q := 1) (by decide) (rfd2 (M' 1) i k)
      refine Sm4.fin kp e5 ?_ (fun c hc => by simp [upd2, hc]) rfl
      rw [u2r, u2r, u2r, upn (j := 12) _ _ (by omega)]
      exact rc
    · rw [if_neg (show ¬ nI (hN (M 1) i (12 + k)) = (0 : Int32) from ne_lit (b := 0) hs (by omega) (by decide)), if_neg (show ¬ nI (hN (M 1) i (12 + k)) = (0 : Int32) from ne_lit (b := 0) hs (by omega) (by decide))]
      exact Sm4.stay r h
  · rw [e1, xbs, xo_n, e2, xbs, i00]
    exact Sm4.stay r h
theorem s_bringBack (r : RB v (M 1)) (h : HR hv kv M) (dv : xV) (p1 : Int32) : Sm4 M (f_X7_bringBack dv v hv kv p1) (f_X8_bringBack M p1) := by
  unfold f_X7_bringBack f_X8_bringBack
  rcases key_or v p1 with ⟨j, hj, rfl, e1, e2⟩ | ⟨e1, e2⟩
  · have c1 : (40 : Int32) + 2 * nI j = nI (40 + 2 * j) := by rw [show (2 : Int32) = nI 2 from rfl, show (40 : Int32) = nI 40 from rfl, pk_mul, nI_add]
    rw [e1, xbs, xo_s, xgp hj, e2, xbs, i10]
    simp only [c1, nI_1, xgi (show 40 + 2 * j < 820 by omega) (show 820 < 2 ^ 31 by decide), xgi (show 40 + 2 * j + 1 < 820 by omega) (show 820 < 2 ^ 31 by decide), nI_clamp (show 40 + 2 * j < 2 ^ 31 by omega), nI_clamp (show 40 + 2 * j + 1 < 2 ^ 31 by omega), r.key hj]
    by_cases hk : M 1 (40 + 2 * j) = -1
    · rw [if_pos hk, if_pos hk]
      exact Sm4.stay r h
    · rw [if_neg hk, if_neg hk]
      obtain ⟨hv', kv', M', e3, e4, e5, kp⟩ := s_save r h
      have r' : RB v (M' 1) := by rw [kp.1]; exact r
      rw [e3, xb2s, e4, xbs, daysL r' hj, xbs, xls, m_lateBy hj, xbs, xls, xls]
      refine Sm4.fin kp e5 ?_ (fun c hc => by simp [upd2, hc]) rfl
      rw [u2r, u2r]
      have s : ∀ c, c ≠ 40 + 2 * j → c ≠ 40 + 2 * j + 1 → upd (upd (M' 1) (40 + 2 * j) (-1)) (40 + 2 * j + 1) 0 c = M' 1 c := fun c h1 h2 => by rw [upn _ _ h2, upn _ _ h1]
      have s0 : upd (upd (M' 1) (40 + 2 * j) (-1)) (40 + 2 * j + 1) 0 (40 + 2 * j) = -1 := by rw [upn _ _ (by omega), upp]
      refine r'.keys (fun c hc => s c (by omega) (by omega)) (fun k hk => u2k _ _ (by omega)) (fun q hq => u2e _ _ _ _ _ _ |>.trans (if_neg (by omega))) (fun q hq => ?_) (fun q hq => ?_)
      · by_cases e : q = j
        · subst e; exact Or.inl s0
        · exact (r'.gk hq).cong (s _ (by omega) (by omega)) (s _ (by omega) (by omega)) (by rw [cN_cong (s 10 (by omega) (by omega))]; exact Nat.le_refl _)
      · by_cases e : q = j
        · subst e
          rw [s0, u2s]
          exact ⟨rfl, fun z => absurd rfl z⟩
        · rw [s _ (by omega) (by omega), s _ (by omega) (by omega), u2k _ _ (by omega)]
          exact ⟨r'.key hq, r'.due hq⟩
  · rw [e1, xbs, xo_n, e2, xbs, i00]
    exact Sm4.stay r h
/-- the last planned session below k -/
def lpS (w : Nat → Int32) (i : Nat) : Nat → Option Nat
  | 0 => none
  | k + 1 => if hN w i (12 + k) = 0 then some k else lpS w i k
theorem lpS_s (w : Nat → Int32) (i k : Nat) : lpS w i (k + 1) = if hN w i (12 + k) = 0 then some k else lpS w i k := rfl
theorem lpS_lt {w : Nat → Int32} {i : Nat} : ∀ {n k : Nat}, lpS w i n = some k → k < n
  | 0, k, h => by cases h
  | n + 1, k, h => by
    rw [lpS_s] at h
    by_cases c : hN w i (12 + n) = 0
    · rw [if_pos c] at h
      cases h
      exact Nat.lt_succ_self _
    · rw [if_neg c] at h
      exact Nat.lt_succ_of_lt (lpS_lt h)
def oI (o : Option Nat) : Int32 := match o with
  | none => -1
  | some k => nI k
theorem oI_n : oI none = -1 := rfl
theorem oI_s (k : Nat) : oI (some k) = nI k := rfl
theorem c_lastP (r : RB v (M 1)) {i : Nat} (hi : i < cN (M 1) 10) : f_X1_lastPlannedDay v i = some (match lpS (M 1) i (hN (M 1) i 4) with | none => -1 | some k => nI (hN (M 1) i 5 + k * hN (M 1) i 6)) := by
  have g := r.g hi
  have h20 := g.2.2.2.2.2.2.2.1
  have main : ∀ k n, k < n → k ≤ hN (M 1) i 4 → L_X1_lastPlannedDay_7 (fun _ => some (-1)) v i n (nI k - 1) = some (match lpS (M 1) i k with | none => -1 | some k => nI (hN (M 1) i 5 + k * hN (M 1) i 6)) := by
    intro k
    induction k with
    | zero =>
      intro n hn _
      obtain ⟨n, rfl⟩ : ∃ z, n = z + 1 := ⟨n - 1, by omega⟩
      rw [L_X1_lastPlannedDay_7, if_pos (by decide)]
      rfl
    | succ k ih =>
      intro n hn hk
      obtain ⟨n, rfl⟩ : ∃ z, n = z + 1 := ⟨n - 1, by omega⟩
      obtain ⟨-, gk2, -⟩ := g.2.2.2.2.2.2.2.2.2.2.2.2.2.2.2.2.2 k hk
      rw [nI_pred, L_X1_lastPlannedDay_7, if_neg (nI_pos (by omega)), c_stateOf r hi hk, xbs, lpS_s]
      by_cases h : hN (M 1) i (12 + k) = 0
      · rw [if_pos (by rw [h]; rfl), if_pos h, c_dayOf r hi, xbs]
      · rw [if_neg (show ¬ nI (hN (M 1) i (12 + k)) = (0 : Int32) from ne_lit (b := 0) h (by omega) (by decide)), if_neg h, xls, show nI k + (-1) = nI k - 1 from (Int32.sub_eq_add_neg _ _).symm]
        exact ih n (by omega) (by omega)
  unfold f_X1_lastPlannedDay
  rw [(r.h hi).1.2.2.2.2.1, g.1 4 (by decide), xls]
  exact main _ _ (by omega) (Nat.le_refl _)
theorem m_lastP (r : RB v (M 1)) {i : Nat} (hi : i < cN (M 1) 10) : f_X8_lastPlanned M (nI i) = some (oI (lpS (M 1) i (hN (M 1) i 4))) := by
  have g := r.g hi
  have h12 := r.m12
  have h20 := g.2.2.2.2.2.2.2.1
  unfold f_X8_lastPlanned
  refine xup0 (fun n k => L_X8_lastPlanned_4 _ M (nI i) n (oI (lpS (M 1) i k)) (nI k)) _ (hN (M 1) i 4) (fun n k hk => ?_) (fun n => ?_) (n := 100000) (by omega)
  · obtain ⟨gk1, gk2, -⟩ := g.2.2.2.2.2.2.2.2.2.2.2.2.2.2.2.2.2 k hk
    rw [L_X8_lastPlanned_4, show f_X8_of M (nI i) 4 = some (nI (hN (M 1) i 4)) from (m_of (k := 4) (by omega)).trans (by rw [g.1 4 (by decide)]), xbs, if_neg (nI_ge hk (by omega)), show (12 : Int32) + nI k = nI (12 + k) from nI_add 12 k, m_of (by omega), gk1, xbs, lpS_s, xls, xls, nI_1]
    by_cases h : hN (M 1) i (12 + k) = 0
    · rw [if_pos (by rw [h]; rfl), if_pos h]
      rfl
    · rw [if_neg (show ¬ nI (hN (M 1) i (12 + k)) = (0 : Int32) from ne_lit (b := 0) h (by omega) (by decide)), if_neg h]
  · rw [L_X8_lastPlanned_4, show f_X8_of M (nI i) 4 = some (nI (hN (M 1) i 4)) from (m_of (k := 4) (by omega)).trans (by rw [g.1 4 (by decide)]), xbs, if_pos (nI_le (Nat.le_refl _) (by omega))]
theorem s_lend (r : RB v (M 1)) (h : HR hv kv M) (dv : xV) (p1 p2 : Int32) : Sm4 M (f_X7_lend dv v hv kv p1 p2) (f_X8_lend M p1 p2) := by
  have h12 := r.m12
  unfold f_X7_lend f_X8_lend
  rcases key_or v p1 with ⟨j, hj, rfl, e1, e2⟩ | ⟨e1, e2⟩
  · rw [e1, xbs, xo_s, xgp hj, e2, xbs, i10]
    rcases hire_or r p2 with ⟨i, hi, hi12, rfl, e3, e4⟩ | ⟨e3, e4⟩
    · have g := r.g hi
      have c1 : (40 : Int32) + 2 * nI j = nI (40 + 2 * j) := by rw [show (2 : Int32) = nI 2 from rfl, show (40 : Int32) = nI 40 from rfl, pk_mul, nI_add]
      rw [e3, xbs, xo_s, xgp hi12, e4, xbs, i10, c_lastP r hi, xbs, m_lastP r hi, xbs]
      simp only [c1, nI_1, xgi (show 40 + 2 * j < 820 by omega) (show 820 < 2 ^ 31 by decide), xgi (show 40 + 2 * j + 1 < 820 by omega) (show 820 < 2 ^ 31 by decide), nI_clamp (show 40 + 2 * j < 2 ^ 31 by omega), nI_clamp (show 40 + 2 * j + 1 < 2 ^ 31 by omega), r.key hj]
      by_cases hk : M 1 (40 + 2 * j) = -1
      · rw [if_pos hk, if_pos hk]
        cases hl : lpS (M 1) i (hN (M 1) i 4) with
        | none =>
          dsimp only
          rw [oI_n, if_pos rfl, if_pos rfl]
          exact Sm4.stay r h
        | some k =>
          have hkn := lpS_lt hl
          have h20 := g.2.2.2.2.2.2.2.1
          have h364 := g.2.2.2.2.2.2.2.2.2.2.1
          have hkp : hN (M 1) i 5 + k * hN (M 1) i 6 ≤ 364 := by
            have : k * hN (M 1) i 6 ≤ (hN (M 1) i 4 - 1) * hN (M 1) i 6 := Nat.mul_le_mul_right _ (by omega)
            omega
          dsimp only
          rw [oI_s, if_neg (fun z => nI_m1 (by omega) z.symm : ¬ nI (hN (M 1) i 5 + k * hN (M 1) i 6) = -1), if_neg (fun z => nI_m1 (by omega) z.symm : ¬ nI k = -1), show f_X8_of M (nI i) 1 = some (M 1 (52 + 64 * i + 1)) from m_of (k := 1) (by omega), xbs, (r.h hi).1.2.1, r.room hj, show nI j - nI j / 3 * 3 = nI (j % 3) from pk_rem (by omega) (by decide) (by decide)]
          by_cases hr : ((M 1 (52 + 64 * i + 1) >>> (nI (j % 3) &&& 31)) &&& 1) = 0
          · rw [if_pos hr, if_pos hr]
            exact Sm4.stay r h
          · rw [if_neg hr, if_neg hr]
            obtain ⟨hv', kv', M', e5, e6, e7, kp⟩ := s_save r h
            have r' : RB v (M' 1) := by rw [kp.1]; exact r
            have hi' : i < cN (M' 1) 10 := by rw [kp.1]; exact hi
            have g' : GH (upd2 M' 1 (40 + 2 * j) (nI i) 1) i := by
              rw [u2r, kp.1]
              exact g.cong (fun k hk => upn _ _ (by omega)) (by rw [cN_cong (upn _ _ (by omega))]; exact Nat.le_refl _) (by rw [cN_cong (upn _ _ (by omega))]; exact Nat.le_refl _)
            have e8 : v 1 7 = nI (cN (M 1) 8) := (r.set (j := 7) (by decide)).trans r.1.2.2.2.2.2.2.1.1
            have e30 := r.1.2.2.2.2.2.2.1.2
            have m8 : upd2 M' 1 (40 + 2 * j) (nI i) 1 8 = nI (cN (M 1) 8) := by rw [u2r, upn _ _ (by omega), kp.1]; exact r.1.2.2.2.2.2.2.1.1
            have d5 : hN (upd2 M' 1 (40 + 2 * j) (nI i) 1) i 5 = hN (M 1) i 5 := by rw [← kp.1]; exact hN_cong (by rw [u2r, upn _ _ (by omega)])
            have d6 : hN (upd2 M' 1 (40 + 2 * j) (nI i) 1) i 6 = hN (M 1) i 6 := by rw [← kp.1]; exact hN_cong (by rw [u2r, upn _ _ (by omega)])
            rw [e5, xb2s, e6, xbs, xls, xls, xls, show (20 : Int32) * nI i + nI k = nI (20 * i + k) by rw [show (20 : Int32) = nI 20 from rfl, pk_mul, nI_add], m_dayOf hi12 (by omega) g', xbs, m8, d5, d6, nI_add, xls, u2k _ _ (show (1 : Nat) ≠ 31 + j by omega), e8, nI_add]
            refine Sm4.fin kp e7 ?_ (fun c hc => by simp [upd2, hc]) (by rw [u2s, u2s])
            rw [u2r, u2r]
            generalize hd : hN (M 1) i 5 + k * hN (M 1) i 6 + cN (M 1) 8 = due
            have hdue : due ≤ 394 := by omega
            have s : ∀ c, c ≠ 40 + 2 * j → c ≠ 40 + 2 * j + 1 → upd (upd (M' 1) (40 + 2 * j) (nI i)) (40 + 2 * j + 1) (nI due) c = M' 1 c := fun c h1 h2 => by rw [upn _ _ h2, upn _ _ h1]
            have s0 : upd (upd (M' 1) (40 + 2 * j) (nI i)) (40 + 2 * j + 1) (nI due) (40 + 2 * j) = nI i := by rw [upn _ _ (by omega), upp]
            have s1 : upd (upd (M' 1) (40 + 2 * j) (nI i)) (40 + 2 * j + 1) (nI due) (40 + 2 * j + 1) = nI due := upp _ _ _
            have c10 : cN (upd (upd (M' 1) (40 + 2 * j) (nI i)) (40 + 2 * j + 1) (nI due)) 10 = cN (M' 1) 10 := cN_cong (s 10 (by omega) (by omega))
            refine r'.keys (fun c hc => s c (by omega) (by omega)) (fun k hk => by rw [u2k _ _ (by omega), u2k _ _ (by omega)]) (fun q hq => ?_) (fun q hq => ?_) (fun q hq => ?_)
            · rw [u2e, if_neg (by omega), u2e, if_neg (by omega)]
            · by_cases e : q = j
              · subst e; exact Or.inr ⟨i, due, by rw [c10]; exact hi', hdue, s0, s1⟩
              · exact (r'.gk hq).cong (s _ (by omega) (by omega)) (s _ (by omega) (by omega)) (by rw [c10]; exact Nat.le_refl _)
            · by_cases e : q = j
              · subst e
                rw [s0, s1, u2s, u2j _ _ (by decide), u2s]
                exact ⟨rfl, fun _ => rfl⟩
              · rw [s _ (by omega) (by omega), s _ (by omega) (by omega), u2k _ _ (by omega), u2k _ _ (by omega)]
                exact ⟨r'.key hq, r'.due hq⟩
      · rw [if_neg hk, if_neg hk]
        exact Sm4.stay r h
    · rw [e3, xbs, xo_n, e4, xbs, i00]
      exact Sm4.stay r h
  · rw [e1, xbs, xo_n, e2, xbs, i00]
    cases hq : f_X0_hireAt v p2 with
    | none =>
      rcases hire_or r p2 with ⟨i, hi, hi12, -, e3, e4⟩ | ⟨e3, e4⟩
      · rw [hq] at e3; cases e3
      · rw [hq] at e3; cases e3
    | some o =>
      rw [xbs]
      cases o with
      | none => exact Sm4.stay r h
      | some i =>
        rcases hire_or r p2 with ⟨i', hi, hi12, -, e3, e4⟩ | ⟨e3, e4⟩
        · rw [hq] at e3
          cases e3
          rw [xo_s, xgp hi12]
          exact Sm4.stay r h
        · rw [hq] at e3; cases e3
theorem s_settle (r : RB v (M 1)) (h : HR hv kv M) (dv : xV) (p1 : Int32) : Sm4 M (f_X7_settle dv v hv kv p1) (f_X8_settle M p1) := by
  have h12 := r.m12
  unfold f_X7_settle f_X8_settle
  rcases hire_or r p1 with ⟨i, hi, hi12, rfl, e1, e2⟩ | ⟨e1, e2⟩
  · have g := r.g hi
    have o10 : f_X8_of M (nI i) 10 = some (M 1 (52 + 64 * i + 10)) := m_of (k := 10) (by omega)
    rw [e1, xbs, xo_s, xgp hi12, e2, xbs, i10, o10, xbs, (r.h hi).2.1.2.2, c_planned r hi, xbs, c_keysFor r, xbs, m_manyOf (s := 0) (p2 := 0) rfl (by decide) hi12 g, xbs, m_keysOf, xbs]
    rcases g.2.2.2.2.2.2.2.2.2.2.2.2.2.2.1 with hs | hs
    · rw [hs, if_pos rfl, if_neg (by decide : ¬ (0 : Int32) = 1)]
      by_cases hp : 0 < nI (sC (M 1) i 0)
      · rw [if_pos hp, if_pos hp]
        exact Sm4.stay r h
      · rw [if_neg hp, if_neg hp]
        by_cases hk : kF (M 1) (nI i) ≤ 0
        · rw [if_pos hk, if_pos hk]
          obtain ⟨hv', kv', M', e3, e4, e5, kp⟩ := s_save r h
          have r' : RB v (M' 1) := by rw [kp.1]; exact r
          have g' : GH (M' 1) i := by rw [kp.1]; exact g
          have hi' : i < cN (M' 1) 10 := by rw [kp.1]; exact hi
          have hb9 := g'.2.1
          have hb10 : hN (M' 1) i 0 < 10 := Nat.lt_of_lt_of_le hb9 r'.h10
          have hd : v (6 + 2 * i) 11 = M' 1 (52 + 64 * i + 9) := (r'.h hi').2.1.1
          have r1 : RB (upd2 v (6 + 2 * i) 11 0) (upd (M' 1) (52 + 64 * i + 9) 0) := r'.depS hi' (n := 0) (by decide)
          have c10 : ∀ (c : Nat) (x : Int32) (W : Nat → Int32), c ≠ 10 → cN (upd W c x) 10 = cN W 10 := fun c x W hc => cN_cong (upn _ _ (Ne.symm hc))
          have r2 := r1.setS (i := i) (by rw [c10 _ _ _ (by omega)]; exact hi')
          have r3 := r2.accS (q := 3) (by decide) (M' 1 14 - M' 1 (52 + 64 * i + 9))
          have r4 := r3.accS (q := 6) (by decide) (M' 1 17 + M' 1 (52 + 64 * i + 9))
          have r5 := r4.pdS hb10 (M' 1 (20 + 2 * hN (M' 1) i 0 + 1) + M' 1 (52 + 64 * i + 9))
          have v1 : upd2 (upd2 (upd2 v (6 + 2 * i) 11 0) (6 + 2 * i) 13 1) 2 3 (M' 1 14 - M' 1 (52 + 64 * i + 9)) (6 + 2 * i) 1 = nI (hN (M' 1) i 0) := by
            rw [u2k _ _ (by omega), u2j _ _ (by decide), u2j _ _ (by decide), (r'.h hi').1.1]; exact g'.1 0 (by decide)
          have v23 : upd2 (upd2 v (6 + 2 * i) 11 0) (6 + 2 * i) 13 1 2 3 = M' 1 14 := by
            rw [u2k _ _ (by omega), u2k _ _ (by omega)]; exact r'.acc (j := 3) (by decide)
          have c9 : hN (M' 1) i 0 < cN (upd (upd (upd (M' 1) (52 + 64 * i + 9) 0) (52 + 64 * i + 10) 1) (11 + 3) (M' 1 14 - M' 1 (52 + 64 * i + 9))) 9 := by
            rw [cN_cong (upn _ _ (by omega)), cN_cong (upn _ _ (by omega)), cN_cong (upn _ _ (by omega))]; exact hb9
          unfold f_X0_giveDepositBack
          rw [e3, xb2s, e4, xbs]
          simp only [xls]
          rw [hd, v23, c_credit r3 c9 (q := 6) (p3 := 6) (by decide) _ v1 rfl, xbs, xb2s]
          have o9 : f_X8_of M' (nI i) 9 = some (M' 1 (52 + 64 * i + 9)) := m_of (k := 9) (by omega)
          have a9 : f_X8_at (nI i) 9 = some (nI (52 + 64 * i + 9)) := m_at i 9
          have a10 : f_X8_at (nI i) 10 = some (nI (52 + 64 * i + 10)) := m_at i 10
          rw [o9, xbs, a9, xbs, xgi (by omega) (by decide), a10, xbs, xgi (by omega) (by decide), nI_clamp (by omega), nI_clamp (by omega)]
          have z0 : f_X8_of (upd2 (upd2 (upd2 (upd2 M' 1 (52 + 64 * i + 9) 0) 1 (52 + 64 * i + 10) 1) 1 14 (upd2 (upd2 M' 1 (52 + 64 * i + 9) 0) 1 (52 + 64 * i + 10) 1 1 14 - M' 1 (52 + 64 * i + 9))) 1 17 (upd2 (upd2 (upd2 M' 1 (52 + 64 * i + 9) 0) 1 (52 + 64 * i + 10) 1) 1 14 (upd2 (upd2 M' 1 (52 + 64 * i + 9) 0) 1 (52 + 64 * i + 10) 1 1 14 - M' 1 (52 + 64 * i + 9)) 1 17 + M' 1 (52 + 64 * i + 9))) (nI i) 0 = some (nI (hN (M' 1) i 0)) := by
            refine (m_of (k := 0) (by omega)).trans ?_
            rw [u2r, u2r, u2r, u2r, upn _ _ (by omega), upn _ _ (by omega), upn _ _ (by omega), upn _ _ (by omega)]
            exact congrArg some (g'.1 0 (by decide))
          rw [z0, xbs, m_pays _ hb10 _ rfl, xbs]
          refine Sm4.fin kp e5 ?_ (fun c hc => by simp [upd2, hc]) rfl
          have vv : upd2 (upd2 (upd2 (upd2 (upd2 v (6 + 2 * i) 11 0) (6 + 2 * i) 13 1) 2 3 (M' 1 14 - M' 1 (52 + 64 * i + 9))) 4 (hN (M' 1) i 0) (upd2 (upd2 (upd2 v (6 + 2 * i) 11 0) (6 + 2 * i) 13 1) 2 3 (M' 1 14 - M' 1 (52 + 64 * i + 9)) 4 (hN (M' 1) i 0) + M' 1 (52 + 64 * i + 9))) 2 6 (upd2 (upd2 (upd2 v (6 + 2 * i) 11 0) (6 + 2 * i) 13 1) 2 3 (M' 1 14 - M' 1 (52 + 64 * i + 9)) 2 6 + M' 1 (52 + 64 * i + 9)) = upd2 (upd2 (upd2 (upd2 (upd2 v (6 + 2 * i) 11 0) (6 + 2 * i) 13 1) 2 3 (M' 1 14 - M' 1 (52 + 64 * i + 9))) 2 6 (M' 1 17 + M' 1 (52 + 64 * i + 9))) 4 (hN (M' 1) i 0) (M' 1 (20 + 2 * hN (M' 1) i 0 + 1) + M' 1 (52 + 64 * i + 9)) := by
            rw [u2c _ (show (4 : Nat) ≠ 2 by decide)]
            have q1 : upd2 (upd2 (upd2 v (6 + 2 * i) 11 0) (6 + 2 * i) 13 1) 2 3 (M' 1 14 - M' 1 (52 + 64 * i + 9)) 2 6 = M' 1 17 := by
              rw [u2j _ _ (by decide), u2k _ _ (by omega), u2k _ _ (by omega)]; exact r'.acc (j := 6) (by decide)
            have q2 : upd2 (upd2 (upd2 v (6 + 2 * i) 11 0) (6 + 2 * i) 13 1) 2 3 (M' 1 14 - M' 1 (52 + 64 * i + 9)) 4 (hN (M' 1) i 0) = M' 1 (20 + 2 * hN (M' 1) i 0 + 1) := by
              rw [u2k _ _ (by decide), u2k _ _ (by omega), u2k _ _ (by omega)]; exact r'.pd hb10
            rw [q1, q2]
          have ww : upd2 (upd2 (upd2 (upd2 (upd2 M' 1 (52 + 64 * i + 9) 0) 1 (52 + 64 * i + 10) 1) 1 14 (upd2 (upd2 M' 1 (52 + 64 * i + 9) 0) 1 (52 + 64 * i + 10) 1 1 14 - M' 1 (52 + 64 * i + 9))) 1 17 (upd2 (upd2 (upd2 M' 1 (52 + 64 * i + 9) 0) 1 (52 + 64 * i + 10) 1) 1 14 (upd2 (upd2 M' 1 (52 + 64 * i + 9) 0) 1 (52 + 64 * i + 10) 1 1 14 - M' 1 (52 + 64 * i + 9)) 1 17 + M' 1 (52 + 64 * i + 9))) 1 (20 + 2 * hN (M' 1) i 0 + 1) (upd2 (upd2 (upd2 (upd2 M' 1 (52 + 64 * i + 9) 0) 1 (52 + 64 * i + 10) 1) 1 14 (upd2 (upd2 M' 1 (52 + 64 * i + 9) 0) 1 (52 + 64 * i + 10) 1 1 14 - M' 1 (52 + 64 * i + 9))) 1 17 (upd2 (upd2 (upd2 M' 1 (52 + 64 * i + 9) 0) 1 (52 + 64 * i + 10) 1) 1 14 (upd2 (upd2 M' 1 (52 + 64 * i + 9) 0) 1 (52 + 64 * i + 10) 1 1 14 - M' 1 (52 + 64 * i + 9)) 1 17 + M' 1 (52 + 64 * i + 9)) 1 (20 + 2 * hN (M' 1) i 0 + 1) + M' 1 (52 + 64 * i + 9)) 1 = upd (upd (upd (upd (upd (M' 1) (52 + 64 * i + 9) 0) (52 + 64 * i + 10) 1) (11 + 3) (M' 1 14 - M' 1 (52 + 64 * i + 9))) (11 + 6) (M' 1 17 + M' 1 (52 + 64 * i + 9))) (20 + 2 * hN (M' 1) i 0 + 1) (M' 1 (20 + 2 * hN (M' 1) i 0 + 1) + M' 1 (52 + 64 * i + 9)) := by
            simp only [u2r]
            rw [upn (j := 14) _ _ (by omega), upn (j := 14) _ _ (by omega), upn (j := 17) _ _ (by omega), upn (j := 17) _ _ (by omega), upn (j := 17) _ _ (by omega)]
            rw [upn (j := 20 + 2 * hN (M' 1) i 0 + 1) _ _ (by omega), upn (j := 20 + 2 * hN (M' 1) i 0 + 1) _ _ (by omega), upn (j := 20 + 2 * hN (M' 1) i 0 + 1) _ _ (by omega), upn (j := 20 + 2 * hN (M' 1) i 0 + 1) _ _ (by omega)]
          rw [ww]
          show RB (upd2 (upd2 (upd2 (upd2 (upd2 v (6 + 2 * i) 11 0) (6 + 2 * i) 13 1) 2 3 (M' 1 14 - M' 1 (52 + 64 * i + 9))) 4 (hN (M' 1) i 0) (upd2 (upd2 (upd2 v (6 + 2 * i) 11 0) (6 + 2 * i) 13 1) 2 3 (M' 1 14 - M' 1 (52 + 64 * i + 9)) 4 (hN (M' 1) i 0) + M' 1 (52 + 64 * i + 9))) 2 6 (upd2 (upd2 (upd2 v (6 + 2 * i) 11 0) (6 + 2 * i) 13 1) 2 3 (M' 1 14 - M' 1 (52 + 64 * i + 9)) 2 6 + M' 1 (52 + 64 * i + 9))) _
          rw [vv]
          exact r5
        · rw [if_neg hk, if_neg hk]
          exact Sm4.stay r h
    · rw [hs, if_neg (by decide : ¬ (1 : Int32) = 0), if_pos rfl]
      exact Sm4.stay r h
  · rw [e1, xbs, xo_n, e2, xbs, i00]
    exact Sm4.stay r h
end
