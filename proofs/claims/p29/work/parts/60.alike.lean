/-! ===== PURE p29, 11: areAlike answers 1 ===== -/
section
variable {d k : Nat} {M N : xV}
theorem a_24 (T : TW d k M N) (hd : d < 200) (K : Int32 → Int32 → Option Int32) : L_L_areAlike_24 K M N 100000 1 1 = K 1 (nI 29) := by
  refine xup2 (fun n q => L_L_areAlike_24 K M N n 1 (nI q)) (K 1 (nI 29)) 1 29 (fun n q h1 h2 => ?_) (fun n => ?_) 28 1 100000 (by decide) (by decide) (by decide)
  · rw [L_L_areAlike_24, if_neg (show ¬ (29 : Int32) ≤ nI q from nI_ge (b := 29) h2 (by decide)), if_neg (by decide)]
    by_cases h7 : q = 7
    · rw [if_pos (show nI q = (7 : Int32) by rw [h7]; rfl), xls, nI_1]
    · obtain ⟨c, c1, c2⟩ := cnt_both T hd h1 h2 h7
      rw [if_neg (show ¬ nI q = (7 : Int32) from ne_lit (b := 7) h7 (by omega) (by decide)), c1, xbs, c2, xbs, if_pos rfl, xls, nI_1]
  · rw [L_L_areAlike_24, if_pos (by decide)]
theorem a_81 (T : TW d k M N) (hd : d < 200) {b : Nat} (hb : b < 3) (K : Int32 → Int32 → Option Int32) : L_L_areAlike_81 K M N (nI b) 100000 1 0 = K 1 (nI 7) := by
  refine xup0 (fun n q => L_L_areAlike_81 K M N (nI b) n 1 (nI q)) (K 1 (nI 7)) 7 (fun n q h2 => ?_) (fun n => ?_) (n := 100000) (by decide)
  · obtain ⟨c, c1, c2⟩ := hr_both T hd hb h2
    rw [L_L_areAlike_81, if_neg (show ¬ (7 : Int32) ≤ nI q from nI_ge (b := 7) h2 (by decide)), if_neg (by decide), c1, xbs, c2, xbs, if_pos rfl, xls, nI_1]
  · rw [L_L_areAlike_81, if_pos (by decide)]
theorem a_72 (T : TW d k M N) (hd : d < 200) (K : Int32 → Int32 → Option Int32) : L_L_areAlike_72 K M N 100000 1 0 = K 1 (nI 3) := by
  refine xup0 (fun n q => L_L_areAlike_72 K M N n 1 (nI q)) (K 1 (nI 3)) 3 (fun n q h2 => ?_) (fun n => ?_) (n := 100000) (by decide)
  · rw [L_L_areAlike_72, if_neg (show ¬ (3 : Int32) ≤ nI q from nI_ge (b := 3) h2 (by decide)), a_81 T hd h2, xls, nI_1]
  · rw [L_L_areAlike_72, if_pos (by decide)]
theorem a_149 (T : TW d k M N) (hd : d < 200) {i : Nat} (hi : i < cN (M 1) 10) (K : Int32 → Int32 → Option Int32) : L_L_areAlike_149 K M N (nI d) (nI i) 100000 1 0 = K 1 (nI 16) := by
  refine xup0 (fun n q => L_L_areAlike_149 K M N (nI d) (nI i) n 1 (nI q)) (K 1 (nI 16)) 16 (fun n q h2 => ?_) (fun n => ?_) (n := 100000) (by decide)
  · rw [L_L_areAlike_149, if_neg (show ¬ (16 : Int32) ≤ nI q from nI_ge (b := 16) h2 (by decide)), if_neg (by decide)]
    by_cases h5 : q = 5
    · subst h5
      obtain ⟨c, c1, c2⟩ := hi_five T hi
      rw [c1, xbs, if_pos (show nI 5 = (5 : Int32) from rfl), c2, xbs, if_pos rfl, xls, nI_1]
    · obtain ⟨c, c1, c2⟩ := hi_both T hd hi h2 h5
      rw [c1, xbs, if_neg (show ¬ nI q = (5 : Int32) from ne_lit (b := 5) h5 (by omega) (by decide)), c2, xbs, if_pos (Int32.add_zero c), xls, nI_1]
  · rw [L_L_areAlike_149, if_pos (by decide)]
theorem a_209 (T : TW d k M N) (hd : d < 200) {i : Nat} (hi : i < cN (M 1) 10) (K : Int32 → Int32 → Int32 → Option Int32) : L_L_areAlike_209 K M N (nI d) (nI i) 100000 1 0 0 = K 1 (M 1 (52 + 64 * i + 7)) (nI (hN (M 1) i 4)) := by
  obtain ⟨⟨dv, v, hv, kv, tv, r, h, ht, c⟩, ⟨dv', v', hv', kv', tv', r', h', ht', c'⟩, s, I, h0, t4, t6⟩ := T
  have g := r.g hi
  have h1 := g.2.2.2.2.2.2.1
  have h20 := g.2.2.2.2.2.2.2.1
  have hi' : i < cN (N 1) 10 := by rw [s.m]; exact hi
  have e4 := s.hn hi (k := 4) (by decide) (by decide)
  obtain ⟨P, hP, eP⟩ := I.2.2.1 i hi
  have q0 := xup0 (fun n q => L_L_areAlike_209 K M N (nI d) (nI i) n 1 (sI (fun k => shr (M 1 (52 + 64 * i + 7)) (hN (M 1) i 4) k) q) (nI q)) (K 1 (sI (fun k => shr (M 1 (52 + 64 * i + 7)) (hN (M 1) i 4) k) (hN (M 1) i 4)) (nI (hN (M 1) i 4))) (hN (M 1) i 4) (fun n q h2 => by
    have z0 := se_0 r hi h2
    have z2 := se_2 r hi h2
    have z3 := se_3 r hi h2
    have y0 := se_0 r' hi' (k := q) (by rw [e4]; exact h2)
    have y2 := se_2 r' hi' (k := q) (by rw [e4]; exact h2)
    have y3 := se_3 r' hi' (k := q) (by rw [e4]; exact h2)
    rw [s.h5 hi g (by omega), s.hn hi (k := 6) (by decide) (by decide)] at y0
    rw [s.h hi (k := 7) (by decide) (by decide), e4] at y2
    rw [s.hn hi (k := 12 + q) (by omega) (by omega), s.rfd2E r.1 (by omega) hi h2] at y3
    rw [L_L_areAlike_209, hi_4 r hi, xbs, if_neg (nI_ge h2 (by omega)), show (20 : Int32) * nI i + nI q = nI (20 * i + q) by rw [show (20 : Int32) = nI 20 from rfl, pk_mul, nI_add], xls, z2, xbs, xls, if_neg (by decide), z0, xbs, y0, xbs, nI_add, if_pos (show nI (hN (M 1) i 5 + q * hN (M 1) i 6 + d) = nI (hN (M 1) i 5 + d + q * hN (M 1) i 6) by congr 1; omega), z3, xbs, y3, xbs, if_pos rfl, xbs, y2, xbs, if_pos rfl, xls, nI_1]
    rfl) (fun n => by
    rw [L_L_areAlike_209, hi_4 r hi, xbs, if_pos (nI_le (Nat.le_refl _) (by omega))]) (n := 100000) (by omega)
  have eS : sI (fun k => shr (M 1 (52 + 64 * i + 7)) (hN (M 1) i 4) k) (hN (M 1) i 4) = M 1 (52 + 64 * i + 7) := by
    rw [eP]
    exact shr_sum (by omega) h1 h20
  rw [eS] at q0
  exact q0
theorem sC_all {w : Nat → Int32} {i : Nat} (g : GH w i) : sC w i 0 + sC w i 1 + sC w i 2 = hN w i 4 := by
  have e := sC_sum g
  have e2 : fb_ct (fun k => sB w i 1 k || sB w i 2 k) 20 = sC w i 1 + sC w i 2 := fb_ct_or fun k _ => by
    rintro ⟨a, b⟩
    unfold sB at a b
    simp only [Bool.and_eq_true, decide_eq_true_iff] at a b
    omega
  omega
theorem a_132 (T : TW d k M N) (hd : d < 200) (K : Int32 → Int32 → Option Int32) : L_L_areAlike_132 K M N (nI d) 100000 1 0 = K 1 (nI (cN (M 1) 10)) := by
  obtain ⟨dv, v, hv, kv, tv, r, h, ht, c⟩ := T.1
  have h12 := r.m12
  refine xup0 (fun n q => L_L_areAlike_132 K M N (nI d) n 1 (nI q)) (K 1 (nI (cN (M 1) 10))) (cN (M 1) 10) (fun n q h2 => ?_) (fun n => ?_) (n := 100000) (by omega)
  · have g := r.g h2
    rw [L_L_areAlike_132, cnt_2, xbs, r.wm, if_neg (nI_ge h2 (by omega)), if_neg (by decide), a_149 T hd h2, a_209 T hd h2, if_neg (by decide), hi_7 r h2, xbs, if_pos rfl, hi_9 r h2, xbs, hi_10 r h2, xbs, hi_11 r h2, xbs, hi_4 r h2, xbs, nI_add, nI_add, if_pos (by rw [sC_all g]), xls, nI_1]
  · rw [L_L_areAlike_132, cnt_2, xbs, r.wm, if_pos (nI_le (Nat.le_refl _) (by omega))]
theorem alike_ok (T : TW d k M N) (hd : d < 200) : f_L_areAlike M N (nI d) = some 1 := by
  unfold f_L_areAlike
  rw [cnt_0, xbs, cnt_0, xbs, if_pos T.2.2.1.1.symm]
  unfold J_L_areAlike_21
  rw [a_24 T hd, a_72 T hd, a_132 T hd, xgp (Or.inr rfl)]
end
