/-! ===== PURE p29, 8: the halls side by side, call by call ===== -/
def TW (d k : Nat) (M N : xV) : Prop := PW M ∧ PW N ∧ Sh d (M 1) (N 1) ∧ Inv k (M 1) ∧ cN (M 1) 0 ≤ 150 ∧ N 0 4 = M 0 4 ∧ N 0 6 = M 0 6
/-- both halls answer alike and stay side by side -/
def TwoR (d k : Nat) (y y' : Option (Int32 × xV)) : Prop := ∃ a M' N', y = some (a, M') ∧ y' = some (a, N') ∧ TW d k M' N'
theorem TW.more {d k : Nat} {M N : xV} (T : TW d k M N) : TW d (k + 1) M N := ⟨T.1, T.2.1, T.2.2.1, T.2.2.2.1.more, T.2.2.2.2⟩
theorem TwoR.stay {d k : Nat} {M N : xV} (T : TW d k M N) (a : Int32) : TwoR d (k + 1) (some (a, M)) (some (a, N)) := ⟨a, M, N, rfl, rfl, T.more⟩
theorem PW.of {M M' dv tv : xV} {a : Int32} {x : Option (Int32 × xV × xV × (Nat → xV))} {y : Option (Int32 × xV)} (ht : tv 0 1 = M 0 6) (c : CR dv M) (hs : Sm4 M x y) (e : y = some (a, M')) : PW M' ∧ M' 0 4 = M 0 4 ∧ M' 0 6 = M 0 6 := by
  obtain ⟨b, v', hv', kv', M2, e1, e2, r, h, m4, m0⟩ := hs
  cases e.symm.trans e2
  exact ⟨⟨dv, v', hv', kv', tv, r, h, ht.trans (m0 6 (by decide)).symm, CR.cong c rfl (m0 4 (by decide))⟩, m0 4 (by decide), m0 6 (by decide)⟩
theorem TwoR.go {d k : Nat} {M N M' N' : xV} {a : Int32} {y y' : Option (Int32 × xV)} (T : TW d k M N) (e : y = some (a, M')) (e' : y' = some (a, N')) (p : PW M' ∧ M' 0 4 = M 0 4 ∧ M' 0 6 = M 0 6) (p' : PW N' ∧ N' 0 4 = N 0 4 ∧ N' 0 6 = N 0 6) (s : Sh d (M' 1) (N' 1)) (I : Inv (k + 1) (M' 1)) (h0 : cN (M' 1) 0 ≤ 150) : TwoR d (k + 1) y y' := by
  obtain ⟨-, -, -, -, -, t4, t6⟩ := T
  exact ⟨a, M', N', e, e', p.1, p'.1, s, I, h0, by rw [p'.2.1, p.2.1, t4], by rw [p'.2.2, p.2.2, t6]⟩
section
variable {d k : Nat} {M N : xV}
theorem r_set (T : TW d k M N) {j q : Nat} (hj : j < 8) (hq : q ≤ moN j) : TwoR d (k + 1) (f_X8_set M (nI j) (nI q)) (f_X8_set N (nI j) (nI q)) := by
  have T0 := T
  obtain ⟨⟨dv, v, hv, kv, tv, r, h, ht, c⟩, ⟨dv', v', hv', kv', tv', r', h', ht', c'⟩, s, I, h0, -, -⟩ := T
  obtain ⟨M', e1, e2⟩ := m_set r h hj hq
  obtain ⟨N', f1, f2⟩ := m_set r' h' hj hq
  rw [s.lo (c := 1 + j) (by omega) (by omega)] at f1
  refine TwoR.go T0 e1 f1 (PW.of ht c (s_set r h dv (nI j) (nI q)) e1) (PW.of ht' c' (s_set r' h' dv' (nI j) (nI q)) f1) ?_ ?_ ?_
  · rw [e2, f2]; exact s.updE (by omega) (by omega) (by omega) _
  · rw [e2]; exact (I.set hj hq).more
  · rw [e2, cN_cong (upn _ _ (by omega))]; exact h0
theorem r_pay (T : TW d k M N) {b q : Nat} (hb : b < 3) (h1 : 1 ≤ q) (h2 : q ≤ 9000) (hk : k ≤ 49) : TwoR d (k + 1) (f_X8_pay M (nI b) (nI q)) (f_X8_pay N (nI b) (nI q)) := by
  have T0 := T
  obtain ⟨⟨dv, v, hv, kv, tv, r, h, ht, c⟩, ⟨dv', v', hv', kv', tv', r', h', ht', c'⟩, s, I, h0, -, -⟩ := T
  obtain ⟨Q, hQ, eQ⟩ := I.2.2.2.2.2 b hb
  have h9 : b < cN (M 1) 9 := by rw [I.2.1]; exact hb
  have hl : M 1 (20 + 2 * b + 1) + nI q ≤ 100000000 := by
    rw [eQ, nI_add]
    exact nI_le (b := 100000000) (by omega) (by decide)
  obtain ⟨M', e1, e2⟩ := m_pay r h h9 h1 (by omega) hl
  obtain ⟨N', f1, f2⟩ := m_pay r' h' (j := b) (by rw [s.cn (by decide) (by decide)]; exact h9) h1 (by omega) (by rw [s.lo (c := 20 + 2 * b + 1) (by omega) (by omega)]; exact hl)
  rw [s.lo (c := 20 + 2 * b) (by omega) (by omega), s.lo (c := 20 + 2 * b + 1) (by omega) (by omega)] at f1
  refine TwoR.go T0 e1 f1 (PW.of ht c (s_pay r h dv (nI b) (nI q)) e1) (PW.of ht' c' (s_pay r' h' dv' (nI b) (nI q)) f1) ?_ ?_ ?_
  · rw [e2, f2]; exact s.pay (by omega) _
  · rw [e2]; exact I.pay hb (by omega)
  · rw [e2, cN_cong (show wPay (M 1) b (nI q) 0 = M 1 0 by unfold wPay; rw [if_neg (by omega), if_neg (by omega)])]; exact h0
theorem no_sess {v : xV} (r : RB v (M 1)) (hm : cN (M 1) 10 = 0) : f_X8_isSession M 0 = some 0 := by
  have e := m_isSession (M := M) (n := 0) (m := 0) (by decide) (by decide) (by rw [r.wm, hm]) (fun i hi => absurd hi (Nat.not_lt_zero i))
  rw [if_neg (fun z => Nat.not_lt_zero _ z.1)] at e
  exact e
theorem no_hire {v : xV} (r : RB v (M 1)) (hm : cN (M 1) 10 = 0) : f_X8_isHire M 0 = some 0 := by
  have e := m_isHire (M := M) (h := 0) (by decide) (by rw [r.wm, hm]) 0
  rw [if_neg (fun z => by
    obtain ⟨j, hj, -⟩ := (lt_iff 0 (h := 0) (by decide)).mp z
    exact Nat.not_lt_zero j hj)] at e
  exact e
theorem r_cancel (T : TW d k M N) (hd : d < 200) {i q : Nat} (hi : i < cN (M 1) 10) (hq : q < hN (M 1) i 4) : TwoR d (k + 1) (f_X8_cancel M (nI (20 * i + q))) (f_X8_cancel N (nI (20 * i + q))) := by
  have T0 := T
  obtain ⟨⟨dv, v, hv, kv, tv, r, h, ht, c⟩, ⟨dv', v', hv', kv', tv', r', h', ht', c'⟩, s, I, h0, -, -⟩ := T
  have g := r.g hi
  have h12 := r.m12
  have h20 := g.2.2.2.2.2.2.2.1
  have hb10 := Nat.lt_of_lt_of_le g.2.1 r.h10
  have hi' : i < cN (N 1) 10 := by rw [s.m]; exact hi
  have e4 := s.hn hi (k := 4) (by decide) (by decide)
  have es := s.hn hi (k := 12 + q) (by omega) (by omega)
  have hq' : q < hN (N 1) i 4 := by rw [e4]; exact hq
  by_cases hs : hN (M 1) i (12 + q) = 0
  · obtain ⟨M', e1, e2⟩ := m_cancel r h hi hq hs
    obtain ⟨N', f1, f2⟩ := m_cancel r' h' hi' hq' (by rw [es]; exact hs)
    rw [s.rfd2E r.1 (by omega) hi hq] at f1
    refine TwoR.go T0 e1 f1 (PW.of ht c (s_cancel r h dv _) e1) (PW.of ht' c' (s_cancel r' h' dv' _) f1) ?_ ?_ ?_
    · rw [e2, f2]; exact s.can r.1 (by omega) hi hb10 hq
    · rw [e2]; exact I.can hi g hq
    · rw [e2, cN_cong (show wCan (M 1) i q 0 = M 1 0 by unfold wCan; rw [if_neg (by omega), if_neg (by omega), if_neg (by omega)])]; exact h0
  · have no : ∀ {X vx : xV}, RB vx (X 1) → i < cN (X 1) 10 → q < hN (X 1) i 4 → hN (X 1) i (12 + q) ≠ 0 → f_X8_cancel X (nI (20 * i + q)) = some (-2000000002, X) := fun {X vx} rx hx hqx hsx => by
      have gx := rx.g hx
      obtain ⟨gk1, gk2, -⟩ := gx.2.2.2.2.2.2.2.2.2.2.2.2.2.2.2.2.2 q hqx
      unfold f_X8_cancel
      rw [sess_ok rx hx hqx, xbs, i10, m_stateOf (by omega) (by omega), gk1, xbs, if_neg (show ¬ nI (hN (X 1) i (12 + q)) = (0 : Int32) from ne_lit (b := 0) hsx (by omega) (by decide))]
    rw [no r hi hq hs, no r' hi' hq' (by rw [es]; exact hs)]
    exact TwoR.stay T0 _
theorem r_cancel0 (T : TW d k M N) (hm : cN (M 1) 10 = 0) : TwoR d (k + 1) (f_X8_cancel M 0) (f_X8_cancel N 0) := by
  have T0 := T
  obtain ⟨⟨dv, v, hv, kv, tv, r, h, ht, c⟩, ⟨dv', v', hv', kv', tv', r', h', ht', c'⟩, s, I, h0, -, -⟩ := T
  unfold f_X8_cancel
  rw [no_sess r hm, no_sess r' (by rw [s.m]; exact hm), xbs, xbs, i00, i00]
  exact TwoR.stay T0 _
theorem r_back (T : TW d k M N) (hd : d < 200) {j : Nat} (hj : j < 6) : TwoR d (k + 1) (f_X8_bringBack M (nI j)) (f_X8_bringBack N (nI j)) := by
  have T0 := T
  obtain ⟨⟨dv, v, hv, kv, tv, r, h, ht, c⟩, ⟨dv', v', hv', kv', tv', r', h', ht', c'⟩, s, I, h0, -, -⟩ := T
  by_cases hk : M 1 (40 + 2 * j) = -1
  · rw [m_back0 hj hk, m_back0 hj ((s.key hj).trans hk)]
    exact TwoR.stay T0 _
  · obtain ⟨M', e1, e2⟩ := m_back1 r h hj hk
    obtain ⟨N', f1, f2⟩ := m_back1 r' h' hj (by rw [s.key hj]; exact hk)
    rw [s.kLE r.1 (by omega) hj] at f1
    have sp : ∀ c, c ≠ 40 + 2 * j → c ≠ 40 + 2 * j + 1 → wBack (M 1) j c = M 1 c := fun c h1 h2 => by
      unfold wBack
      rw [if_neg h1, if_neg h2]
    refine TwoR.go T0 e1 f1 (PW.of ht c (s_bringBack r h dv _) e1) (PW.of ht' c' (s_bringBack r' h' dv' _) f1) ?_ ?_ ?_
    · rw [e2, f2]; exact s.back hj
    · rw [e2]; exact (I.same (fun c h1 h2 => sp c (by omega) (by omega)) (fun i hi => ⟨sp _ (by omega) (by omega), sp _ (by omega) (by omega)⟩)).more
    · rw [e2, cN_cong (sp 0 (by omega) (by omega))]; exact h0
theorem r_report (T : TW d k M N) {i q kd : Nat} (hi : i < cN (M 1) 10) (hq : q < hN (M 1) i 4) (hkd : kd ≤ 3) : TwoR d (k + 1) (f_X8_report M (nI (20 * i + q)) (nI kd)) (f_X8_report N (nI (20 * i + q)) (nI kd)) := by
  have T0 := T
  obtain ⟨⟨dv, v, hv, kv, tv, r, h, ht, c⟩, ⟨dv', v', hv', kv', tv', r', h', ht', c'⟩, s, I, h0, -, -⟩ := T
  have g := r.g hi
  have h20 := g.2.2.2.2.2.2.2.1
  have g8 := g.2.2.2.2.2.2.2.2.2.2.2.2.2.2.2.2.1
  have hb10 := Nat.lt_of_lt_of_le g.2.1 r.h10
  have hi' : i < cN (N 1) 10 := by rw [s.m]; exact hi
  have e4 := s.hn hi (k := 4) (by decide) (by decide)
  have hq' : q < hN (N 1) i 4 := by rw [e4]; exact hq
  have e11 := s.hn hi (k := 11) (by decide) (by decide)
  have eE : rpE (N 1) i q kd = rpE (M 1) i q kd := by
    unfold rpE
    rw [s.h hi (k := 1) (by decide) (by decide), s.hn hi (k := 12 + q) (by omega) (by omega), s.h hi (k := 10) (by decide) (by decide), e11]
  have eC : cst (N 1) i kd = cst (M 1) i kd := by
    unfold cst
    rw [s.hn hi (k := 1) (by decide) (by decide), e11, s.fTE hi g8]
  rcases m_report r h hi hq hkd with ⟨a1, a2⟩ | ⟨a1, M', e1, e2⟩
  · rcases m_report r' h' hi' hq' hkd with ⟨b1, b2⟩ | ⟨b1, N', f1, f2⟩
    · rw [eE] at b2
      rw [a2, b2]
      exact TwoR.stay T0 _
    · exact absurd (eE.symm.trans b1) a1
  · rcases m_report r' h' hi' hq' hkd with ⟨b1, b2⟩ | ⟨b1, N', f1, f2⟩
    · exact absurd (eE.trans a1) b1
    · have hn : hN (M 1) i 11 < 8 := by
        unfold rpE at a1
        by_cases e8 : hN (M 1) i 11 = 8
        · exfalso
          rw [if_pos e8] at a1
          split at a1
          · exact absurd a1 (by decide)
          · split at a1
            · split at a1
              · exact absurd a1 (by decide)
              · exact absurd a1 (by decide)
            · exact absurd a1 (by decide)
        · omega
      rw [eC] at f1 f2
      refine TwoR.go T0 e1 f1 (PW.of ht c (s_report r h dv _ _) e1) (PW.of ht' c' (s_report r' h' dv' _ _) f1) ?_ ?_ ?_
      · rw [e2, f2]; exact s.rep hi hb10 hn
      · rw [e2]; exact (I.rep hi g hn).more
      · rw [e2, cN_cong (show wRep (M 1) i q kd (cst (M 1) i kd) 0 = M 1 0 by
          unfold wRep wTake
          rw [if_neg (by omega), if_neg (by omega), if_neg (by omega), if_neg (by omega), if_neg (by omega), if_neg (by omega), if_neg (by omega), if_neg (by omega), if_neg (by omega), if_neg (by omega)])]
        exact h0
theorem r_report0 (T : TW d k M N) (hm : cN (M 1) 10 = 0) (x : Int32) : TwoR d (k + 1) (f_X8_report M 0 x) (f_X8_report N 0 x) := by
  have T0 := T
  obtain ⟨⟨dv, v, hv, kv, tv, r, h, ht, c⟩, ⟨dv', v', hv', kv', tv', r', h', ht', c'⟩, s, I, h0, -, -⟩ := T
  unfold f_X8_report
  rw [no_sess r hm, no_sess r' (by rw [s.m]; exact hm), xbs, xbs, i00, i00]
  exact TwoR.stay T0 _
theorem r_settle (T : TW d k M N) {i : Nat} (hi : i < cN (M 1) 10) : TwoR d (k + 1) (f_X8_settle M (nI i)) (f_X8_settle N (nI i)) := by
  have T0 := T
  obtain ⟨⟨dv, v, hv, kv, tv, r, h, ht, c⟩, ⟨dv', v', hv', kv', tv', r', h', ht', c'⟩, s, I, h0, -, -⟩ := T
  have g := r.g hi
  have hb10 := Nat.lt_of_lt_of_le g.2.1 r.h10
  have hi' : i < cN (N 1) 10 := by rw [s.m]; exact hi
  have eE : setB (N 1) i = setB (M 1) i := by
    unfold setB
    rw [s.h hi (k := 10) (by decide) (by decide), s.sCE 0 hi, s.kFE]
  rcases m_settle r h hi with ⟨a1, a2⟩ | ⟨a1, M', e1, e2⟩
  · rcases m_settle r' h' hi' with ⟨b1, b2⟩ | ⟨b1, N', f1, f2⟩
    · rw [a2, b2]
      exact TwoR.stay T0 _
    · rw [eE, a1] at b1
      cases b1
  · rcases m_settle r' h' hi' with ⟨b1, b2⟩ | ⟨b1, N', f1, f2⟩
    · rw [eE, a1] at b1
      cases b1
    · rw [s.h hi (k := 9) (by decide) (by decide)] at f1
      refine TwoR.go T0 e1 f1 (PW.of ht c (s_settle r h dv _) e1) (PW.of ht' c' (s_settle r' h' dv' _) f1) ?_ ?_ ?_
      · rw [e2, f2]; exact s.sett hi hb10
      · rw [e2]; exact I.sett hi g
      · rw [e2, cN_cong (show wSet (M 1) i 0 = M 1 0 by
          unfold wSet
          rw [if_neg (by omega), if_neg (by omega), if_neg (by omega), if_neg (by omega), if_neg (by omega)])]
        exact h0
theorem r_settle0 (T : TW d k M N) (hm : cN (M 1) 10 = 0) : TwoR d (k + 1) (f_X8_settle M 0) (f_X8_settle N 0) := by
  have T0 := T
  obtain ⟨⟨dv, v, hv, kv, tv, r, h, ht, c⟩, ⟨dv', v', hv', kv', tv', r', h', ht', c'⟩, s, I, h0, -, -⟩ := T
  unfold f_X8_settle
  rw [no_hire r hm, no_hire r' (by rw [s.m]; exact hm), xbs, xbs, i00, i00]
  exact TwoR.stay T0 _
theorem r_pass (T : TW d k M N) (hd : d < 200) {D : Nat} (h1 : 1 ≤ D) (h2 : D ≤ 7) (h3 : cN (M 1) 0 + D ≤ 150) : TwoR d (k + 1) (f_X8_pass M (nI D)) (f_X8_pass N (nI D)) := by
  have T0 := T
  obtain ⟨⟨dv, v, hv, kv, tv, r, h, ht, c⟩, ⟨dv', v', hv', kv', tv', r', h', ht', c'⟩, s, I, h0, -, -⟩ := T
  have e0 := s.day' r.1 (by omega)
  obtain ⟨hv1, kv1, M1, e1, e2, e3, kp⟩ := s_save r h
  obtain ⟨hv2, kv2, N1, f1, f2, f3, kq⟩ := s_save r' h'
  have TB1 : TB d k (M1 1) (N1 1) := by
    rw [kp.1, kq.1]
    exact ⟨⟨v, r⟩, ⟨v', r'⟩, s, I⟩
  obtain ⟨x', M', N', q1, q2, q3, q4⟩ := r_days hd (by omega : D ≤ 60) D 0 (by omega) M1 N1 0 0 100000 TB1 (by rw [kp.1]; exact h3) (by omega) (by omega)
  have pm : f_X8_pass M (nI D) = some (x', M') := by
    unfold f_X8_pass
    rw [in_ok (A := 1) (B := 60) (lo := 1) (hi := 60) rfl rfl h1 (by omega) (by decide), xbs, i10, r.wd, nI_add, if_pos (show nI (cN (M 1) 0 + D) ≤ (400 : Int32) from nI_le (b := 400) (by omega) (by decide)), e2, xbs]
    exact q1
  have pn : f_X8_pass N (nI D) = some (x', N') := by
    unfold f_X8_pass
    rw [in_ok (A := 1) (B := 60) (lo := 1) (hi := 60) rfl rfl h1 (by omega) (by decide), xbs, i10, r'.wd, e0, nI_add, if_pos (show nI (cN (M 1) 0 + d + D) ≤ (400 : Int32) from nI_le (b := 400) (by omega) (by decide)), f2, xbs]
    exact q2
  exact TwoR.go T0 pm pn (PW.of ht c (s_pass r h dv _) pm) (PW.of ht' c' (s_pass r' h' dv' _) pn) q3.2.2.1 q3.2.2.2.more q4
/-- a key is lent: the due days lie d apart -/
theorem r_lend (T : TW d k M N) (hd : d < 200) {j i : Nat} (hj : j < 6) (hi : i < cN (M 1) 10) : ∃ a a' M' N', f_X8_lend M (nI j) (nI i) = some (a, M') ∧ f_X8_lend N (nI j) (nI i) = some (a', N') ∧ TW d (k + 1) M' N' ∧ ((a < 0 ∧ a' = a) ∨ (0 ≤ a ∧ a' = a + nI d)) := by
  have T0 := T
  obtain ⟨⟨dv, v, hv, kv, tv, r, h, ht, c⟩, ⟨dv', v', hv', kv', tv', r', h', ht', c'⟩, s, I, h0, t4, t6⟩ := T
  have g := r.g hi
  have h20 := g.2.2.2.2.2.2.2.1
  have hi' : i < cN (N 1) 10 := by rw [s.m]; exact hi
  have e4 := s.hn hi (k := 4) (by decide) (by decide)
  have eE : ∀ q, lendB (N 1) j i q = lendB (M 1) j i q := fun q => by
    unfold lendB
    rw [s.key hj, e4, s.lpSE hi _ h20, s.h hi (k := 1) (by decide) (by decide)]
  have one : ∀ q q', lendB (M 1) j i q = true → lendB (M 1) j i q' = true → q = q' := fun q q' a b => by
    unfold lendB at a b
    simp only [Bool.and_eq_true, decide_eq_true_iff] at a b
    exact Option.some.inj (a.2.1.symm.trans b.2.1)
  rcases m_lend r h hj hi with ⟨a1, a2⟩ | ⟨q, a1, aq, M', e1, e2⟩
  · rcases m_lend r' h' hj hi' with ⟨b1, b2⟩ | ⟨q, b1, bq, N', f1, f2⟩
    · exact ⟨_, _, M, N, a2, b2, T0.more, Or.inl ⟨by decide, rfl⟩⟩
    · rw [eE, a1] at b1
      cases b1
  · rcases m_lend r' h' hj hi' with ⟨b1, b2⟩ | ⟨q', b1, bq, N', f1, f2⟩
    · have := b1 q
      rw [eE, a1] at this
      cases this
    · have eq : q' = q := one _ _ (by rw [← eE]; exact b1) a1
      subst eq
      have sp : ∀ c, c ≠ 40 + 2 * j → c ≠ 40 + 2 * j + 1 → wLend (M 1) j i q' c = M 1 c := fun c h1 h2 => by
        unfold wLend
        rw [if_neg h1, if_neg h2]
      have hdy := g.day aq
      have p := PW.of ht c (s_lend r h dv _ _) e1
      have p' := PW.of ht' c' (s_lend r' h' dv' _ _) f1
      have h30 := r.1.2.2.2.2.2.2.1.2
      refine ⟨_, _, M', N', e1, f1, ⟨p.1, p'.1, ?_, ?_, ?_, by rw [p'.2.1, p.2.1, t4], by rw [p'.2.2, p.2.2, t6]⟩, Or.inr ⟨nI_pos' (by omega), ?_⟩⟩
      · rw [e2, f2]; exact s.lend r.1 (by omega) hj hi
      · rw [e2]; exact (I.same (fun c h1 h2 => sp c (by omega) (by omega)) (fun i hi => ⟨sp _ (by omega) (by omega), sp _ (by omega) (by omega)⟩)).more
      · rw [e2, cN_cong (sp 0 (by omega) (by omega))]; exact h0
      · rw [s.h5 hi g (by omega), s.hn hi (k := 6) (by decide) (by decide), s.cn (c := 8) (by decide) (by decide), nI_add]
        congr 1
        omega
theorem r_lend0 (T : TW d k M N) (hm : cN (M 1) 10 = 0) {j : Nat} (hj : j < 6) : ∃ a a' M' N', f_X8_lend M (nI j) 0 = some (a, M') ∧ f_X8_lend N (nI j) 0 = some (a', N') ∧ TW d (k + 1) M' N' ∧ ((a < 0 ∧ a' = a) ∨ (0 ≤ a ∧ a' = a + nI d)) := by
  have T0 := T
  obtain ⟨⟨dv, v, hv, kv, tv, r, h, ht, c⟩, ⟨dv', v', hv', kv', tv', r', h', ht', c'⟩, s, I, h0, -, -⟩ := T
  refine ⟨-2000000001, -2000000001, M, N, ?_, ?_, T0.more, Or.inl ⟨by decide, rfl⟩⟩
  · unfold f_X8_lend
    rw [key_ok hj, xbs, i10, no_hire r hm, xbs, i00]
  · unfold f_X8_lend
    rw [key_ok hj, xbs, i10, no_hire r' (by rw [s.m]; exact hm), xbs, i00]
theorem r_hire (T : TW d k M N) (hd : d ≤ 50) {b ro z f t n p : Nat} (hb : b < 3) (hr1 : 1 ≤ ro) (hr7 : ro ≤ 7) (hz : z ≤ 9) (hf : f < t) (ht3 : t ≤ f + 3) (ht24 : t ≤ 24) (hn1 : 1 ≤ n) (hn : n ≤ 8) (hp1 : 1 ≤ p) (hp : p ≤ 9) : TwoR d (k + 1) (f_X8_hire M (nI b) (nI ro) (nI (cN (M 1) 0 + z)) (nI (100 * f + t)) (nI n) (nI p)) (f_X8_hire N (nI b) (nI ro) (nI (cN (M 1) 0 + z + d)) (nI (100 * f + t)) (nI n) (nI p)) := by
  have T0 := T
  obtain ⟨⟨dv, v, hv, kv, tv, r, h, ht, c⟩, ⟨dv', v', hv', kv', tv', r', h', ht', c'⟩, s, I, h0, t4, t6⟩ := T
  have h12 := r.m12
  have e0 := s.day' r.1 (by omega)
  have h9 : b < cN (M 1) 9 := by rw [I.2.1]; exact hb
  have h9' : b < cN (N 1) 9 := by rw [s.cn (by decide) (by decide)]; exact h9
  obtain ⟨hh1, hh2, hh3⟩ := hrs_ok hf ht24
  have mul : (n - 1) * p ≤ 7 * 9 := Nat.mul_le_mul (by omega) hp
  have eL : ∀ D, nI D + (nI n - 1) * nI p = nI (D + (n - 1) * p) := fun D => by
    rw [show nI n - 1 = nI (n - 1) from pk_sub (b := 1) hn1, pk_mul, nI_add]
  have hl : ∀ q, q < n → cN (M 1) 0 + z + q * p + d < 1000 := fun q hq => by
    have : q * p ≤ 7 * 9 := Nat.mul_le_mul (by omega) hp
    omega
  obtain ⟨x, -, x2, x3⟩ := clashOf_eq r (wv := fun _ q => if q = 0 then nI b else if q = 1 then nI ro else if q = 2 then nI f else if q = 3 then nI t else if q = 4 then nI (cN (M 1) 0 + z) else if q = 5 then nI n else nI p) (d := cN (M 1) 0 + z) (n := n) (p := p) rfl rfl rfl (by omega) (by omega)
  have cm : f_X8_clashOfAll M (nI b) (nI ro) (nI (cN (M 1) 0 + z)) (nI f) (nI t) (nI n) (nI p) = some x := x2
  have cn : f_X8_clashOfAll N (nI b) (nI ro) (nI (cN (M 1) 0 + z + d)) (nI f) (nI t) (nI n) (nI p) = some x := by
    rw [← cm]
    exact r_clashAll r r' s (by omega) (by omega) hl (nI b) (nI ro) (nI f) (nI t) _ 100000 (-1) 0 (by decide)
  -- up to the clash both go alike
  have head : ∀ {X vx : xV} {D : Nat}, RB vx (X 1) → b < cN (X 1) 9 → cN (X 1) 0 ≤ D → D + (n - 1) * p ≤ 364 → f_X8_clashOfAll X (nI b) (nI ro) (nI D) (nI f) (nI t) (nI n) (nI p) = some x → f_X8_hire X (nI b) (nI ro) (nI D) (nI (100 * f + t)) (nI n) (nI p) = if x = -1 then (if X 1 10 = 12 then some (-2000000003, X) else xb (f_X8_save X) fun M_15 => xb (f_X8_makes M_15 (nI b) (nI ro) (nI D) (nI f) (nI t) (nI n) (nI p)) fun M_17 => some (M_17 1 10 - 1, M_17)) else some (-2000000002, upd2 X 0 4 x) := fun {X vx D} rx hbx hD hDl hc => by
    have hd400 := rx.d400
    unfold f_X8_hire f_X8_isSeries
    rw [hirer_ok rx hbx, xbs, i10, in_ok (A := 1) (B := 7) (lo := 1) (hi := 7) rfl rfl hr1 hr7 (by decide), xbs, i10, rx.wd, in_ok (A := (nI (cN (X 1) 0)).toInt64) (B := 364) (lo := cN (X 1) 0) (hi := 364) rfl rfl hD (by omega) (by decide), xbs, i10, hh1, xbs, i10, in_ok (A := 1) (B := 20) (lo := 1) (hi := 20) rfl rfl hn1 (by omega) (by decide), xbs, i10, in_ok (A := 1) (B := 60) (lo := 1) (hi := 60) rfl rfl hp1 (by omega) (by decide), xbs, i10, xbs, i10, eL, if_pos (show nI (D + (n - 1) * p) ≤ (364 : Int32) from nI_le (b := 364) hDl (by decide)), hh3, hh2, hc, xbs]
    rfl
  have em := head r h9 (by omega) (by omega) cm
  have en := head r' h9' (by rw [e0]; omega) (by omega) cn
  by_cases hx : x = -1
  · rw [if_pos hx] at em en
    by_cases h10 : cN (M 1) 10 = 12
    · rw [if_pos (show M 1 10 = 12 by rw [r.wm, h10]; rfl)] at em
      rw [if_pos (show N 1 10 = 12 by rw [r'.wm, s.m, h10]; rfl)] at en
      rw [em, en]
      exact TwoR.stay T0 _
    · have n12 : ∀ m, m ≤ 12 → m ≠ 12 → ¬ nI m = (12 : Int32) := fun m h1 h2 => ne_lit (b := 12) h2 (by omega) (by decide)
      rw [if_neg (by rw [r.wm]; exact n12 _ h12 h10)] at em
      rw [if_neg (by rw [r'.wm, s.m]; exact n12 _ h12 h10)] at en
      obtain ⟨hv1, kv1, M1, q1, q2, q3, kp⟩ := s_save r h
      obtain ⟨hv2, kv2, N1, u1, u2, u3, kq⟩ := s_save r' h'
      have r1 : RB v (M1 1) := by rw [kp.1]; exact r
      have r1' : RB v' (N1 1) := by rw [kq.1]; exact r'
      obtain ⟨M', w1, w2, w3⟩ := m_make r1 (ro := ro) (d := cN (M 1) 0 + z) (p := p) rfl (by rw [kp.1]; omega) (by rw [kp.1]; exact h9) hf ht24 (by omega : n ≤ 20)
      obtain ⟨N', y1, y2, y3⟩ := m_make r1' (ro := ro) (d := cN (M 1) 0 + z + d) (p := p) rfl (by rw [kq.1, s.m]; omega) (by rw [kq.1]; exact h9') hf ht24 (by omega : n ≤ 20)
      rw [kp.1] at w2
      rw [kq.1] at y2
      have sN' : Sh d (M' 1) (N' 1) := by
        rw [w2, y2]
        exact s.make h12 (by omega)
      have e10 := sN'.lo (c := 10) (by decide) (by decide)
      have pm : f_X8_hire M (nI b) (nI ro) (nI (cN (M 1) 0 + z)) (nI (100 * f + t)) (nI n) (nI p) = some (M' 1 10 - 1, M') := by rw [em, q2, xbs, w1, xbs]
      have pn : f_X8_hire N (nI b) (nI ro) (nI (cN (M 1) 0 + z + d)) (nI (100 * f + t)) (nI n) (nI p) = some (M' 1 10 - 1, N') := by rw [en, u2, xbs, y1, xbs, e10]
      obtain ⟨a1, dv1, v1, hv3, kv3, wv1, M3, -, z2, z3, z4, z5, z6, z7⟩ := s_hire r h c (fun _ _ => 0) (nI b) (nI ro) (nI (cN (M 1) 0 + z)) (nI (100 * f + t)) (nI n) (nI p)
      obtain ⟨a2, dv2, v2, hv4, kv4, wv2, N3, -, z2', z3', z4', z5', z6', z7'⟩ := s_hire r' h' c' (fun _ _ => 0) (nI b) (nI ro) (nI (cN (M 1) 0 + z + d)) (nI (100 * f + t)) (nI n) (nI p)
      have i1 := (Prod.mk.inj (Option.some.inj (pm.symm.trans z2))).2
      have i2 := (Prod.mk.inj (Option.some.inj (pn.symm.trans z2'))).2
      subst i1
      subst i2
      refine ⟨_, M', N', pm, pn, ⟨dv1, v1, hv3, kv3, tv, z3, z4, ht.trans z7.symm, z5⟩, ⟨dv2, v2, hv4, kv4, tv', z3', z4', ht'.trans z7'.symm, z5'⟩, sN', ?_, ?_, ?_, by rw [z7', z7, t6]⟩
      · rw [w2]; exact (I.make (by omega) hb hf ht3 hn).more
      · rw [w2, cN_cong (mk_out rfl (by omega) (by omega) (by omega) (by omega) (by omega) (by omega))]; exact h0
      · rw [y3 0 (by decide), w3 0 (by decide), kq.2.2.2 4 (by decide), kp.2.2.2 4 (by decide), t4]
  · rw [if_neg hx] at em en
    obtain ⟨a1, dv1, v1, hv3, kv3, wv1, M3, -, z2, z3, z4, z5, z6, z7⟩ := s_hire r h c (fun _ _ => 0) (nI b) (nI ro) (nI (cN (M 1) 0 + z)) (nI (100 * f + t)) (nI n) (nI p)
    obtain ⟨a2, dv2, v2, hv4, kv4, wv2, N3, -, z2', z3', z4', z5', z6', z7'⟩ := s_hire r' h' c' (fun _ _ => 0) (nI b) (nI ro) (nI (cN (M 1) 0 + z + d)) (nI (100 * f + t)) (nI n) (nI p)
    have i1 := (Prod.mk.inj (Option.some.inj (em.symm.trans z2))).2
    have i2 := (Prod.mk.inj (Option.some.inj (en.symm.trans z2'))).2
    have m1 : M3 1 = M 1 := by rw [← i1, u2k _ _ (by decide)]
    have n1 : N3 1 = N 1 := by rw [← i2, u2k _ _ (by decide)]
    rw [i1] at em
    rw [i2] at en
    refine ⟨_, M3, N3, em, en, ⟨dv1, v1, hv3, kv3, tv, z3, z4, ht.trans z7.symm, z5⟩, ⟨dv2, v2, hv4, kv4, tv', z3', z4', ht'.trans z7'.symm, z5'⟩, by rw [m1, n1]; exact s, by rw [m1]; exact I.more, by rw [m1]; exact h0, ?_, by rw [z7', z7, t6]⟩
    rw [← i1, ← i2, u2s, u2s]
end
