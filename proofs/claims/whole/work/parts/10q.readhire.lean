/-! ===== PURE 16: a hire of the text ===== -/
def Mx (M M' : xV) : Prop := (∀ j, j < 7 ∨ 15 ≤ j → M' 0 j = M 0 j) ∧ ∀ k, k ≠ 0 → M' k = M k
theorem Mx.rf (M : xV) : Mx M M := ⟨fun _ _ => rfl, fun _ _ => rfl⟩
theorem Mx.m7 {A B C : xV} (h : Mx A B) (h' : M7 B C) : Mx A C := ⟨fun j hj => (h'.1 j (by omega)).trans (h.1 j hj), fun k hk => (h'.2 k hk).trans (h.2 k hk)⟩
theorem Mx.mr {A B C : xV} (h : Mx A B) (h' : Mr B C) : Mx A C := ⟨fun j hj => (h'.1 j (by omega) (by omega)).trans (h.1 j hj), fun k hk => (h'.2 k hk).trans (h.2 k hk)⟩
theorem Mx.st {A B : xV} (h : Mx A B) {b : Nat} (h8 : 8 ≤ b) (h15 : b < 15) (y : Int32) : Mx A (upd2 B 0 b y) := ⟨fun j hj => (u2j _ _ (by omega)).trans (h.1 j hj), fun k hk => (u2k _ _ hk).trans (h.2 k hk)⟩
def Vals (M : xV) (l : List (Nat × Int32)) : Prop := ∀ q ∈ l, M 0 q.1 = q.2
theorem Vals.nil (M : xV) : Vals M [] := fun _ h => absurd h List.not_mem_nil
theorem Vals.m7 {M M' : xV} {l : List (Nat × Int32)} (h : Vals M l) (h' : M7 M M') (n : ∀ q ∈ l, q.1 ≠ 7) : Vals M' l := fun q hq => (h'.1 _ (n q hq)).trans (h q hq)
theorem Vals.mr {M M' : xV} {l : List (Nat × Int32)} (h : Vals M l) (h' : Mr M M') (n : ∀ q ∈ l, q.1 ≠ 7 ∧ q.1 ≠ 12) : Vals M' l := fun q hq => (h'.1 _ (n q hq).1 (n q hq).2).trans (h q hq)
theorem Vals.st {M : xV} {l : List (Nat × Int32)} (h : Vals M l) {b : Nat} {y : Int32} (n : ∀ q ∈ l, q.1 ≠ b) : Vals (upd2 M 0 b y) ((b, y) :: l) := fun q hq => by
  rcases List.mem_cons.mp hq with rfl | hq
  · exact u2s _ _ _ _
  · exact (u2j _ _ (n q hq)).trans (h q hq)
theorem dig_ne {c x : Int32} (h : dig c) (hx : x < 48 ∨ 57 < x) : c ≠ x := by
  rintro rfl
  rcases hx with hx | hx
  · exact h.1 hx
  · exact h.2 hx
theorem c_skip_no {tv M : xV} {n p : Nat} (h : PT tv M n p) {x : Int32} (hx : hc tv n p ≠ x) : f_X4_skip tv x = some (0, tv) := by
  unfold f_X4_skip
  rw [c_here h, xbs, if_neg hx]
/-- the fields that were read -/
def FLD (wv M : xV) : Prop := ∃ b d f t ro n p : Nat, (wv 0 0 = nI b ∧ M 0 8 = nI b ∧ b < 1000) ∧ (wv 0 4 = nI d ∧ M 0 9 = nI d ∧ d < 1000) ∧ (wv 0 2 = nI f ∧ M 0 10 = nI f ∧ f < 1000) ∧ (wv 0 3 = nI t ∧ M 0 11 = nI t ∧ t < 1000) ∧ (wv 0 1 = nI ro ∧ M 0 12 = nI ro ∧ 1 ≤ ro ∧ ro ≤ 7) ∧ (wv 0 5 = nI n ∧ M 0 13 = nI n ∧ n < 1000) ∧ (wv 0 6 = nI p ∧ M 0 14 = nI p ∧ p < 1000)
def RES (n p : Nat) (tv M : xV) (x : Option (Int32 × xV × xV)) (y : Option (Int32 × xV)) : Prop := ∃ b tv' wv' M', x = some (b, tv', wv') ∧ y = some (b, M') ∧ Tx tv tv' ∧ Mx M M' ∧ (b = 0 ∨ (b = 1 ∧ ∃ p', PT tv' M' n p' ∧ p < p' ∧ FLD wv' M'))
theorem RES.fail {n p : Nat} {tv M tv' wv' M' : xV} (h : Tx tv tv') (h' : Mx M M') : RES n p tv M (some (0, tv', wv')) (some (0, M')) := ⟨0, tv', wv', M', rfl, rfl, h, h', Or.inl rfl⟩
theorem RES.fin {n p p' : Nat} {tv M tv' wv' M' : xV} (h : Tx tv tv') (h' : Mx M M') (P : PT tv' M' n p') (hp : p < p') (F : FLD wv' M') : RES n p tv M (some (1, tv', wv')) (some (1, M')) := ⟨1, tv', wv', M', rfl, rfl, h, h', Or.inr ⟨rfl, p', P, hp, F⟩⟩
theorem s_readHire {tv M : xV} {n p : Nat} (h : PT tv M n p) (wv : xV) : RES n p tv M (f_X4_readHire tv wv) (f_X8_readsHire M) := by
  unfold f_X4_readHire f_X8_readsHire f_X4_readSeries
  rcases s_num (h) (m := 1) (x := 1) (by decide) (by decide) rfl with ⟨e1, e2⟩ | ⟨y0, ta1, Ma2, pa3, hy0, hp0, e1, e2, Pa4, Ta5, Qa6⟩ | ⟨yz, tz, Mz, pz, hyz, e1, e2, Pz, Tz, Qz, Dz⟩
  · rw [e1, xb2s, xls, u2s, if_pos rfl, e2, xb2s, xls, u2s, if_pos rfl]
    exact RES.fail (Tx.rf _) ((Mx.rf _).st (by decide) (by decide) _)
  rotate_left
  · rw [e1, xb2s, xls, u2s, if_neg (fun z => nI_m1 (by omega) z.symm : ¬ nI yz = -1), e2, xb2s, xls, u2s, if_pos rfl]
    rw [c_skip_no Pz (dig_ne Dz (by decide)), xb2s, i00]
    exact RES.fail ((Tx.rf _).trans Tz) (((Mx.rf _).m7 Qz).st (by decide) (by decide) _)
  rw [e1, xb2s, xls, u2s, if_neg (fun z => nI_m1 (by omega) z.symm : ¬ nI y0 = -1), e2, xb2s, xls, u2s, if_neg (fun z => nI_m1 (by omega) z.symm : ¬ nI y0 = -1)]
  have P7 := Pa4.set (b := 8) (by decide) (nI y0)
  have T8 := (Tx.rf _).trans Ta5
  have X9 := ((Mx.rf _).m7 Qa6).st (b := 8) (by decide) (by decide) (nI y0)
  have V10 := ((Vals.nil _).m7 Qa6 (by simp)).st (b := 8) (y := nI y0) (by simp)
  rcases s_skip (P7) (x := 58) (by decide) with ⟨tb11, Mb12, e3, e4, Pb13, Tb14, Qb15⟩ | ⟨e3, e4, -⟩
  rotate_left
  · rw [e3, xb2s, i00, e4, xb2s, i00]
    exact RES.fail (T8) (X9)
  rw [e3, xb2s, i10, e4, xb2s, i10]
  have T16 := (T8).trans Tb14
  have X17 := (X9).m7 Qb15
  have V18 := (V10).m7 Qb15 (by simp)
  rcases s_num (Pb13) (m := 3) (x := 3) (by decide) (by decide) rfl with ⟨e1, e2⟩ | ⟨y1, ta19, Ma20, pa21, hy1, hp1, e1, e2, Pa22, Ta23, Qa24⟩ | ⟨yz, tz, Mz, pz, hyz, e1, e2, Pz, Tz, Qz, Dz⟩
  · rw [e1, xb2s, xls, u2s, if_pos rfl, e2, xb2s, xls, u2s, if_pos rfl]
    exact RES.fail (T16) ((X17).st (by decide) (by decide) _)
  rotate_left
  · rw [e1, xb2s, xls, u2s, if_neg (fun z => nI_m1 (by omega) z.symm : ¬ nI yz = -1), e2, xb2s, xls, u2s, if_pos rfl]
    rw [c_skip_no Pz (dig_ne Dz (by decide)), xb2s, i00]
    exact RES.fail ((T16).trans Tz) (((X17).m7 Qz).st (by decide) (by decide) _)
  rw [e1, xb2s, xls, u2s, if_neg (fun z => nI_m1 (by omega) z.symm : ¬ nI y1 = -1), e2, xb2s, xls, u2s, if_neg (fun z => nI_m1 (by omega) z.symm : ¬ nI y1 = -1)]
  have P25 := Pa22.set (b := 9) (by decide) (nI y1)
  have T26 := (T16).trans Ta23
  have X27 := ((X17).m7 Qa24).st (b := 9) (by decide) (by decide) (nI y1)
  have V28 := ((V18).m7 Qa24 (by simp)).st (b := 9) (y := nI y1) (by simp)
  rcases s_skip (P25) (x := 64) (by decide) with ⟨tb29, Mb30, e3, e4, Pb31, Tb32, Qb33⟩ | ⟨e3, e4, -⟩
  rotate_left
  · rw [e3, xb2s, i00, e4, xb2s, i00]
    exact RES.fail (T26) (X27)
  rw [e3, xb2s, i10, e4, xb2s, i10]
  have T34 := (T26).trans Tb32
  have X35 := (X27).m7 Qb33
  have V36 := (V28).m7 Qb33 (by simp)
  rcases s_num (Pb31) (m := 3) (x := 3) (by decide) (by decide) rfl with ⟨e1, e2⟩ | ⟨y2, ta37, Ma38, pa39, hy2, hp2, e1, e2, Pa40, Ta41, Qa42⟩ | ⟨yz, tz, Mz, pz, hyz, e1, e2, Pz, Tz, Qz, Dz⟩
  · rw [e1, xb2s, xls, u2s, if_pos rfl, e2, xb2s, xls, u2s, if_pos rfl]
    exact RES.fail (T34) ((X35).st (by decide) (by decide) _)
  rotate_left
  · rw [e1, xb2s, xls, u2s, if_neg (fun z => nI_m1 (by omega) z.symm : ¬ nI yz = -1), e2, xb2s, xls, u2s, if_pos rfl]
    rw [c_skip_no Pz (dig_ne Dz (by decide)), xb2s, i00]
    exact RES.fail ((T34).trans Tz) (((X35).m7 Qz).st (by decide) (by decide) _)
  rw [e1, xb2s, xls, u2s, if_neg (fun z => nI_m1 (by omega) z.symm : ¬ nI y2 = -1), e2, xb2s, xls, u2s, if_neg (fun z => nI_m1 (by omega) z.symm : ¬ nI y2 = -1)]
  have P43 := Pa40.set (b := 10) (by decide) (nI y2)
  have T44 := (T34).trans Ta41
  have X45 := ((X35).m7 Qa42).st (b := 10) (by decide) (by decide) (nI y2)
  have V46 := ((V36).m7 Qa42 (by simp)).st (b := 10) (y := nI y2) (by simp)
  rcases s_skip (P43) (x := 45) (by decide) with ⟨tb47, Mb48, e3, e4, Pb49, Tb50, Qb51⟩ | ⟨e3, e4, -⟩
  rotate_left
  · rw [e3, xb2s, i00, e4, xb2s, i00]
    exact RES.fail (T44) (X45)
  rw [e3, xb2s, i10, e4, xb2s, i10]
  have T52 := (T44).trans Tb50
  have X53 := (X45).m7 Qb51
  have V54 := (V46).m7 Qb51 (by simp)
  rcases s_num (Pb49) (m := 3) (x := 3) (by decide) (by decide) rfl with ⟨e1, e2⟩ | ⟨y3, ta55, Ma56, pa57, hy3, hp3, e1, e2, Pa58, Ta59, Qa60⟩ | ⟨yz, tz, Mz, pz, hyz, e1, e2, Pz, Tz, Qz, Dz⟩
  · rw [e1, xb2s, xls, u2s, if_pos rfl, e2, xb2s, xls, u2s, if_pos rfl]
    exact RES.fail (T52) ((X53).st (by decide) (by decide) _)
  rotate_left
  · rw [e1, xb2s, xls, u2s, if_neg (fun z => nI_m1 (by omega) z.symm : ¬ nI yz = -1), e2, xb2s, xls, u2s, if_pos rfl]
    rw [c_skip_no Pz (dig_ne Dz (by decide)), xb2s, i00]
    exact RES.fail ((T52).trans Tz) (((X53).m7 Qz).st (by decide) (by decide) _)
  rw [e1, xb2s, xls, u2s, if_neg (fun z => nI_m1 (by omega) z.symm : ¬ nI y3 = -1), e2, xb2s, xls, u2s, if_neg (fun z => nI_m1 (by omega) z.symm : ¬ nI y3 = -1)]
  have P61 := Pa58.set (b := 11) (by decide) (nI y3)
  have T62 := (T52).trans Ta59
  have X63 := ((X53).m7 Qa60).st (b := 11) (by decide) (by decide) (nI y3)
  have V64 := ((V54).m7 Qa60 (by simp)).st (b := 11) (y := nI y3) (by simp)
  rcases s_skip (P61) (x := 47) (by decide) with ⟨tb65, Mb66, e3, e4, Pb67, Tb68, Qb69⟩ | ⟨e3, e4, -⟩
  rotate_left
  · rw [e3, xb2s, i00, e4, xb2s, i00]
    exact RES.fail (T62) (X63)
  rw [e3, xb2s, i10, e4, xb2s, i10]
  have T70 := (T62).trans Tb68
  have X71 := (X63).m7 Qb69
  have V72 := (V64).m7 Qb69 (by simp)
  obtain ⟨ro, tr, Mr_, pr, hro, hpr, e5, e6, Pr, Tr, Qr, vr⟩ := s_rooms Pb67
  rw [e5, xb2s, xls, u2s, e6, xb2s]
  by_cases hr0 : ro = 0
  · rw [if_pos (by rw [hr0]; rfl), if_pos hr0, i00]
    exact RES.fail ((T70).trans Tr) ((X71).mr Qr)
  rw [if_neg (show ¬ nI ro = (0 : Int32) from ne_lit (b := 0) hr0 (by omega) (by decide)), if_neg hr0, i10]
  have TR_ := (T70).trans Tr
  have XR := (((X71).mr Qr).st (b := 13) (by decide) (by decide) 1).st (b := 14) (by decide) (by decide) 1
  have V0 := (V72).mr Qr (by simp)
  have V1 : Vals Mr_ [(12, nI ro), (11, nI y3), (10, nI y2), (9, nI y1), (8, nI y0)] := fun q hq => by
    rcases List.mem_cons.mp hq with rfl | hq
    · exact vr
    · exact V0 q hq
  have PR := (Pr.set (b := 13) (by decide) 1).set (b := 14) (by decide) 1
  have VR : Vals (upd2 (upd2 Mr_ 0 13 1) 0 14 1) [(12, nI ro), (11, nI y3), (10, nI y2), (9, nI y1), (8, nI y0)] := fun q hq => by
    have z : q.1 ≠ 13 ∧ q.1 ≠ 14 := by
      have n : ∀ q ∈ ([(12, nI ro), (11, nI y3), (10, nI y2), (9, nI y1), (8, nI y0)] : List (Nat × Int32)), q.1 ≠ 13 ∧ q.1 ≠ 14 := by simp
      exact n q hq
    rw [u2j _ _ z.2, u2j _ _ z.1]
    exact V1 q hq
  simp only [xls]
  rcases s_skip PR (x := 120) (by decide) with ⟨tx, Mx_, e7, e8, Px, Tx_, Qx⟩ | ⟨e7, e8, -⟩
  rotate_left
  · rw [e7, xb2s, i00, e8, xb2s, i00, u2s, if_neg (by decide : ¬ (1 : Int32) = -1)]
    simp only [xb3s, i10]
    rcases s_skip PR (x := 59) (by decide) with ⟨tb73, Mb74, e9, e10, Pb75, Tb76, Qb77⟩ | ⟨e9, e10, -⟩
    · rw [e9, xb2s, i10, e10, xb2s, i10]
      have VF := VR.m7 Qb77 (by simp)
      refine RES.fin (TR_.trans Tb76) (XR.m7 Qb77) Pb75 (by omega) ⟨y0, y1, y2, y3, ro, 1, 1, ⟨?_, VF (8, nI y0) (by simp), hy0⟩, ⟨?_, VF (9, nI y1) (by simp), hy1⟩, ⟨?_, VF (10, nI y2) (by simp), hy2⟩, ⟨?_, VF (11, nI y3) (by simp), hy3⟩, ⟨?_, VF (12, nI ro) (by simp), by omega, hro⟩, ⟨?_, (Qb77.1 13 (by decide)).trans ((u2j _ _ (by decide)).trans (u2s _ _ _ _)), by decide⟩, ⟨?_, (Qb77.1 14 (by decide)).trans (u2s _ _ _ _), by decide⟩⟩
      all_goals first | (simp [upd2, upd]; done) | (simp [upd2, upd]; rfl)
    · rw [e9, xb2s, i00, e10, xb2s, i00]
      exact RES.fail TR_ XR
  rw [e7, xb2s, i10, e8, xb2s, i10]
  have TX := TR_.trans Tx_
  have XX := XR.m7 Qx
  have VX := VR.m7 Qx (by simp)
  rcases s_num (Px) (m := 3) (x := 3) (by decide) (by decide) rfl with ⟨e1, e2⟩ | ⟨y4, ta78, Ma79, pa80, hy4, hp4, e1, e2, Pa81, Ta82, Qa83⟩ | ⟨yz, tz, Mz, pz, hyz, e1, e2, Pz, Tz, Qz, Dz⟩
  · rw [e1, xb2s, u2s, if_pos rfl, e2, xb2s, u2s, if_pos rfl]
    simp only [xb3s, i00]
    exact RES.fail (TX) ((XX).st (by decide) (by decide) _)
  rotate_left
  · rw [e1, xb2s, u2s, if_neg (fun z => nI_m1 (by omega) z.symm : ¬ nI yz = -1), e2, xb2s, u2s, if_pos rfl]
    rw [c_skip_no Pz (dig_ne Dz (by decide)), xb2s, i00]
    simp only [xb3s, i00]
    exact RES.fail ((TX).trans Tz) (((XX).m7 Qz).st (by decide) (by decide) _)
  rw [e1, xb2s, u2s, if_neg (fun z => nI_m1 (by omega) z.symm : ¬ nI y4 = -1), e2, xb2s, u2s, if_neg (fun z => nI_m1 (by omega) z.symm : ¬ nI y4 = -1)]
  have P84 := Pa81.set (b := 13) (by decide) (nI y4)
  have T85 := (TX).trans Ta82
  have X86 := ((XX).m7 Qa83).st (b := 13) (by decide) (by decide) (nI y4)
  have V87 := ((VX).m7 Qa83 (by simp)).st (b := 13) (y := nI y4) (by simp)
  rcases s_skip (P84) (x := 43) (by decide) with ⟨tb88, Mb89, e3, e4, Pb90, Tb91, Qb92⟩ | ⟨e3, e4, -⟩
  rotate_left
  · rw [e3, xb2s, i00, e4, xb2s, i00]
    simp only [xb3s, i00]
    exact RES.fail (T85) (X86)
  rw [e3, xb2s, i10, e4, xb2s, i10]
  have T93 := (T85).trans Tb91
  have X94 := (X86).m7 Qb92
  have V95 := (V87).m7 Qb92 (by simp)
  rcases s_num (Pb90) (m := 3) (x := 3) (by decide) (by decide) rfl with ⟨e1, e2⟩ | ⟨y5, ta96, Ma97, pa98, hy5, hp5, e1, e2, Pa99, Ta100, Qa101⟩ | ⟨yz, tz, Mz, pz, hyz, e1, e2, Pz, Tz, Qz, Dz⟩
  · rw [e1, xb2s, u2s, if_pos rfl, e2, xb2s, u2s, if_pos rfl]
    simp only [xb3s, i00]
    exact RES.fail (T93) ((X94).st (by decide) (by decide) _)
  rotate_left
  · rw [e1, xb2s, u2s, if_neg (fun z => nI_m1 (by omega) z.symm : ¬ nI yz = -1), e2, xb2s, u2s, if_pos rfl]
    simp only [xb3s, i10]
    rw [c_skip_no Pz (dig_ne Dz (by decide)), xb2s, i00]
    exact RES.fail ((T93).trans Tz) (((X94).m7 Qz).st (by decide) (by decide) _)
  rw [e1, xb2s, u2s, if_neg (fun z => nI_m1 (by omega) z.symm : ¬ nI y5 = -1), e2, xb2s, u2s, if_neg (fun z => nI_m1 (by omega) z.symm : ¬ nI y5 = -1)]
  have P102 := Pa99.set (b := 14) (by decide) (nI y5)
  have T103 := (T93).trans Ta100
  have X104 := ((X94).m7 Qa101).st (b := 14) (by decide) (by decide) (nI y5)
  have V105 := ((V95).m7 Qa101 (by simp)).st (b := 14) (y := nI y5) (by simp)
  simp only [xb3s, i10]
  rcases s_skip (P102) (x := 59) (by decide) with ⟨tb106, Mb107, e9, e10, Pb108, Tb109, Qb110⟩ | ⟨e9, e10, -⟩
  · rw [e9, xb2s, i10, e10, xb2s, i10]
    have VF := (V105).m7 Qb110 (by simp)
    refine RES.fin ((T103).trans Tb109) ((X104).m7 Qb110) Pb108 (by omega) ⟨y0, y1, y2, y3, ro, y4, y5, ⟨?_, VF (8, nI y0) (by simp), hy0⟩, ⟨?_, VF (9, nI y1) (by simp), hy1⟩, ⟨?_, VF (10, nI y2) (by simp), hy2⟩, ⟨?_, VF (11, nI y3) (by simp), hy3⟩, ⟨?_, VF (12, nI ro) (by simp), by omega, hro⟩, ⟨?_, VF (13, nI y4) (by simp), hy4⟩, ⟨?_, VF (14, nI y5) (by simp), hy5⟩⟩
    all_goals first | (simp [upd2, upd]; done) | (simp [upd2, upd]; rfl)
  · rw [e9, xb2s, i00, e10, xb2s, i00]
    exact RES.fail (T103) (X104)
