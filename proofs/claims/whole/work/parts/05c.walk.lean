/-! ===== the methods, walked (written by program) ===== -/
set_option maxRecDepth 100000 in
set_option maxHeartbeats 4000000 in
theorem c_X1_property (l : Launch) (G : xG) (z : Nat) (b : Nat) (v : xV) (i : Nat) (p1 : Int32) (r0 : Int32) (hi_i : i < 12) (hf : f_X1_property v i p1 = some r0) : xM l yX1_property wsX1_property 2 40 G z [.ref (b + (6 + 2 * i)), .int p1] (fun H => PX G b 37 (bkE G b) v H) (some (.int r0)) (fun H H1 => H1 = H) := by
  refine xM.of (cc := cX1_property) (maxL := 2) (ret := (some .int)) (by decide +kernel) rfl (Nat.le_of_ble_eq_true rfl) ?_
  intro p e s m args below meth c ls Q hQ S hr hlocks hK hP hl
  obtain ⟨hx, hb, hml, hown, hts⟩ := id S
  have h_bk := hP
  have hL : ∀ q ∈ ([] : List Loc), z ≤ q.base := fun q h => absurd h List.not_mem_nil
  have hl : lv_has ls 2 [(0, .ref (b + (6 + 2 * i))), (1, .int p1)] := hl
  have in1 : ∀ w ∈ u_ws RX1 TX1 15, w ∈ wsX1_property := fun _ h => List.mem_cons_of_mem _ (List.mem_append_right _ h)
  unfold f_X1_property at hf
  refine lv_iload_n hx hb dX1_property_0 rfl (lv_at hl 1 rfl) ?_
  by_cases c_1 : p1 = 0
  · have hf := (if_pos c_1).symm.trans hf
    refine x_tin (tgt := 80) (off := 79) S 0 c_1 dX1_property_1 (by decide) (by decide) (by decide) (by decide) ?_
    refine lv_aload_n hx hb dX1_property_80 rfl (lv_at hl 0 rfl) ?_
    refine x_get S hK h_bk (6 + 2 * i) (by omega) rfl (bkE_hire G b i hi_i _) rfl in1 1 (by decide) (xm 1 rfl) (x := .int (v (6 + 2 * i) 1)) rfl dX1_property_81 ?_
    have q0 := Option.some.inj hf
    subst r0
    subst hQ
    refine x_iret (post := (fun H H1 => H1 = H)) S hr hlocks rfl ?_ hL dX1_property_84
    exact rfl
  have hf := (if_neg c_1).symm.trans hf
  by_cases c_2 : p1 = 1
  · have hf := (if_pos c_2).symm.trans hf
    refine x_tin (tgt := 85) (off := 84) S 1 c_2 dX1_property_1 (by decide) (by decide) (by decide) (by decide) ?_
    refine lv_aload_n hx hb dX1_property_85 rfl (lv_at hl 0 rfl) ?_
    refine x_get S hK h_bk (6 + 2 * i) (by omega) rfl (bkE_hire G b i hi_i _) rfl in1 2 (by decide) (xm 2 rfl) (x := .int (v (6 + 2 * i) 2)) rfl dX1_property_86 ?_
    have q0 := Option.some.inj hf
    subst r0
    subst hQ
    refine x_iret (post := (fun H H1 => H1 = H)) S hr hlocks rfl ?_ hL dX1_property_89
    exact rfl
  have hf := (if_neg c_2).symm.trans hf
  by_cases c_3 : p1 = 2
  · have hf := (if_pos c_3).symm.trans hf
    refine x_tin (tgt := 90) (off := 89) S 2 c_3 dX1_property_1 (by decide) (by decide) (by decide) (by decide) ?_
    refine lv_aload_n hx hb dX1_property_90 rfl (lv_at hl 0 rfl) ?_
    refine x_get S hK h_bk (6 + 2 * i) (by omega) rfl (bkE_hire G b i hi_i _) rfl in1 3 (by decide) (xm 3 rfl) (x := .int (v (6 + 2 * i) 3)) rfl dX1_property_91 ?_
    have q0 := Option.some.inj hf
    subst r0
    subst hQ
    refine x_iret (post := (fun H H1 => H1 = H)) S hr hlocks rfl ?_ hL dX1_property_94
    exact rfl
  have hf := (if_neg c_3).symm.trans hf
  by_cases c_4 : p1 = 3
  · have hf := (if_pos c_4).symm.trans hf
    refine x_tin (tgt := 95) (off := 94) S 3 c_4 dX1_property_1 (by decide) (by decide) (by decide) (by decide) ?_
    refine lv_aload_n hx hb dX1_property_95 rfl (lv_at hl 0 rfl) ?_
    refine x_get S hK h_bk (6 + 2 * i) (by omega) rfl (bkE_hire G b i hi_i _) rfl in1 4 (by decide) (xm 4 rfl) (x := .int (v (6 + 2 * i) 4)) rfl dX1_property_96 ?_
    have q0 := Option.some.inj hf
    subst r0
    subst hQ
    refine x_iret (post := (fun H H1 => H1 = H)) S hr hlocks rfl ?_ hL dX1_property_99
    exact rfl
  have hf := (if_neg c_4).symm.trans hf
  by_cases c_5 : p1 = 4
  · have hf := (if_pos c_5).symm.trans hf
    refine x_tin (tgt := 100) (off := 99) S 4 c_5 dX1_property_1 (by decide) (by decide) (by decide) (by decide) ?_
    refine lv_aload_n hx hb dX1_property_100 rfl (lv_at hl 0 rfl) ?_
    refine x_get S hK h_bk (6 + 2 * i) (by omega) rfl (bkE_hire G b i hi_i _) rfl in1 5 (by decide) (xm 5 rfl) (x := .int (v (6 + 2 * i) 5)) rfl dX1_property_101 ?_
    have q0 := Option.some.inj hf
    subst r0
    subst hQ
    refine x_iret (post := (fun H H1 => H1 = H)) S hr hlocks rfl ?_ hL dX1_property_104
    exact rfl
  have hf := (if_neg c_5).symm.trans hf
  by_cases c_6 : p1 = 5
  · have hf := (if_pos c_6).symm.trans hf
    refine x_tin (tgt := 105) (off := 104) S 5 c_6 dX1_property_1 (by decide) (by decide) (by decide) (by decide) ?_
    refine lv_aload_n hx hb dX1_property_105 rfl (lv_at hl 0 rfl) ?_
    refine x_get S hK h_bk (6 + 2 * i) (by omega) rfl (bkE_hire G b i hi_i _) rfl in1 6 (by decide) (xm 6 rfl) (x := .int (v (6 + 2 * i) 6)) rfl dX1_property_106 ?_
    have q0 := Option.some.inj hf
    subst r0
    subst hQ
    refine x_iret (post := (fun H H1 => H1 = H)) S hr hlocks rfl ?_ hL dX1_property_109
    exact rfl
  have hf := (if_neg c_6).symm.trans hf
  by_cases c_7 : p1 = 6
  · have hf := (if_pos c_7).symm.trans hf
    refine x_tin (tgt := 110) (off := 109) S 6 c_7 dX1_property_1 (by decide) (by decide) (by decide) (by decide) ?_
    refine lv_aload_n hx hb dX1_property_110 rfl (lv_at hl 0 rfl) ?_
    refine x_get S hK h_bk (6 + 2 * i) (by omega) rfl (bkE_hire G b i hi_i _) rfl in1 7 (by decide) (xm 7 rfl) (x := .int (v (6 + 2 * i) 7)) rfl dX1_property_111 ?_
    have q0 := Option.some.inj hf
    subst r0
    subst hQ
    refine x_iret (post := (fun H H1 => H1 = H)) S hr hlocks rfl ?_ hL dX1_property_114
    exact rfl
  have hf := (if_neg c_7).symm.trans hf
  by_cases c_8 : p1 = 7
  · have hf := (if_pos c_8).symm.trans hf
    refine x_tin (tgt := 115) (off := 114) S 7 c_8 dX1_property_1 (by decide) (by decide) (by decide) (by decide) ?_
    refine lv_aload_n hx hb dX1_property_115 rfl (lv_at hl 0 rfl) ?_
    refine x_get S hK h_bk (6 + 2 * i) (by omega) rfl (bkE_hire G b i hi_i _) rfl in1 8 (by decide) (xm 8 rfl) (x := .int (v (6 + 2 * i) 8)) rfl dX1_property_116 ?_
    have q0 := Option.some.inj hf
    subst r0
    subst hQ
    refine x_iret (post := (fun H H1 => H1 = H)) S hr hlocks rfl ?_ hL dX1_property_119
    exact rfl
  have hf := (if_neg c_8).symm.trans hf
  by_cases c_9 : p1 = 8
  · have hf := (if_pos c_9).symm.trans hf
    refine x_tin (tgt := 120) (off := 119) S 8 c_9 dX1_property_1 (by decide) (by decide) (by decide) (by decide) ?_
    refine lv_aload_n hx hb dX1_property_120 rfl (lv_at hl 0 rfl) ?_
    refine x_get S hK h_bk (6 + 2 * i) (by omega) rfl (bkE_hire G b i hi_i _) rfl in1 5 (by decide) (xm 5 rfl) (x := .int (v (6 + 2 * i) 5)) rfl dX1_property_121 ?_
    obtain ⟨r_10, e_11, hf⟩ := xb_some hf
    refine x_callNi (As := [.int (v (6 + 2 * i) 5)]) (rest := []) S hK (c_X7_discountOf l G z (v (6 + 2 * i) 5) r_10 e_11) gX1_property_X7_discountOf_n74 (xm 15 rfl) (xm 16 rfl) hK.2.2.2.2.1 rfl 1 (by decide +kernel) rfl ⟨Nat.le_of_ble_eq_true rfl, Nat.le_of_ble_eq_true rfl⟩ rfl hl.1 rfl (Nat.le_of_ble_eq_true rfl) dX1_property_124 hL ⟨Nat.zero_le _, Nat.zero_le _⟩ (fun H1 locs hL hpost => ?_)
    subst hpost
    have q0 := Option.some.inj hf
    subst r0
    subst hQ
    refine x_iret (post := (fun H H1 => H1 = H)) S hr hlocks rfl ?_ hL dX1_property_127
    exact rfl
  have hf := (if_neg c_9).symm.trans hf
  by_cases c_12 : p1 = 9
  · have hf := (if_pos c_12).symm.trans hf
    refine x_tin (tgt := 128) (off := 127) S 9 c_12 dX1_property_1 (by decide) (by decide) (by decide) (by decide) ?_
    refine lv_aload_n hx hb dX1_property_128 rfl (lv_at hl 0 rfl) ?_
    obtain ⟨r_13, e_14, hf⟩ := xb_some hf
    refine x_callVi (As := []) (rest := []) S hK (c_X1_plannedSessions l G z b v i r_13 hi_i e_14) gX1_property_X1_plannedSessions rfl 0 (by decide +kernel) rfl ⟨Nat.le_of_ble_eq_true rfl, Nat.le_of_ble_eq_true rfl⟩ h_bk (6 + 2 * i) (by omega) rfl (bkE_hire G b i hi_i _) rfl h_bk hl.1 rfl (Nat.le_of_ble_eq_true rfl) dX1_property_129 hL ⟨Nat.zero_le _, Nat.zero_le _⟩ (fun H1 locs hL hpost => ?_)
    subst hpost
    have q0 := Option.some.inj hf
    subst r0
    subst hQ
    refine x_iret (post := (fun H H1 => H1 = H)) S hr hlocks rfl ?_ hL dX1_property_132
    exact rfl
  have hf := (if_neg c_12).symm.trans hf
  by_cases c_15 : p1 = 10
  · have hf := (if_pos c_15).symm.trans hf
    refine x_tin (tgt := 133) (off := 132) S 10 c_15 dX1_property_1 (by decide) (by decide) (by decide) (by decide) ?_
    refine lv_aload_n hx hb dX1_property_133 rfl (lv_at hl 0 rfl) ?_
    refine x_get S hK h_bk (6 + 2 * i) (by omega) rfl (bkE_hire G b i hi_i _) rfl in1 9 (by decide) (xm 9 rfl) (x := .int (v (6 + 2 * i) 9)) rfl dX1_property_134 ?_
    obtain ⟨r_16, e_17, hf⟩ := xb_some hf
    refine x_callTi (As := [.int (v (6 + 2 * i) 9)]) (rest := []) S hK (c_J6_bitCount_0f7a4 l G z (v (6 + 2 * i) 9) r_16 e_17) gX1_property_J6_bitCount_0f7a4 rfl 1 (by decide +kernel) rfl ⟨Nat.le_of_ble_eq_true rfl, Nat.le_of_ble_eq_true rfl⟩ rfl hl.1 rfl (Nat.le_of_ble_eq_true rfl) dX1_property_137 hL ⟨Nat.zero_le _, Nat.zero_le _⟩ (fun H1 locs hL hpost => ?_)
    subst hpost
    have q0 := Option.some.inj hf
    subst r0
    subst hQ
    refine x_iret (post := (fun H H1 => H1 = H)) S hr hlocks rfl ?_ hL dX1_property_140
    exact rfl
  have hf := (if_neg c_15).symm.trans hf
  by_cases c_18 : p1 = 11
  · have hf := (if_pos c_18).symm.trans hf
    refine x_tin (tgt := 141) (off := 140) S 11 c_18 dX1_property_1 (by decide) (by decide) (by decide) (by decide) ?_
    refine lv_aload_n hx hb dX1_property_141 rfl (lv_at hl 0 rfl) ?_
    refine x_get S hK h_bk (6 + 2 * i) (by omega) rfl (bkE_hire G b i hi_i _) rfl in1 10 (by decide) (xm 10 rfl) (x := .int (v (6 + 2 * i) 10)) rfl dX1_property_142 ?_
    obtain ⟨r_19, e_20, hf⟩ := xb_some hf
    refine x_callTi (As := [.int (v (6 + 2 * i) 10)]) (rest := []) S hK (c_J6_bitCount_0f7a4 l G z (v (6 + 2 * i) 10) r_19 e_20) gX1_property_J6_bitCount_0f7a4 rfl 1 (by decide +kernel) rfl ⟨Nat.le_of_ble_eq_true rfl, Nat.le_of_ble_eq_true rfl⟩ rfl hl.1 rfl (Nat.le_of_ble_eq_true rfl) dX1_property_145 hL ⟨Nat.zero_le _, Nat.zero_le _⟩ (fun H1 locs hL hpost => ?_)
    subst hpost
    have q0 := Option.some.inj hf
    subst r0
    subst hQ
    refine x_iret (post := (fun H H1 => H1 = H)) S hr hlocks rfl ?_ hL dX1_property_148
    exact rfl
  have hf := (if_neg c_18).symm.trans hf
  by_cases c_21 : p1 = 12
  · have hf := (if_pos c_21).symm.trans hf
    refine x_tin (tgt := 149) (off := 148) S 12 c_21 dX1_property_1 (by decide) (by decide) (by decide) (by decide) ?_
    refine lv_aload_n hx hb dX1_property_149 rfl (lv_at hl 0 rfl) ?_
    refine x_get S hK h_bk (6 + 2 * i) (by omega) rfl (bkE_hire G b i hi_i _) rfl in1 11 (by decide) (xm 11 rfl) (x := .int (v (6 + 2 * i) 11)) rfl dX1_property_150 ?_
    have q0 := Option.some.inj hf
    subst r0
    subst hQ
    refine x_iret (post := (fun H H1 => H1 = H)) S hr hlocks rfl ?_ hL dX1_property_153
    exact rfl
  have hf := (if_neg c_21).symm.trans hf
  by_cases c_22 : p1 = 13
  · have hf := (if_pos c_22).symm.trans hf
    refine x_tin (tgt := 154) (off := 153) S 13 c_22 dX1_property_1 (by decide) (by decide) (by decide) (by decide) ?_
    refine lv_aload_n hx hb dX1_property_154 rfl (lv_at hl 0 rfl) ?_
    refine x_get S hK h_bk (6 + 2 * i) (by omega) rfl (bkE_hire G b i hi_i _) rfl in1 12 (by decide) (xm 12 rfl) (x := .int (v (6 + 2 * i) 12)) rfl dX1_property_155 ?_
    have q0 := Option.some.inj hf
    subst r0
    subst hQ
    refine x_iret (post := (fun H H1 => H1 = H)) S hr hlocks rfl ?_ hL dX1_property_158
    exact rfl
  have hf := (if_neg c_22).symm.trans hf
  by_cases c_23 : p1 = 14
  · have hf := (if_pos c_23).symm.trans hf
    refine x_tin (tgt := 172) (off := 171) S 14 c_23 dX1_property_1 (by decide) (by decide) (by decide) (by decide) ?_
    refine lv_ldc (v := (-2000000001)) hx hb hown (hts _ (xm 14 rfl)) dX1_property_172 ?_
    have q0 := Option.some.inj hf
    subst r0
    subst hQ
    refine x_iret (post := (fun H H1 => H1 = H)) S hr hlocks rfl ?_ hL dX1_property_174
    exact rfl
  have hf := (if_neg c_23).symm.trans hf
  by_cases c_24 : p1 = 15
  · have hf := (if_pos c_24).symm.trans hf
    refine x_tin (tgt := 159) (off := 158) S 15 c_24 dX1_property_1 (by decide) (by decide) (by decide) (by decide) ?_
    refine lv_aload_n hx hb dX1_property_159 rfl (lv_at hl 0 rfl) ?_
    refine x_get S hK h_bk (6 + 2 * i) (by omega) rfl (bkE_hire G b i hi_i _) rfl in1 13 (by decide) (xm 13 rfl) (x := .int (v (6 + 2 * i) 13)) rfl dX1_property_160 ?_
    refine lv_if_eq (tgt := 170) hx hb dX1_property_163 (by decide) (fun c_25 => ?_) (fun c_25 => ?_)
    · have hf := (if_pos c_25).symm.trans hf
      refine lv_iconst (v := 0) hx hb dX1_property_170 (by decide) ?_
      have q0 := Option.some.inj hf
      subst r0
      subst hQ
      refine x_iret (post := (fun H H1 => H1 = H)) S hr hlocks rfl ?_ hL dX1_property_171
      exact rfl
    · have hf := (if_neg c_25).symm.trans hf
      refine lv_iconst (v := 1) hx hb dX1_property_166 (by decide) ?_
      refine lv_goto (tgt := 171) hx hb dX1_property_167 (by decide) ?_
      have q0 := Option.some.inj hf
      subst r0
      subst hQ
      refine x_iret (post := (fun H H1 => H1 = H)) S hr hlocks rfl ?_ hL dX1_property_171
      exact rfl
  have hf := (if_neg c_24).symm.trans hf
  have tc_1 : p1.toInt ≠ 0 := fun h9 => c_1 (xti (h9.trans (by decide)))
  have tc_2 : p1.toInt ≠ 1 := fun h9 => c_2 (xti (h9.trans (by decide)))
  have tc_3 : p1.toInt ≠ 2 := fun h9 => c_3 (xti (h9.trans (by decide)))
  have tc_4 : p1.toInt ≠ 3 := fun h9 => c_4 (xti (h9.trans (by decide)))
  have tc_5 : p1.toInt ≠ 4 := fun h9 => c_5 (xti (h9.trans (by decide)))
  have tc_6 : p1.toInt ≠ 5 := fun h9 => c_6 (xti (h9.trans (by decide)))
  have tc_7 : p1.toInt ≠ 6 := fun h9 => c_7 (xti (h9.trans (by decide)))
  have tc_8 : p1.toInt ≠ 7 := fun h9 => c_8 (xti (h9.trans (by decide)))
  have tc_9 : p1.toInt ≠ 8 := fun h9 => c_9 (xti (h9.trans (by decide)))
  have tc_12 : p1.toInt ≠ 9 := fun h9 => c_12 (xti (h9.trans (by decide)))
  have tc_15 : p1.toInt ≠ 10 := fun h9 => c_15 (xti (h9.trans (by decide)))
  have tc_18 : p1.toInt ≠ 11 := fun h9 => c_18 (xti (h9.trans (by decide)))
  have tc_21 : p1.toInt ≠ 12 := fun h9 => c_21 (xti (h9.trans (by decide)))
  have tc_22 : p1.toInt ≠ 13 := fun h9 => c_22 (xti (h9.trans (by decide)))
  have tc_23 : p1.toInt ≠ 14 := fun h9 => c_23 (xti (h9.trans (by decide)))
  have tc_24 : p1.toInt ≠ 15 := fun h9 => c_24 (xti (h9.trans (by decide)))
  refine lv_tableOut (tgt := 172) hx hb dX1_property_1 (by omega) (by decide) ?_
  refine lv_ldc (v := (-2000000001)) hx hb hown (hts _ (xm 14 rfl)) dX1_property_172 ?_
  have q0 := Option.some.inj hf
  subst r0
  subst hQ
  refine x_iret (post := (fun H H1 => H1 = H)) S hr hlocks rfl ?_ hL dX1_property_174
  exact rfl
set_option maxRecDepth 100000 in
set_option maxHeartbeats 4000000 in
theorem c_X1_shareOf (l : Launch) (G : xG) (z : Nat) (b : Nat) (v : xV) (i : Nat) (p1 : Int32) (r0 : Int32) (hi_i : i < 12) (hf : f_X1_shareOf v i p1 = some r0) : xM l yX1_shareOf wsX1_shareOf 0 0 G z [.ref (b + (6 + 2 * i)), .int p1] (fun H => PX G b 37 (bkE G b) v H) (some (.int r0)) (fun H H1 => H1 = H) := by
  refine xM.of (cc := cX1_shareOf) (maxL := 2) (ret := (some .int)) (by decide +kernel) rfl (Nat.le_of_ble_eq_true rfl) ?_
  intro p e s m args below meth c ls Q hQ S hr hlocks hK hP hl
  obtain ⟨hx, hb, hml, hown, hts⟩ := id S
  have h_bk := hP
  have hL : ∀ q ∈ ([] : List Loc), z ≤ q.base := fun q h => absurd h List.not_mem_nil
  have hl : lv_has ls 2 [(0, .ref (b + (6 + 2 * i))), (1, .int p1)] := hl
  have in1 : ∀ w ∈ u_ws RX1 TX1 15, w ∈ wsX1_shareOf := fun _ h => List.mem_cons_of_mem _ (List.mem_append_right _ h)
  unfold f_X1_shareOf at hf
  refine lv_aload_n hx hb dX1_shareOf_0 rfl (lv_at hl 0 rfl) ?_
  refine x_get S hK h_bk (6 + 2 * i) (by omega) rfl (bkE_hire G b i hi_i _) rfl in1 5 (by decide) (xm 1 rfl) (x := .int (v (6 + 2 * i) 5)) rfl dX1_shareOf_1 ?_
  refine lv_iconst (v := 1) hx hb dX1_shareOf_4 (by decide) ?_
  refine lv_icmp_ge (tgt := 10) hx hb dX1_shareOf_5 (by decide) (fun c_1 => ?_) (fun c_1 => ?_)
  · have hf := (if_pos c_1).symm.trans hf
    refine lv_aload_n hx hb dX1_shareOf_10 rfl (lv_at hl 0 rfl) ?_
    refine x_get S hK h_bk (6 + 2 * i) (by omega) rfl (bkE_hire G b i hi_i _) rfl in1 8 (by decide) (xm 2 rfl) (x := .int (v (6 + 2 * i) 8)) rfl dX1_shareOf_11 ?_
    refine lv_aload_n hx hb dX1_shareOf_14 rfl (lv_at hl 0 rfl) ?_
    refine x_get S hK h_bk (6 + 2 * i) (by omega) rfl (bkE_hire G b i hi_i _) rfl in1 5 (by decide) (xm 1 rfl) (x := .int (v (6 + 2 * i) 5)) rfl dX1_shareOf_15 ?_
    obtain ⟨g_2, hf⟩ := xg_some hf
    refine lv_idiv hx hb dX1_shareOf_18 g_2 ?_
    refine lv_iload_n hx hb dX1_shareOf_19 rfl (lv_at hl 1 rfl) ?_
    refine lv_aload_n hx hb dX1_shareOf_20 rfl (lv_at hl 0 rfl) ?_
    refine x_get S hK h_bk (6 + 2 * i) (by omega) rfl (bkE_hire G b i hi_i _) rfl in1 8 (by decide) (xm 2 rfl) (x := .int (v (6 + 2 * i) 8)) rfl dX1_shareOf_21 ?_
    refine lv_aload_n hx hb dX1_shareOf_24 rfl (lv_at hl 0 rfl) ?_
    refine x_get S hK h_bk (6 + 2 * i) (by omega) rfl (bkE_hire G b i hi_i _) rfl in1 5 (by decide) (xm 1 rfl) (x := .int (v (6 + 2 * i) 5)) rfl dX1_shareOf_25 ?_
    obtain ⟨g_3, hf⟩ := xg_some hf
    refine lv_irem hx hb dX1_shareOf_28 g_3 ?_
    refine lv_icmp_ge (tgt := 36) hx hb dX1_shareOf_29 (by decide) (fun c_4 => ?_) (fun c_4 => ?_)
    · have hf := (if_pos c_4).symm.trans hf
      refine lv_iconst (v := 0) hx hb dX1_shareOf_36 (by decide) ?_
      refine lv_iadd hx hb dX1_shareOf_37 ?_
      have q0 := Option.some.inj hf
      subst r0
      subst hQ
      refine x_iret (post := (fun H H1 => H1 = H)) S hr hlocks rfl ?_ hL dX1_shareOf_38
      exact rfl
    · have hf := (if_neg c_4).symm.trans hf
      refine lv_iconst (v := 1) hx hb dX1_shareOf_32 (by decide) ?_
      refine lv_goto (tgt := 37) hx hb dX1_shareOf_33 (by decide) ?_
      refine lv_iadd hx hb dX1_shareOf_37 ?_
      have q0 := Option.some.inj hf
      subst r0
      subst hQ
      refine x_iret (post := (fun H H1 => H1 = H)) S hr hlocks rfl ?_ hL dX1_shareOf_38
      exact rfl
  · have hf := (if_neg c_1).symm.trans hf
    refine lv_iconst (v := 0) hx hb dX1_shareOf_8 (by decide) ?_
    have q0 := Option.some.inj hf
    subst r0
    subst hQ
    refine x_iret (post := (fun H H1 => H1 = H)) S hr hlocks rfl ?_ hL dX1_shareOf_9
    exact rfl
set_option maxRecDepth 100000 in
set_option maxHeartbeats 4000000 in
theorem c_X1_refundOf (l : Launch) (G : xG) (z : Nat) (b : Nat) (v : xV) (i : Nat) (p1 : Int32) (p2 : Int32) (r0 : Int32) (hi_i : i < 12) (hf : f_X1_refundOf v i p1 p2 = some r0) : xM l yX1_refundOf wsX1_refundOf 1 21 G z [.ref (b + (6 + 2 * i)), .int p1, .int p2] (fun H => PX G b 37 (bkE G b) v H) (some (.int r0)) (fun H H1 => H1 = H) := by
  refine xM.of (cc := cX1_refundOf) (maxL := 4) (ret := (some .int)) (by decide +kernel) rfl (Nat.le_of_ble_eq_true rfl) ?_
  intro p e s m args below meth c ls Q hQ S hr hlocks hK hP hl
  obtain ⟨hx, hb, hml, hown, hts⟩ := id S
  have h_bk := hP
  have hL : ∀ q ∈ ([] : List Loc), z ≤ q.base := fun q h => absurd h List.not_mem_nil
  have hl : lv_has ls 4 [(0, .ref (b + (6 + 2 * i))), (1, .int p1), (2, .int p2)] := hl
  unfold f_X1_refundOf at hf
  refine lv_aload_n hx hb dX1_refundOf_0 rfl (lv_at hl 0 rfl) ?_
  refine lv_iload_n hx hb dX1_refundOf_1 rfl (lv_at hl 1 rfl) ?_
  obtain ⟨r_1, e_2, hf⟩ := xb_some hf
  refine x_callVi (As := [.int p1]) (rest := []) S hK (c_X1_dayOf l G z b v i p1 r_1 hi_i e_2) gX1_refundOf_X1_dayOf rfl 1 (by decide +kernel) rfl ⟨Nat.le_of_ble_eq_true rfl, Nat.le_of_ble_eq_true rfl⟩ h_bk (6 + 2 * i) (by omega) rfl (bkE_hire G b i hi_i _) rfl h_bk hl.1 rfl (Nat.le_of_ble_eq_true rfl) dX1_refundOf_2 hL ⟨Nat.zero_le _, Nat.zero_le _⟩ (fun H1 locs hL hpost => ?_)
  subst hpost
  refine lv_iload_n hx hb dX1_refundOf_5 rfl (lv_at hl 2 rfl) ?_
  refine lv_isub hx hb dX1_refundOf_6 ?_
  obtain ⟨x_3, ex_3, hf⟩ := xl_some hf
  refine x_top ex_3 ?_
  refine lv_istore_n (lv' := [(3, .int x_3), (0, .ref (b + (6 + 2 * i))), (1, .int p1), (2, .int p2)]) hx hb dX1_refundOf_7 rfl hl (by decide) rfl (fun ls hl => ?_)
  refine lv_iload_n hx hb dX1_refundOf_8 rfl (lv_at hl 0 rfl) ?_
  refine lv_bipush (v := 14) hx hb dX1_refundOf_9 (by decide) ?_
  refine lv_icmp_lt (tgt := 20) hx hb dX1_refundOf_11 (by decide) (fun c_4 => ?_) (fun c_4 => ?_)
  · have hf := (if_pos c_4).symm.trans hf
    refine lv_iload_n hx hb dX1_refundOf_20 rfl (lv_at hl 0 rfl) ?_
    refine lv_bipush (v := 7) hx hb dX1_refundOf_21 (by decide) ?_
    refine lv_icmp_lt (tgt := 36) hx hb dX1_refundOf_23 (by decide) (fun c_5 => ?_) (fun c_5 => ?_)
    · have hf := (if_pos c_5).symm.trans hf
      refine lv_iconst (v := 0) hx hb dX1_refundOf_36 (by decide) ?_
      have q0 := Option.some.inj hf
      subst r0
      subst hQ
      refine x_iret (post := (fun H H1 => H1 = H)) S hr hlocks rfl ?_ hL dX1_refundOf_37
      exact rfl
    · have hf := (if_neg c_5).symm.trans hf
      refine lv_aload_n hx hb dX1_refundOf_26 rfl (lv_at hl 1 rfl) ?_
      refine lv_iload_n hx hb dX1_refundOf_27 rfl (lv_at hl 2 rfl) ?_
      obtain ⟨r_6, e_7, hf⟩ := xb_some hf
      refine x_callVi (As := [.int p1]) (rest := []) S hK (c_X1_shareOf l G z b v i p1 r_6 hi_i e_7) gX1_refundOf_X1_shareOf rfl 1 (by decide +kernel) rfl ⟨Nat.le_of_ble_eq_true rfl, Nat.le_of_ble_eq_true rfl⟩ h_bk (6 + 2 * i) (by omega) rfl (bkE_hire G b i hi_i _) rfl h_bk hl.1 rfl (Nat.le_of_ble_eq_true rfl) dX1_refundOf_28 hL ⟨Nat.zero_le _, Nat.zero_le _⟩ (fun H1 locs hL hpost => ?_)
      subst hpost
      refine lv_iconst (v := 2) hx hb dX1_refundOf_31 (by decide) ?_
      refine lv_idiv hx hb dX1_refundOf_32 (by decide) ?_
      refine lv_goto (tgt := 37) hx hb dX1_refundOf_33 (by decide) ?_
      have q0 := Option.some.inj hf
      subst r0
      subst hQ
      refine x_iret (post := (fun H H1 => H1 = H)) S hr hlocks rfl ?_ hL dX1_refundOf_37
      exact rfl
  · have hf := (if_neg c_4).symm.trans hf
    refine lv_aload_n hx hb dX1_refundOf_14 rfl (lv_at hl 1 rfl) ?_
    refine lv_iload_n hx hb dX1_refundOf_15 rfl (lv_at hl 2 rfl) ?_
    obtain ⟨r_8, e_9, hf⟩ := xb_some hf
    refine x_callVi (As := [.int p1]) (rest := []) S hK (c_X1_shareOf l G z b v i p1 r_8 hi_i e_9) gX1_refundOf_X1_shareOf rfl 1 (by decide +kernel) rfl ⟨Nat.le_of_ble_eq_true rfl, Nat.le_of_ble_eq_true rfl⟩ h_bk (6 + 2 * i) (by omega) rfl (bkE_hire G b i hi_i _) rfl h_bk hl.1 rfl (Nat.le_of_ble_eq_true rfl) dX1_refundOf_16 hL ⟨Nat.zero_le _, Nat.zero_le _⟩ (fun H1 locs hL hpost => ?_)
    subst hpost
    have q0 := Option.some.inj hf
    subst r0
    subst hQ
    refine x_iret (post := (fun H H1 => H1 = H)) S hr hlocks rfl ?_ hL dX1_refundOf_19
    exact rfl
set_option maxRecDepth 100000 in
set_option maxHeartbeats 4000000 in
theorem c_X2_dropOldest (l : Launch) (G : xG) (z : Nat) (x : Nat) (hv : xV) (kv : Nat → xV) (hv' : xV) (hz_hs : z ≤ x) (hf : f_X2_dropOldest hv kv = some hv') : xM l yX2_dropOldest wsX2_dropOldest 0 0 G z [.ref x] (fun H => PX G x 2 (hsE G x) hv H ∧ HU G x kv H) none (fun H H1 => PX G x 2 (hsE G x) hv' H1 ∧ XF (fun q => (x ≤ q ∧ q < x + 2)) H H1) := by
  refine xM.of (cc := cX2_dropOldest) (maxL := 3) (ret := none) (by decide +kernel) rfl (Nat.le_of_ble_eq_true rfl) ?_
  intro p e s m args below meth c ls Q hQ S hr hlocks hK hP hl
  obtain ⟨hx, hb, hml, hown, hts⟩ := id S
  obtain ⟨h_hs, h_hu⟩ := hP
  have hL : ∀ q ∈ ([] : List Loc), z ≤ q.base := fun q h => absurd h List.not_mem_nil
  have hF : XF (fun q => (x ≤ q ∧ q < x + 2)) s.heap s.heap := XF.rf
  have hl : lv_has ls 3 [(0, .ref x)] := hl
  have in2 : ∀ w ∈ u_ws RX2 TX2 2, w ∈ wsX2_dropOldest := fun _ h => List.mem_cons_of_mem _ (List.mem_append_right _ h)
  unfold f_X2_dropOldest at hf
  refine lv_aload_n hx hb dX2_dropOldest_0 rfl (lv_at hl 0 rfl) ?_
  refine x_get S hK h_hs 0 (by decide) rfl rfl rfl in2 0 (by decide) (xm 1 rfl) (x := .ref (x + 1)) rfl dX2_dropOldest_1 ?_
  refine lv_iconst (v := 0) hx hb dX2_dropOldest_4 (by decide) ?_
  obtain ⟨g_1, hf⟩ := xg_some hf
  obtain ⟨i_2, ei_2, hf⟩ := xl_some hf
  have hi_i_2 : i_2 < 4 := by rw [ei_2]; exact xin_lt g_1
  obtain ⟨i_3, ei_3, hf⟩ := xl_some hf
  obtain ⟨hi_i_3, hf⟩ := xg_some hf
  refine x_aald S hK h_hs 1 (by decide) rfl rfl 1 rfl i_2 ei_2.symm g_1 (r := (x + (2 + 37 * i_3))) (by show some _ = some _; rw [ei_3]) dX2_dropOldest_5 ?_
  refine lv_astore_n (lv' := [(1, .ref (x + (2 + 37 * i_3))), (0, .ref x)]) hx hb dX2_dropOldest_6 rfl hl (by decide) rfl (fun ls hl => ?_)
  refine lv_iconst (v := 1) hx hb dX2_dropOldest_7 (by decide) ?_
  refine lv_istore_n (lv' := [(2, .int 1), (1, .ref (x + (2 + 37 * i_3))), (0, .ref x)]) hx hb dX2_dropOldest_8 rfl hl (by decide) rfl (fun ls hl => ?_)
  have lp_9 : ∀ (K_9 : Int32 → xV → Option xV), (∀ (x_4 : Int32) (hv_5 : xV) (H : Heap) (locs : List Loc) (ls : Array Slot), (∀ q ∈ locs, z ≤ q.base) → PX G x 2 (hsE G x) hv_5 H → HU G x kv H → XF (fun q => (x ≤ q ∧ q < x + 2)) s.heap H → lv_has ls 3 [(0, .ref x), (1, .ref (x + (2 + 37 * i_3)))] → K_9 x_4 hv_5 = some hv' → W p l e { frames := 0, cells := 0, slots := 0, locals := 0 } s m args below meth c H locs 0 0 Q (F0 m 38 ls [])) → ∀ (n : Nat) (x_4 : Int32) (hv_5 : xV) (H : Heap) (locs : List Loc) (ls : Array Slot), (∀ q ∈ locs, z ≤ q.base) → PX G x 2 (hsE G x) hv_5 H → HU G x kv H → XF (fun q => (x ≤ q ∧ q < x + 2)) s.heap H → lv_has ls 3 [(0, .ref x), (1, .ref (x + (2 + 37 * i_3))), (2, .int x_4)] → L_X2_dropOldest_9 K_9 n x_4 hv_5 = some hv' → W p l e { frames := 0, cells := 0, slots := 0, locals := 0 } s m args below meth c H locs 0 0 Q (F0 m 9 ls []) := by
    intro K_9 hK_9 n
    induction n with
    | zero =>
      intro x_4 hv_5 H locs ls hL h_hs h_hu hF hl hf
      cases hf
    | succ n ih_9 =>
      intro x_4 hv_5 H locs ls hL h_hs h_hu hF hl hf
      unfold L_X2_dropOldest_9 at hf
      refine lv_iload_n hx hb dX2_dropOldest_9 rfl (lv_at hl 2 rfl) ?_
      refine lv_aload_n hx hb dX2_dropOldest_10 rfl (lv_at hl 0 rfl) ?_
      refine x_get S hK h_hs 0 (by decide) rfl rfl rfl in2 0 (by decide) (xm 1 rfl) (x := .ref (x + 1)) rfl dX2_dropOldest_11 ?_
      refine x_alen S hK h_hs 1 (by decide) rfl rfl 1 rfl (r := 4) rfl dX2_dropOldest_14 ?_
      refine lv_icmp_ge (tgt := 38) hx hb dX2_dropOldest_15 (by decide) (fun c_6 => ?_) (fun c_6 => ?_)
      · have hf := (if_pos c_6).symm.trans hf
        exact hK_9 x_4 hv_5 _ _ _ hL h_hs h_hu hF (lv_sub hl [0, 1] rfl) hf
      · have hf := (if_neg c_6).symm.trans hf
        refine lv_aload_n hx hb dX2_dropOldest_18 rfl (lv_at hl 0 rfl) ?_
        refine x_get S hK h_hs 0 (by decide) rfl rfl rfl in2 0 (by decide) (xm 1 rfl) (x := .ref (x + 1)) rfl dX2_dropOldest_19 ?_
        refine lv_iload_n hx hb dX2_dropOldest_22 rfl (lv_at hl 2 rfl) ?_
        refine lv_iconst (v := 1) hx hb dX2_dropOldest_23 (by decide) ?_
        refine lv_isub hx hb dX2_dropOldest_24 ?_
        refine lv_aload_n hx hb dX2_dropOldest_25 rfl (lv_at hl 0 rfl) ?_
        refine x_get S hK h_hs 0 (by decide) rfl rfl rfl in2 0 (by decide) (xm 1 rfl) (x := .ref (x + 1)) rfl dX2_dropOldest_26 ?_
        refine lv_iload_n hx hb dX2_dropOldest_29 rfl (lv_at hl 2 rfl) ?_
        obtain ⟨g_7, hf⟩ := xg_some hf
        obtain ⟨i_8, ei_8, hf⟩ := xl_some hf
        have hi_i_8 : i_8 < 4 := by rw [ei_8]; exact xin_lt g_7
        obtain ⟨i_9, ei_9, hf⟩ := xl_some hf
        obtain ⟨hi_i_9, hf⟩ := xg_some hf
        refine x_aald S hK h_hs 1 (by decide) rfl rfl 1 rfl i_8 ei_8.symm g_7 (r := (x + (2 + 37 * i_9))) (by show some _ = some _; rw [ei_9]) dX2_dropOldest_30 ?_
        obtain ⟨g_10, hf⟩ := xg_some hf
        obtain ⟨hv_11, ehv_11, hf⟩ := xl_some hf
        refine x_ahs S hK h_hs h_hu hz_hs hL (x_4 - 1).toNatClampNeg rfl g_10 i_9 ei_9 hi_i_9 ehv_11 dX2_dropOldest_31 (fun H1 locs hL h_hs hfr => ?_)
        have h_hu := h_hu.kept hfr (fun q h1 h2 h3 => by (try dsimp only at h3); omega)
        have hF := hF.step hfr (fun q h => by (try dsimp only at h ⊢); omega)
        obtain ⟨x_12, ex_12, hf⟩ := xl_some hf
        refine lv_iinc (v := x_12) (lv' := [(2, .int x_12), (0, .ref x), (1, .ref (x + (2 + 37 * i_3)))]) hx hb dX2_dropOldest_32 hl (k := 2) rfl (by rw [ex_12]; rfl) (by decide) rfl (fun ls hl => ?_)
        refine lv_goto (tgt := 9) hx hb dX2_dropOldest_35 (by decide) ?_
        exact ih_9 x_12 hv_11 _ _ _ hL h_hs h_hu hF (lv_sub hl [1, 2, 0] rfl) hf
  refine lp_9 _ (fun x_13 hv_14 H locs ls hL h_hs h_hu hF hl hf => ?_) 100000 1 hv _ _ _ hL h_hs h_hu hF (lv_sub hl [2, 1, 0] rfl) hf
  refine lv_aload_n hx hb dX2_dropOldest_38 rfl (lv_at hl 0 rfl) ?_
  refine x_get S hK h_hs 0 (by decide) rfl rfl rfl in2 0 (by decide) (xm 1 rfl) (x := .ref (x + 1)) rfl dX2_dropOldest_39 ?_
  refine lv_aload_n hx hb dX2_dropOldest_42 rfl (lv_at hl 0 rfl) ?_
  refine x_get S hK h_hs 0 (by decide) rfl rfl rfl in2 0 (by decide) (xm 1 rfl) (x := .ref (x + 1)) rfl dX2_dropOldest_43 ?_
  refine x_alen S hK h_hs 1 (by decide) rfl rfl 1 rfl (r := 4) rfl dX2_dropOldest_46 ?_
  refine lv_iconst (v := 1) hx hb dX2_dropOldest_47 (by decide) ?_
  refine lv_isub hx hb dX2_dropOldest_48 ?_
  refine x_top (x := 3) (by decide) ?_
  refine lv_aload_n hx hb dX2_dropOldest_49 rfl (lv_at hl 1 rfl) ?_
  obtain ⟨hv_15, ehv_15, hf⟩ := xl_some hf
  refine x_ahs S hK h_hs h_hu hz_hs hL 3 (by decide) (by decide) i_3 ei_3 hi_i_3 ehv_15 dX2_dropOldest_50 (fun H1 locs hL h_hs hfr => ?_)
  have h_hu := h_hu.kept hfr (fun q h1 h2 h3 => by (try dsimp only at h3); omega)
  have hF := hF.step hfr (fun q h => by (try dsimp only at h ⊢); omega)
  refine lv_aload_n hx hb dX2_dropOldest_51 rfl (lv_at hl 0 rfl) ?_
  refine lv_dup hx hb dX2_dropOldest_52 rfl ?_
  refine x_get S hK h_hs 0 (by decide) rfl rfl rfl in2 1 (by decide) (xm 2 rfl) (x := .int (hv_15 0 1)) rfl dX2_dropOldest_53 ?_
  refine lv_iconst (v := 1) hx hb dX2_dropOldest_56 (by decide) ?_
  refine lv_isub hx hb dX2_dropOldest_57 ?_
  obtain ⟨hv_16, ehv_16, hf⟩ := xl_some hf
  refine x_put S hK h_hs hz_hs hL 0 (by decide) rfl rfl rfl in2 tyX2 tyX2_ok nmX2 1 (by decide) (xm 2 rfl) rfl (vp_nar_int _) rfl (Nat.le_of_ble_eq_true rfl) rfl ehv_16 dX2_dropOldest_58 (fun H1 locs hL h_hs hfr => ?_)
  have h_hu := h_hu.kept hfr (fun q h1 h2 h3 => by (try dsimp only at h3); omega)
  have hF := hF.step hfr (fun q h => by (try dsimp only at h ⊢); omega)
  have q0 := Option.some.inj hf
  subst hv'
  subst hQ
  refine x_vret (post := (fun H H1 => PX G x 2 (hsE G x) hv_16 H1 ∧ XF (fun q => (x ≤ q ∧ q < x + 2)) H H1)) S hr hlocks rfl ?_ hL dX2_dropOldest_61
  exact ⟨h_hs, hF⟩
set_option maxRecDepth 100000 in
set_option maxHeartbeats 4000000 in
theorem c_X2_restore (l : Launch) (G : xG) (z : Nat) (x : Nat) (b : Nat) (hv : xV) (kv : Nat → xV) (v : xV) (hv' : xV) (v' : xV) (hz_hs : z ≤ x) (hz_bk : z ≤ b) (dj_hs_bk : x + 2 ≤ b ∨ b + 37 ≤ x) (dj_hu_bk : x + 150 ≤ b ∨ b + 37 ≤ x + 2) (hf : f_X2_restore hv kv v = some (hv', v')) : xM l yX2_restore wsX2_restore 3 83 G z [.ref x, .ref b] (fun H => PX G x 2 (hsE G x) hv H ∧ HU G x kv H ∧ PX G b 37 (bkE G b) v H) none (fun H H1 => PX G x 2 (hsE G x) hv' H1 ∧ PX G b 37 (bkE G b) v' H1 ∧ XF (fun q => (x ≤ q ∧ q < x + 2) ∨ (b ≤ q ∧ q < b + 37)) H H1) := by
  refine xM.of (cc := cX2_restore) (maxL := 2) (ret := none) (by decide +kernel) rfl (Nat.le_of_ble_eq_true rfl) ?_
  intro p e s m args below meth c ls Q hQ S hr hlocks hK hP hl
  obtain ⟨hx, hb, hml, hown, hts⟩ := id S
  obtain ⟨h_hs, h_hu, h_bk⟩ := hP
  have hL : ∀ q ∈ ([] : List Loc), z ≤ q.base := fun q h => absurd h List.not_mem_nil
  have hF : XF (fun q => (x ≤ q ∧ q < x + 2) ∨ (b ≤ q ∧ q < b + 37)) s.heap s.heap := XF.rf
  have hl : lv_has ls 2 [(0, .ref x), (1, .ref b)] := hl
  have in2 : ∀ w ∈ u_ws RX2 TX2 2, w ∈ wsX2_restore := fun _ h => List.mem_cons_of_mem _ (List.mem_append_left _ (List.mem_append_left _ (List.mem_append_left _ (List.mem_append_right _ h))))
  unfold f_X2_restore at hf
  refine lv_aload_n hx hb dX2_restore_0 rfl (lv_at hl 0 rfl) ?_
  refine x_get S hK h_hs 0 (by decide) rfl rfl rfl in2 1 (by decide) (xm 1 rfl) (x := .int (hv 0 1)) rfl dX2_restore_1 ?_
  refine lv_iconst (v := 1) hx hb dX2_restore_4 (by decide) ?_
  refine lv_icmp_lt (tgt := 43) hx hb dX2_restore_5 (by decide) (fun c_1 => ?_) (fun c_1 => ?_)
  · have hf := (if_pos c_1).symm.trans hf
    obtain ⟨q0, qq0⟩ := Prod.mk.inj (Option.some.inj hf)
    have q1 := qq0
    subst hv'
    subst v'
    subst hQ
    refine x_vret (post := (fun H H1 => PX G x 2 (hsE G x) hv H1 ∧ PX G b 37 (bkE G b) v H1 ∧ XF (fun q => (x ≤ q ∧ q < x + 2) ∨ (b ≤ q ∧ q < b + 37)) H H1)) S hr hlocks rfl ?_ hL dX2_restore_43
    exact ⟨h_hs, h_bk, hF⟩
  · have hf := (if_neg c_1).symm.trans hf
    refine lv_aload_n hx hb dX2_restore_8 rfl (lv_at hl 0 rfl) ?_
    refine x_get S hK h_hs 0 (by decide) rfl rfl rfl in2 1 (by decide) (xm 1 rfl) (x := .int (hv 0 1)) rfl dX2_restore_9 ?_
    refine lv_aload_n hx hb dX2_restore_12 rfl (lv_at hl 0 rfl) ?_
    refine x_get S hK h_hs 0 (by decide) rfl rfl rfl in2 0 (by decide) (xm 2 rfl) (x := .ref (x + 1)) rfl dX2_restore_13 ?_
    refine x_alen S hK h_hs 1 (by decide) rfl rfl 1 rfl (r := 4) rfl dX2_restore_16 ?_
    refine lv_icmp_gt (tgt := 43) hx hb dX2_restore_17 (by decide) (fun c_2 => ?_) (fun c_2 => ?_)
    · have hf := (if_pos c_2).symm.trans hf
      obtain ⟨q0, qq0⟩ := Prod.mk.inj (Option.some.inj hf)
      have q1 := qq0
      subst hv'
      subst v'
      subst hQ
      refine x_vret (post := (fun H H1 => PX G x 2 (hsE G x) hv H1 ∧ PX G b 37 (bkE G b) v H1 ∧ XF (fun q => (x ≤ q ∧ q < x + 2) ∨ (b ≤ q ∧ q < b + 37)) H H1)) S hr hlocks rfl ?_ hL dX2_restore_43
      exact ⟨h_hs, h_bk, hF⟩
    · have hf := (if_neg c_2).symm.trans hf
      refine lv_aload_n hx hb dX2_restore_20 rfl (lv_at hl 0 rfl) ?_
      refine lv_dup hx hb dX2_restore_21 rfl ?_
      refine x_get S hK h_hs 0 (by decide) rfl rfl rfl in2 1 (by decide) (xm 1 rfl) (x := .int (hv 0 1)) rfl dX2_restore_22 ?_
      refine lv_iconst (v := 1) hx hb dX2_restore_25 (by decide) ?_
      refine lv_isub hx hb dX2_restore_26 ?_
      obtain ⟨hv_3, ehv_3, hf⟩ := xl_some hf
      refine x_put S hK h_hs hz_hs hL 0 (by decide) rfl rfl rfl in2 tyX2 tyX2_ok nmX2 1 (by decide) (xm 1 rfl) rfl (vp_nar_int _) rfl (Nat.le_of_ble_eq_true rfl) rfl ehv_3 dX2_restore_27 (fun H1 locs hL h_hs hfr => ?_)
      have h_hu := h_hu.kept hfr (fun q h1 h2 h3 => by (try dsimp only at h3); omega)
      have h_bk := h_bk.kept hfr (fun q h1 h2 h3 => by (try dsimp only at h3); omega)
      have hF := hF.step hfr (fun q h => by (try dsimp only at h ⊢); omega)
      refine lv_aload_n hx hb dX2_restore_30 rfl (lv_at hl 1 rfl) ?_
      refine lv_aload_n hx hb dX2_restore_31 rfl (lv_at hl 0 rfl) ?_
      refine x_get S hK h_hs 0 (by decide) rfl rfl rfl in2 0 (by decide) (xm 2 rfl) (x := .ref (x + 1)) rfl dX2_restore_32 ?_
      refine lv_aload_n hx hb dX2_restore_35 rfl (lv_at hl 0 rfl) ?_
      refine x_get S hK h_hs 0 (by decide) rfl rfl rfl in2 1 (by decide) (xm 1 rfl) (x := .int (hv_3 0 1)) rfl dX2_restore_36 ?_
      obtain ⟨g_4, hf⟩ := xg_some hf
      obtain ⟨i_5, ei_5, hf⟩ := xl_some hf
      have hi_i_5 : i_5 < 4 := by rw [ei_5]; exact xin_lt g_4
      obtain ⟨i_6, ei_6, hf⟩ := xl_some hf
      obtain ⟨hi_i_6, hf⟩ := xg_some hf
      refine x_aald S hK h_hs 1 (by decide) rfl rfl 1 rfl i_5 ei_5.symm g_4 (r := (x + (2 + 37 * i_6))) (by show some _ = some _; rw [ei_6]) dX2_restore_39 ?_
      obtain ⟨v_7, e_8, hf⟩ := xb_some hf
      refine x_callVv (As := [.ref (x + (2 + 37 * i_6))]) (rest := []) S hK (c_X0_copyFrom l G z b (x + (2 + 37 * i_6)) v (kv i_6) v_7 (by omega) (by omega) e_8) gX2_restore_X0_copyFrom rfl 1 (by decide +kernel) rfl ⟨Nat.le_of_ble_eq_true rfl, Nat.le_of_ble_eq_true rfl⟩ h_bk 0 (by decide) rfl rfl rfl ⟨h_bk, (h_hu i_6 hi_i_6)⟩ hl.1 rfl (Nat.le_of_ble_eq_true rfl) dX2_restore_40 hL ⟨Nat.zero_le _, Nat.zero_le _⟩ (fun H1 locs hL hpost => ?_)
      obtain ⟨n_bk, hfr⟩ := hpost
      have h_bk := n_bk
      have h_hs := h_hs.kept hfr (fun q h1 h2 h3 => by (try dsimp only at h3); omega)
      have h_hu := h_hu.kept hfr (fun q h1 h2 h3 => by (try dsimp only at h3); omega)
      have hF := hF.step hfr (fun q h => by (try dsimp only at h ⊢); omega)
      obtain ⟨q0, qq0⟩ := Prod.mk.inj (Option.some.inj hf)
      have q1 := qq0
      subst hv'
      subst v'
      subst hQ
      refine x_vret (post := (fun H H1 => PX G x 2 (hsE G x) hv_3 H1 ∧ PX G b 37 (bkE G b) v_7 H1 ∧ XF (fun q => (x ≤ q ∧ q < x + 2) ∨ (b ≤ q ∧ q < b + 37)) H H1)) S hr hlocks rfl ?_ hL dX2_restore_43
      exact ⟨h_hs, h_bk, hF⟩
set_option maxRecDepth 100000 in
set_option maxHeartbeats 4000000 in
theorem c_X2_save (l : Launch) (G : xG) (z : Nat) (x : Nat) (b : Nat) (hv : xV) (kv : Nat → xV) (v : xV) (hv' : xV) (kv' : Nat → xV) (hz_hs : z ≤ x) (dj_hs_bk : x + 2 ≤ b ∨ b + 37 ≤ x) (dj_hu_bk : x + 150 ≤ b ∨ b + 37 ≤ x + 2) (hf : f_X2_save hv kv v = some (hv', kv')) : xM l yX2_save wsX2_save 3 83 G z [.ref x, .ref b] (fun H => PX G x 2 (hsE G x) hv H ∧ HU G x kv H ∧ PX G b 37 (bkE G b) v H) none (fun H H1 => PX G x 2 (hsE G x) hv' H1 ∧ HU G x kv' H1 ∧ XF (fun q => (x ≤ q ∧ q < x + 2) ∨ (x + 2 ≤ q ∧ q < x + 150)) H H1) := by
  refine xM.of (cc := cX2_save) (maxL := 2) (ret := none) (by decide +kernel) rfl (Nat.le_of_ble_eq_true rfl) ?_
  intro p e s m args below meth c ls Q hQ S hr hlocks hK hP hl
  obtain ⟨hx, hb, hml, hown, hts⟩ := id S
  obtain ⟨h_hs, h_hu, h_bk⟩ := hP
  have hL : ∀ q ∈ ([] : List Loc), z ≤ q.base := fun q h => absurd h List.not_mem_nil
  have hF : XF (fun q => (x ≤ q ∧ q < x + 2) ∨ (x + 2 ≤ q ∧ q < x + 150)) s.heap s.heap := XF.rf
  have hl : lv_has ls 2 [(0, .ref x), (1, .ref b)] := hl
  have in2 : ∀ w ∈ u_ws RX2 TX2 2, w ∈ wsX2_save := fun _ h => List.mem_cons_of_mem _ (List.mem_append_left _ (List.mem_append_left _ (List.mem_append_left _ (List.mem_append_right _ h))))
  unfold f_X2_save at hf
  refine lv_aload_n hx hb dX2_save_0 rfl (lv_at hl 0 rfl) ?_
  refine x_get S hK h_hs 0 (by decide) rfl rfl rfl in2 1 (by decide) (xm 1 rfl) (x := .int (hv 0 1)) rfl dX2_save_1 ?_
  refine lv_aload_n hx hb dX2_save_4 rfl (lv_at hl 0 rfl) ?_
  refine x_get S hK h_hs 0 (by decide) rfl rfl rfl in2 0 (by decide) (xm 2 rfl) (x := .ref (x + 1)) rfl dX2_save_5 ?_
  refine x_alen S hK h_hs 1 (by decide) rfl rfl 1 rfl (r := 4) rfl dX2_save_8 ?_
  refine lv_icmp_lt (tgt := 16) hx hb dX2_save_9 (by decide) (fun c_1 => ?_) (fun c_1 => ?_)
  · have hf := (if_pos c_1).symm.trans hf
    refine lv_aload_n hx hb dX2_save_16 rfl (lv_at hl 0 rfl) ?_
    refine x_get S hK h_hs 0 (by decide) rfl rfl rfl in2 1 (by decide) (xm 1 rfl) (x := .int (hv 0 1)) rfl dX2_save_17 ?_
    refine lv_if_lt (tgt := 58) hx hb dX2_save_20 (by decide) (fun c_2 => ?_) (fun c_2 => ?_)
    · have hf := (if_pos c_2).symm.trans hf
      obtain ⟨q0, qq0⟩ := Prod.mk.inj (Option.some.inj hf)
      have q1 := qq0
      subst hv'
      subst kv'
      subst hQ
      refine x_vret (post := (fun H H1 => PX G x 2 (hsE G x) hv H1 ∧ HU G x kv H1 ∧ XF (fun q => (x ≤ q ∧ q < x + 2) ∨ (x + 2 ≤ q ∧ q < x + 150)) H H1)) S hr hlocks rfl ?_ hL dX2_save_58
      exact ⟨h_hs, h_hu, hF⟩
    · have hf := (if_neg c_2).symm.trans hf
      refine lv_aload_n hx hb dX2_save_23 rfl (lv_at hl 0 rfl) ?_
      refine x_get S hK h_hs 0 (by decide) rfl rfl rfl in2 1 (by decide) (xm 1 rfl) (x := .int (hv 0 1)) rfl dX2_save_24 ?_
      refine lv_aload_n hx hb dX2_save_27 rfl (lv_at hl 0 rfl) ?_
      refine x_get S hK h_hs 0 (by decide) rfl rfl rfl in2 0 (by decide) (xm 2 rfl) (x := .ref (x + 1)) rfl dX2_save_28 ?_
      refine x_alen S hK h_hs 1 (by decide) rfl rfl 1 rfl (r := 4) rfl dX2_save_31 ?_
      refine lv_icmp_ge (tgt := 58) hx hb dX2_save_32 (by decide) (fun c_3 => ?_) (fun c_3 => ?_)
      · have hf := (if_pos c_3).symm.trans hf
        obtain ⟨q0, qq0⟩ := Prod.mk.inj (Option.some.inj hf)
        have q1 := qq0
        subst hv'
        subst kv'
        subst hQ
        refine x_vret (post := (fun H H1 => PX G x 2 (hsE G x) hv H1 ∧ HU G x kv H1 ∧ XF (fun q => (x ≤ q ∧ q < x + 2) ∨ (x + 2 ≤ q ∧ q < x + 150)) H H1)) S hr hlocks rfl ?_ hL dX2_save_58
        exact ⟨h_hs, h_hu, hF⟩
      · have hf := (if_neg c_3).symm.trans hf
        refine lv_aload_n hx hb dX2_save_35 rfl (lv_at hl 0 rfl) ?_
        refine x_get S hK h_hs 0 (by decide) rfl rfl rfl in2 0 (by decide) (xm 2 rfl) (x := .ref (x + 1)) rfl dX2_save_36 ?_
        refine lv_aload_n hx hb dX2_save_39 rfl (lv_at hl 0 rfl) ?_
        refine x_get S hK h_hs 0 (by decide) rfl rfl rfl in2 1 (by decide) (xm 1 rfl) (x := .int (hv 0 1)) rfl dX2_save_40 ?_
        obtain ⟨g_4, hf⟩ := xg_some hf
        obtain ⟨i_5, ei_5, hf⟩ := xl_some hf
        have hi_i_5 : i_5 < 4 := by rw [ei_5]; exact xin_lt g_4
        obtain ⟨i_6, ei_6, hf⟩ := xl_some hf
        obtain ⟨hi_i_6, hf⟩ := xg_some hf
        refine x_aald S hK h_hs 1 (by decide) rfl rfl 1 rfl i_5 ei_5.symm g_4 (r := (x + (2 + 37 * i_6))) (by show some _ = some _; rw [ei_6]) dX2_save_43 ?_
        refine lv_aload_n hx hb dX2_save_44 rfl (lv_at hl 1 rfl) ?_
        obtain ⟨v_7, e_8, hf⟩ := xb_some hf
        refine x_callVv (As := [.ref b]) (rest := []) S hK (c_X0_copyFrom l G z (x + (2 + 37 * i_6)) b (kv i_6) v v_7 (by omega) (by omega) e_8) gX2_save_X0_copyFrom rfl 1 (by decide +kernel) rfl ⟨Nat.le_of_ble_eq_true rfl, Nat.le_of_ble_eq_true rfl⟩ (h_hu i_6 hi_i_6) 0 (by decide) rfl rfl rfl ⟨(h_hu i_6 hi_i_6), h_bk⟩ hl.1 rfl (Nat.le_of_ble_eq_true rfl) dX2_save_45 hL ⟨Nat.zero_le _, Nat.zero_le _⟩ (fun H1 locs hL hpost => ?_)
        obtain ⟨n_bk, hfr⟩ := hpost
        obtain ⟨k_9, ek_9, hf⟩ := xl_some hf
        have h_hu := (h_hu.set hi_i_6 n_bk hfr (fun q h => by (try dsimp only at h); omega)).to ek_9
        have h_hs := h_hs.kept hfr (fun q h1 h2 h3 => by (try dsimp only at h3); omega)
        have h_bk := h_bk.kept hfr (fun q h1 h2 h3 => by (try dsimp only at h3); omega)
        have hF := hF.step hfr (fun q h => by (try dsimp only at h ⊢); omega)
        refine lv_aload_n hx hb dX2_save_48 rfl (lv_at hl 0 rfl) ?_
        refine lv_dup hx hb dX2_save_49 rfl ?_
        refine x_get S hK h_hs 0 (by decide) rfl rfl rfl in2 1 (by decide) (xm 1 rfl) (x := .int (hv 0 1)) rfl dX2_save_50 ?_
        refine lv_iconst (v := 1) hx hb dX2_save_53 (by decide) ?_
        refine lv_iadd hx hb dX2_save_54 ?_
        obtain ⟨hv_10, ehv_10, hf⟩ := xl_some hf
        refine x_put S hK h_hs hz_hs hL 0 (by decide) rfl rfl rfl in2 tyX2 tyX2_ok nmX2 1 (by decide) (xm 1 rfl) rfl (vp_nar_int _) rfl (Nat.le_of_ble_eq_true rfl) rfl ehv_10 dX2_save_55 (fun H1 locs hL h_hs hfr => ?_)
        have h_hu := h_hu.kept hfr (fun q h1 h2 h3 => by (try dsimp only at h3); omega)
        have h_bk := h_bk.kept hfr (fun q h1 h2 h3 => by (try dsimp only at h3); omega)
        have hF := hF.step hfr (fun q h => by (try dsimp only at h ⊢); omega)
        obtain ⟨q0, qq0⟩ := Prod.mk.inj (Option.some.inj hf)
        have q1 := qq0
        subst hv'
        subst kv'
        subst hQ
        refine x_vret (post := (fun H H1 => PX G x 2 (hsE G x) hv_10 H1 ∧ HU G x k_9 H1 ∧ XF (fun q => (x ≤ q ∧ q < x + 2) ∨ (x + 2 ≤ q ∧ q < x + 150)) H H1)) S hr hlocks rfl ?_ hL dX2_save_58
        exact ⟨h_hs, h_hu, hF⟩
  · have hf := (if_neg c_1).symm.trans hf
    refine lv_aload_n hx hb dX2_save_12 rfl (lv_at hl 0 rfl) ?_
    obtain ⟨hv_11, e_12, hf⟩ := xb_some hf
    refine x_callVv (As := []) (rest := []) S hK (c_X2_dropOldest l G z x hv kv hv_11 (by omega) e_12) gX2_save_X2_dropOldest rfl 0 (by decide +kernel) rfl ⟨Nat.le_of_ble_eq_true rfl, Nat.le_of_ble_eq_true rfl⟩ h_hs 0 (by decide) rfl rfl rfl ⟨h_hs, h_hu⟩ hl.1 rfl (Nat.le_of_ble_eq_true rfl) dX2_save_13 hL ⟨Nat.zero_le _, Nat.zero_le _⟩ (fun H1 locs hL hpost => ?_)
    obtain ⟨n_hs, hfr⟩ := hpost
    have h_hs := n_hs
    have h_hu := h_hu.kept hfr (fun q h1 h2 h3 => by (try dsimp only at h3); omega)
    have h_bk := h_bk.kept hfr (fun q h1 h2 h3 => by (try dsimp only at h3); omega)
    have hF := hF.step hfr (fun q h => by (try dsimp only at h ⊢); omega)
    refine lv_aload_n hx hb dX2_save_16 rfl (lv_at hl 0 rfl) ?_
    refine x_get S hK h_hs 0 (by decide) rfl rfl rfl in2 1 (by decide) (xm 1 rfl) (x := .int (hv_11 0 1)) rfl dX2_save_17 ?_
    refine lv_if_lt (tgt := 58) hx hb dX2_save_20 (by decide) (fun c_13 => ?_) (fun c_13 => ?_)
    · have hf := (if_pos c_13).symm.trans hf
      obtain ⟨q0, qq0⟩ := Prod.mk.inj (Option.some.inj hf)
      have q1 := qq0
      subst hv'
      subst kv'
      subst hQ
      refine x_vret (post := (fun H H1 => PX G x 2 (hsE G x) hv_11 H1 ∧ HU G x kv H1 ∧ XF (fun q => (x ≤ q ∧ q < x + 2) ∨ (x + 2 ≤ q ∧ q < x + 150)) H H1)) S hr hlocks rfl ?_ hL dX2_save_58
      exact ⟨h_hs, h_hu, hF⟩
    · have hf := (if_neg c_13).symm.trans hf
      refine lv_aload_n hx hb dX2_save_23 rfl (lv_at hl 0 rfl) ?_
      refine x_get S hK h_hs 0 (by decide) rfl rfl rfl in2 1 (by decide) (xm 1 rfl) (x := .int (hv_11 0 1)) rfl dX2_save_24 ?_
      refine lv_aload_n hx hb dX2_save_27 rfl (lv_at hl 0 rfl) ?_
      refine x_get S hK h_hs 0 (by decide) rfl rfl rfl in2 0 (by decide) (xm 2 rfl) (x := .ref (x + 1)) rfl dX2_save_28 ?_
      refine x_alen S hK h_hs 1 (by decide) rfl rfl 1 rfl (r := 4) rfl dX2_save_31 ?_
      refine lv_icmp_ge (tgt := 58) hx hb dX2_save_32 (by decide) (fun c_14 => ?_) (fun c_14 => ?_)
      · have hf := (if_pos c_14).symm.trans hf
        obtain ⟨q0, qq0⟩ := Prod.mk.inj (Option.some.inj hf)
        have q1 := qq0
        subst hv'
        subst kv'
        subst hQ
        refine x_vret (post := (fun H H1 => PX G x 2 (hsE G x) hv_11 H1 ∧ HU G x kv H1 ∧ XF (fun q => (x ≤ q ∧ q < x + 2) ∨ (x + 2 ≤ q ∧ q < x + 150)) H H1)) S hr hlocks rfl ?_ hL dX2_save_58
        exact ⟨h_hs, h_hu, hF⟩
      · have hf := (if_neg c_14).symm.trans hf
        refine lv_aload_n hx hb dX2_save_35 rfl (lv_at hl 0 rfl) ?_
        refine x_get S hK h_hs 0 (by decide) rfl rfl rfl in2 0 (by decide) (xm 2 rfl) (x := .ref (x + 1)) rfl dX2_save_36 ?_
        refine lv_aload_n hx hb dX2_save_39 rfl (lv_at hl 0 rfl) ?_
        refine x_get S hK h_hs 0 (by decide) rfl rfl rfl in2 1 (by decide) (xm 1 rfl) (x := .int (hv_11 0 1)) rfl dX2_save_40 ?_
        obtain ⟨g_15, hf⟩ := xg_some hf
        obtain ⟨i_16, ei_16, hf⟩ := xl_some hf
        have hi_i_16 : i_16 < 4 := by rw [ei_16]; exact xin_lt g_15
        obtain ⟨i_17, ei_17, hf⟩ := xl_some hf
        obtain ⟨hi_i_17, hf⟩ := xg_some hf
        refine x_aald S hK h_hs 1 (by decide) rfl rfl 1 rfl i_16 ei_16.symm g_15 (r := (x + (2 + 37 * i_17))) (by show some _ = some _; rw [ei_17]) dX2_save_43 ?_
        refine lv_aload_n hx hb dX2_save_44 rfl (lv_at hl 1 rfl) ?_
        obtain ⟨v_18, e_19, hf⟩ := xb_some hf
        refine x_callVv (As := [.ref b]) (rest := []) S hK (c_X0_copyFrom l G z (x + (2 + 37 * i_17)) b (kv i_17) v v_18 (by omega) (by omega) e_19) gX2_save_X0_copyFrom rfl 1 (by decide +kernel) rfl ⟨Nat.le_of_ble_eq_true rfl, Nat.le_of_ble_eq_true rfl⟩ (h_hu i_17 hi_i_17) 0 (by decide) rfl rfl rfl ⟨(h_hu i_17 hi_i_17), h_bk⟩ hl.1 rfl (Nat.le_of_ble_eq_true rfl) dX2_save_45 hL ⟨Nat.zero_le _, Nat.zero_le _⟩ (fun H1 locs hL hpost => ?_)
        obtain ⟨n_bk, hfr⟩ := hpost
        obtain ⟨k_20, ek_20, hf⟩ := xl_some hf
        have h_hu := (h_hu.set hi_i_17 n_bk hfr (fun q h => by (try dsimp only at h); omega)).to ek_20
        have h_hs := h_hs.kept hfr (fun q h1 h2 h3 => by (try dsimp only at h3); omega)
        have h_bk := h_bk.kept hfr (fun q h1 h2 h3 => by (try dsimp only at h3); omega)
        have hF := hF.step hfr (fun q h => by (try dsimp only at h ⊢); omega)
        refine lv_aload_n hx hb dX2_save_48 rfl (lv_at hl 0 rfl) ?_
        refine lv_dup hx hb dX2_save_49 rfl ?_
        refine x_get S hK h_hs 0 (by decide) rfl rfl rfl in2 1 (by decide) (xm 1 rfl) (x := .int (hv_11 0 1)) rfl dX2_save_50 ?_
        refine lv_iconst (v := 1) hx hb dX2_save_53 (by decide) ?_
        refine lv_iadd hx hb dX2_save_54 ?_
        obtain ⟨hv_21, ehv_21, hf⟩ := xl_some hf
        refine x_put S hK h_hs hz_hs hL 0 (by decide) rfl rfl rfl in2 tyX2 tyX2_ok nmX2 1 (by decide) (xm 1 rfl) rfl (vp_nar_int _) rfl (Nat.le_of_ble_eq_true rfl) rfl ehv_21 dX2_save_55 (fun H1 locs hL h_hs hfr => ?_)
        have h_hu := h_hu.kept hfr (fun q h1 h2 h3 => by (try dsimp only at h3); omega)
        have h_bk := h_bk.kept hfr (fun q h1 h2 h3 => by (try dsimp only at h3); omega)
        have hF := hF.step hfr (fun q h => by (try dsimp only at h ⊢); omega)
        obtain ⟨q0, qq0⟩ := Prod.mk.inj (Option.some.inj hf)
        have q1 := qq0
        subst hv'
        subst kv'
        subst hQ
        refine x_vret (post := (fun H H1 => PX G x 2 (hsE G x) hv_21 H1 ∧ HU G x k_20 H1 ∧ XF (fun q => (x ≤ q ∧ q < x + 2) ∨ (x + 2 ≤ q ∧ q < x + 150)) H H1)) S hr hlocks rfl ?_ hL dX2_save_58
        exact ⟨h_hs, h_hu, hF⟩
set_option maxRecDepth 100000 in
set_option maxHeartbeats 4000000 in
theorem c_X4_append (l : Launch) (G : xG) (z : Nat) (t : Nat) (tv : xV) (p1 : Int32) (r0 : Int32) (tv' : xV) (hz_tx : z ≤ t) (hf : f_X4_append tv p1 = some (r0, tv')) : xM l yX4_append wsX4_append 0 0 G z [.ref t, .int p1] (fun H => PX G t 2 (txE G t) tv H) (some (.int r0)) (fun H H1 => PX G t 2 (txE G t) tv' H1 ∧ XF (fun q => (t ≤ q ∧ q < t + 2)) H H1) := by
  refine xM.of (cc := cX4_append) (maxL := 2) (ret := (some .boolean)) (by decide +kernel) rfl (Nat.le_of_ble_eq_true rfl) ?_
  intro p e s m args below meth c ls Q hQ S hr hlocks hK hP hl
  obtain ⟨hx, hb, hml, hown, hts⟩ := id S
  have h_tx := hP
  have hL : ∀ q ∈ ([] : List Loc), z ≤ q.base := fun q h => absurd h List.not_mem_nil
  have hF : XF (fun q => (t ≤ q ∧ q < t + 2)) s.heap s.heap := XF.rf
  have hl : lv_has ls 2 [(0, .ref t), (1, .int p1)] := hl
  have in4 : ∀ w ∈ u_ws RX4 TX4 3, w ∈ wsX4_append := fun _ h => List.mem_cons_of_mem _ (List.mem_append_right _ h)
  unfold f_X4_append at hf
  refine lv_aload_n hx hb dX4_append_0 rfl (lv_at hl 0 rfl) ?_
  refine x_get S hK h_tx 0 (by decide) rfl rfl rfl in4 1 (by decide) (xm 1 rfl) (x := .int (tv 0 1)) rfl dX4_append_1 ?_
  refine lv_if_lt (tgt := 19) hx hb dX4_append_4 (by decide) (fun c_1 => ?_) (fun c_1 => ?_)
  · have hf := (if_pos c_1).symm.trans hf
    refine lv_iconst (v := 0) hx hb dX4_append_19 (by decide) ?_
    obtain ⟨q0, qq0⟩ := Prod.mk.inj (Option.some.inj hf)
    have q1 := qq0
    subst r0
    subst tv'
    subst hQ
    refine x_zret (post := (fun H H1 => PX G t 2 (txE G t) tv H1 ∧ XF (fun q => (t ≤ q ∧ q < t + 2)) H H1)) S hr hlocks (by decide) rfl ?_ hL dX4_append_20
    exact ⟨h_tx, hF⟩
  · have hf := (if_neg c_1).symm.trans hf
    refine lv_aload_n hx hb dX4_append_7 rfl (lv_at hl 0 rfl) ?_
    refine x_get S hK h_tx 0 (by decide) rfl rfl rfl in4 1 (by decide) (xm 1 rfl) (x := .int (tv 0 1)) rfl dX4_append_8 ?_
    refine lv_aload_n hx hb dX4_append_11 rfl (lv_at hl 0 rfl) ?_
    refine x_get S hK h_tx 0 (by decide) rfl rfl rfl in4 0 (by decide) (xm 2 rfl) (x := .ref (t + 1)) rfl dX4_append_12 ?_
    refine x_alen S hK h_tx 1 (by decide) rfl rfl 0 rfl (r := 80) rfl dX4_append_15 ?_
    refine lv_icmp_lt (tgt := 21) hx hb dX4_append_16 (by decide) (fun c_2 => ?_) (fun c_2 => ?_)
    · have hf := (if_pos c_2).symm.trans hf
      refine lv_aload_n hx hb dX4_append_21 rfl (lv_at hl 0 rfl) ?_
      refine x_get S hK h_tx 0 (by decide) rfl rfl rfl in4 0 (by decide) (xm 2 rfl) (x := .ref (t + 1)) rfl dX4_append_22 ?_
      refine lv_aload_n hx hb dX4_append_25 rfl (lv_at hl 0 rfl) ?_
      refine x_get S hK h_tx 0 (by decide) rfl rfl rfl in4 1 (by decide) (xm 1 rfl) (x := .int (tv 0 1)) rfl dX4_append_26 ?_
      refine lv_iload_n hx hb dX4_append_29 rfl (lv_at hl 1 rfl) ?_
      obtain ⟨g_3, hf⟩ := xg_some hf
      obtain ⟨tv_4, etv_4, hf⟩ := xl_some hf
      refine x_iast S hK h_tx hz_tx hL 1 (by decide) rfl rfl (tv 0 1).toNatClampNeg rfl g_3 rfl etv_4 dX4_append_30 (fun H1 locs hL h_tx hfr => ?_)
      have hF := hF.step hfr (fun q h => by (try dsimp only at h ⊢); omega)
      refine lv_aload_n hx hb dX4_append_31 rfl (lv_at hl 0 rfl) ?_
      refine lv_dup hx hb dX4_append_32 rfl ?_
      refine x_get S hK h_tx 0 (by decide) rfl rfl rfl in4 1 (by decide) (xm 1 rfl) (x := .int (tv_4 0 1)) rfl dX4_append_33 ?_
      refine lv_iconst (v := 1) hx hb dX4_append_36 (by decide) ?_
      refine lv_iadd hx hb dX4_append_37 ?_
      obtain ⟨tv_5, etv_5, hf⟩ := xl_some hf
      refine x_put S hK h_tx hz_tx hL 0 (by decide) rfl rfl rfl in4 tyX4 tyX4_ok nmX4 1 (by decide) (xm 1 rfl) rfl (vp_nar_int _) rfl (Nat.le_of_ble_eq_true rfl) rfl etv_5 dX4_append_38 (fun H1 locs hL h_tx hfr => ?_)
      have hF := hF.step hfr (fun q h => by (try dsimp only at h ⊢); omega)
      refine lv_iconst (v := 1) hx hb dX4_append_41 (by decide) ?_
      obtain ⟨q0, qq0⟩ := Prod.mk.inj (Option.some.inj hf)
      have q1 := qq0
      subst r0
      subst tv'
      subst hQ
      refine x_zret (post := (fun H H1 => PX G t 2 (txE G t) tv_5 H1 ∧ XF (fun q => (t ≤ q ∧ q < t + 2)) H H1)) S hr hlocks (by decide) rfl ?_ hL dX4_append_42
      exact ⟨h_tx, hF⟩
    · have hf := (if_neg c_2).symm.trans hf
      refine lv_iconst (v := 0) hx hb dX4_append_19 (by decide) ?_
      obtain ⟨q0, qq0⟩ := Prod.mk.inj (Option.some.inj hf)
      have q1 := qq0
      subst r0
      subst tv'
      subst hQ
      refine x_zret (post := (fun H H1 => PX G t 2 (txE G t) tv H1 ∧ XF (fun q => (t ≤ q ∧ q < t + 2)) H H1)) S hr hlocks (by decide) rfl ?_ hL dX4_append_20
      exact ⟨h_tx, hF⟩
set_option maxRecDepth 100000 in
set_option maxHeartbeats 4000000 in
theorem c_X4_here (l : Launch) (G : xG) (z : Nat) (t : Nat) (tv : xV) (r0 : Int32)  (hf : f_X4_here tv = some r0) : xM l yX4_here wsX4_here 0 0 G z [.ref t] (fun H => PX G t 2 (txE G t) tv H) (some (.int r0)) (fun H H1 => H1 = H) := by
  refine xM.of (cc := cX4_here) (maxL := 1) (ret := (some .int)) (by decide +kernel) rfl (Nat.le_of_ble_eq_true rfl) ?_
  intro p e s m args below meth c ls Q hQ S hr hlocks hK hP hl
  obtain ⟨hx, hb, hml, hown, hts⟩ := id S
  have h_tx := hP
  have hL : ∀ q ∈ ([] : List Loc), z ≤ q.base := fun q h => absurd h List.not_mem_nil
  have hl : lv_has ls 1 [(0, .ref t)] := hl
  have in4 : ∀ w ∈ u_ws RX4 TX4 3, w ∈ wsX4_here := fun _ h => List.mem_cons_of_mem _ (List.mem_append_right _ h)
  unfold f_X4_here at hf
  refine lv_aload_n hx hb dX4_here_0 rfl (lv_at hl 0 rfl) ?_
  refine x_get S hK h_tx 0 (by decide) rfl rfl rfl in4 2 (by decide) (xm 1 rfl) (x := .int (tv 0 2)) rfl dX4_here_1 ?_
  refine lv_if_lt (tgt := 42) hx hb dX4_here_4 (by decide) (fun c_1 => ?_) (fun c_1 => ?_)
  · have hf := (if_pos c_1).symm.trans hf
    refine lv_iconst (v := (-1)) hx hb dX4_here_42 (by decide) ?_
    have q0 := Option.some.inj hf
    subst r0
    subst hQ
    refine x_iret (post := (fun H H1 => H1 = H)) S hr hlocks rfl ?_ hL dX4_here_43
    exact rfl
  · have hf := (if_neg c_1).symm.trans hf
    refine lv_aload_n hx hb dX4_here_7 rfl (lv_at hl 0 rfl) ?_
    refine x_get S hK h_tx 0 (by decide) rfl rfl rfl in4 2 (by decide) (xm 1 rfl) (x := .int (tv 0 2)) rfl dX4_here_8 ?_
    refine lv_aload_n hx hb dX4_here_11 rfl (lv_at hl 0 rfl) ?_
    refine x_get S hK h_tx 0 (by decide) rfl rfl rfl in4 1 (by decide) (xm 2 rfl) (x := .int (tv 0 1)) rfl dX4_here_12 ?_
    refine lv_icmp_ge (tgt := 42) hx hb dX4_here_15 (by decide) (fun c_2 => ?_) (fun c_2 => ?_)
    · have hf := (if_pos c_2).symm.trans hf
      refine lv_iconst (v := (-1)) hx hb dX4_here_42 (by decide) ?_
      have q0 := Option.some.inj hf
      subst r0
      subst hQ
      refine x_iret (post := (fun H H1 => H1 = H)) S hr hlocks rfl ?_ hL dX4_here_43
      exact rfl
    · have hf := (if_neg c_2).symm.trans hf
      refine lv_aload_n hx hb dX4_here_18 rfl (lv_at hl 0 rfl) ?_
      refine x_get S hK h_tx 0 (by decide) rfl rfl rfl in4 2 (by decide) (xm 1 rfl) (x := .int (tv 0 2)) rfl dX4_here_19 ?_
      refine lv_aload_n hx hb dX4_here_22 rfl (lv_at hl 0 rfl) ?_
      refine x_get S hK h_tx 0 (by decide) rfl rfl rfl in4 0 (by decide) (xm 3 rfl) (x := .ref (t + 1)) rfl dX4_here_23 ?_
      refine x_alen S hK h_tx 1 (by decide) rfl rfl 0 rfl (r := 80) rfl dX4_here_26 ?_
      refine lv_icmp_ge (tgt := 42) hx hb dX4_here_27 (by decide) (fun c_3 => ?_) (fun c_3 => ?_)
      · have hf := (if_pos c_3).symm.trans hf
        refine lv_iconst (v := (-1)) hx hb dX4_here_42 (by decide) ?_
        have q0 := Option.some.inj hf
        subst r0
        subst hQ
        refine x_iret (post := (fun H H1 => H1 = H)) S hr hlocks rfl ?_ hL dX4_here_43
        exact rfl
      · have hf := (if_neg c_3).symm.trans hf
        refine lv_aload_n hx hb dX4_here_30 rfl (lv_at hl 0 rfl) ?_
        refine x_get S hK h_tx 0 (by decide) rfl rfl rfl in4 0 (by decide) (xm 3 rfl) (x := .ref (t + 1)) rfl dX4_here_31 ?_
        refine lv_aload_n hx hb dX4_here_34 rfl (lv_at hl 0 rfl) ?_
        refine x_get S hK h_tx 0 (by decide) rfl rfl rfl in4 2 (by decide) (xm 1 rfl) (x := .int (tv 0 2)) rfl dX4_here_35 ?_
        obtain ⟨g_4, hf⟩ := xg_some hf
        refine x_iald S hK h_tx 1 (by decide) rfl rfl (tv 0 2).toNatClampNeg rfl g_4 dX4_here_38 ?_
        refine lv_goto (tgt := 43) hx hb dX4_here_39 (by decide) ?_
        have q0 := Option.some.inj hf
        subst r0
        subst hQ
        refine x_iret (post := (fun H H1 => H1 = H)) S hr hlocks rfl ?_ hL dX4_here_43
        exact rfl
set_option maxRecDepth 100000 in
set_option maxHeartbeats 4000000 in
theorem c_X4_isDigitHere (l : Launch) (G : xG) (z : Nat) (t : Nat) (tv : xV) (r0 : Int32)  (hf : f_X4_isDigitHere tv = some r0) : xM l yX4_isDigitHere wsX4_isDigitHere 1 20 G z [.ref t] (fun H => PX G t 2 (txE G t) tv H) (some (.int r0)) (fun H H1 => H1 = H) := by
  refine xM.of (cc := cX4_isDigitHere) (maxL := 1) (ret := (some .boolean)) (by decide +kernel) rfl (Nat.le_of_ble_eq_true rfl) ?_
  intro p e s m args below meth c ls Q hQ S hr hlocks hK hP hl
  obtain ⟨hx, hb, hml, hown, hts⟩ := id S
  have h_tx := hP
  have hL : ∀ q ∈ ([] : List Loc), z ≤ q.base := fun q h => absurd h List.not_mem_nil
  have hl : lv_has ls 1 [(0, .ref t)] := hl
  unfold f_X4_isDigitHere at hf
  refine lv_aload_n hx hb dX4_isDigitHere_0 rfl (lv_at hl 0 rfl) ?_
  obtain ⟨r_1, e_2, hf⟩ := xb_some hf
  refine x_callVi (As := []) (rest := []) S hK (c_X4_here l G z t tv r_1 e_2) gX4_isDigitHere_X4_here rfl 0 (by decide +kernel) rfl ⟨Nat.le_of_ble_eq_true rfl, Nat.le_of_ble_eq_true rfl⟩ h_tx 0 (by decide) rfl rfl rfl h_tx hl.1 rfl (Nat.le_of_ble_eq_true rfl) dX4_isDigitHere_1 hL ⟨Nat.zero_le _, Nat.zero_le _⟩ (fun H1 locs hL hpost => ?_)
  subst hpost
  refine lv_bipush (v := 48) hx hb dX4_isDigitHere_4 (by decide) ?_
  refine lv_icmp_lt (tgt := 22) hx hb dX4_isDigitHere_6 (by decide) (fun c_3 => ?_) (fun c_3 => ?_)
  · have hf := (if_pos c_3).symm.trans hf
    refine lv_iconst (v := 0) hx hb dX4_isDigitHere_22 (by decide) ?_
    have q0 := Option.some.inj hf
    subst r0
    subst hQ
    refine x_zret (post := (fun H H1 => H1 = H)) S hr hlocks (by decide) rfl ?_ hL dX4_isDigitHere_23
    exact rfl
  · have hf := (if_neg c_3).symm.trans hf
    refine lv_aload_n hx hb dX4_isDigitHere_9 rfl (lv_at hl 0 rfl) ?_
    obtain ⟨r_4, e_5, hf⟩ := xb_some hf
    refine x_callVi (As := []) (rest := []) S hK (c_X4_here l G z t tv r_4 e_5) gX4_isDigitHere_X4_here rfl 0 (by decide +kernel) rfl ⟨Nat.le_of_ble_eq_true rfl, Nat.le_of_ble_eq_true rfl⟩ h_tx 0 (by decide) rfl rfl rfl h_tx hl.1 rfl (Nat.le_of_ble_eq_true rfl) dX4_isDigitHere_10 hL ⟨Nat.zero_le _, Nat.zero_le _⟩ (fun H1 locs hL hpost => ?_)
    subst hpost
    refine lv_bipush (v := 57) hx hb dX4_isDigitHere_13 (by decide) ?_
    refine lv_icmp_gt (tgt := 22) hx hb dX4_isDigitHere_15 (by decide) (fun c_6 => ?_) (fun c_6 => ?_)
    · have hf := (if_pos c_6).symm.trans hf
      refine lv_iconst (v := 0) hx hb dX4_isDigitHere_22 (by decide) ?_
      have q0 := Option.some.inj hf
      subst r0
      subst hQ
      refine x_zret (post := (fun H H1 => H1 = H)) S hr hlocks (by decide) rfl ?_ hL dX4_isDigitHere_23
      exact rfl
    · have hf := (if_neg c_6).symm.trans hf
      refine lv_iconst (v := 1) hx hb dX4_isDigitHere_18 (by decide) ?_
      refine lv_goto (tgt := 23) hx hb dX4_isDigitHere_19 (by decide) ?_
      have q0 := Option.some.inj hf
      subst r0
      subst hQ
      refine x_zret (post := (fun H H1 => H1 = H)) S hr hlocks (by decide) rfl ?_ hL dX4_isDigitHere_23
      exact rfl
set_option maxRecDepth 100000 in
set_option maxHeartbeats 4000000 in
theorem c_X4_isRead (l : Launch) (G : xG) (z : Nat) (t : Nat) (tv : xV) (r0 : Int32)  (hf : f_X4_isRead tv = some r0) : xM l yX4_isRead wsX4_isRead 0 0 G z [.ref t] (fun H => PX G t 2 (txE G t) tv H) (some (.int r0)) (fun H H1 => H1 = H) := by
  refine xM.of (cc := cX4_isRead) (maxL := 1) (ret := (some .boolean)) (by decide +kernel) rfl (Nat.le_of_ble_eq_true rfl) ?_
  intro p e s m args below meth c ls Q hQ S hr hlocks hK hP hl
  obtain ⟨hx, hb, hml, hown, hts⟩ := id S
  have h_tx := hP
  have hL : ∀ q ∈ ([] : List Loc), z ≤ q.base := fun q h => absurd h List.not_mem_nil
  have hl : lv_has ls 1 [(0, .ref t)] := hl
  have in4 : ∀ w ∈ u_ws RX4 TX4 3, w ∈ wsX4_isRead := fun _ h => List.mem_cons_of_mem _ (List.mem_append_right _ h)
  unfold f_X4_isRead at hf
  refine lv_aload_n hx hb dX4_isRead_0 rfl (lv_at hl 0 rfl) ?_
  refine x_get S hK h_tx 0 (by decide) rfl rfl rfl in4 2 (by decide) (xm 1 rfl) (x := .int (tv 0 2)) rfl dX4_isRead_1 ?_
  refine lv_aload_n hx hb dX4_isRead_4 rfl (lv_at hl 0 rfl) ?_
  refine x_get S hK h_tx 0 (by decide) rfl rfl rfl in4 1 (by decide) (xm 2 rfl) (x := .int (tv 0 1)) rfl dX4_isRead_5 ?_
  refine lv_icmp_lt (tgt := 15) hx hb dX4_isRead_8 (by decide) (fun c_1 => ?_) (fun c_1 => ?_)
  · have hf := (if_pos c_1).symm.trans hf
    refine lv_iconst (v := 0) hx hb dX4_isRead_15 (by decide) ?_
    have q0 := Option.some.inj hf
    subst r0
    subst hQ
    refine x_zret (post := (fun H H1 => H1 = H)) S hr hlocks (by decide) rfl ?_ hL dX4_isRead_16
    exact rfl
  · have hf := (if_neg c_1).symm.trans hf
    refine lv_iconst (v := 1) hx hb dX4_isRead_11 (by decide) ?_
    refine lv_goto (tgt := 16) hx hb dX4_isRead_12 (by decide) ?_
    have q0 := Option.some.inj hf
    subst r0
    subst hQ
    refine x_zret (post := (fun H H1 => H1 = H)) S hr hlocks (by decide) rfl ?_ hL dX4_isRead_16
    exact rfl
set_option maxRecDepth 100000 in
set_option maxHeartbeats 4000000 in
theorem c_X4_readNumber (l : Launch) (G : xG) (z : Nat) (t : Nat) (tv : xV) (p1 : Int32) (r0 : Int32) (tv' : xV) (hz_tx : z ≤ t) (hf : f_X4_readNumber tv p1 = some (r0, tv')) : xM l yX4_readNumber wsX4_readNumber 2 40 G z [.ref t, .int p1] (fun H => PX G t 2 (txE G t) tv H) (some (.int r0)) (fun H H1 => PX G t 2 (txE G t) tv' H1 ∧ XF (fun q => (t ≤ q ∧ q < t + 2)) H H1) := by
  refine xM.of (cc := cX4_readNumber) (maxL := 4) (ret := (some .int)) (by decide +kernel) rfl (Nat.le_of_ble_eq_true rfl) ?_
  intro p e s m args below meth c ls Q hQ S hr hlocks hK hP hl
  obtain ⟨hx, hb, hml, hown, hts⟩ := id S
  have h_tx := hP
  have hL : ∀ q ∈ ([] : List Loc), z ≤ q.base := fun q h => absurd h List.not_mem_nil
  have hF : XF (fun q => (t ≤ q ∧ q < t + 2)) s.heap s.heap := XF.rf
  have hl : lv_has ls 4 [(0, .ref t), (1, .int p1)] := hl
  have in4 : ∀ w ∈ u_ws RX4 TX4 3, w ∈ wsX4_readNumber := fun _ h => List.mem_cons_of_mem _ (List.mem_append_right _ h)
  unfold f_X4_readNumber at hf
  refine lv_iconst (v := (-1)) hx hb dX4_readNumber_0 (by decide) ?_
  refine lv_istore_n (lv' := [(2, .int (-1)), (0, .ref t), (1, .int p1)]) hx hb dX4_readNumber_1 rfl hl (by decide) rfl (fun ls hl => ?_)
  refine lv_iconst (v := 0) hx hb dX4_readNumber_2 (by decide) ?_
  refine lv_istore_n (lv' := [(3, .int 0), (2, .int (-1)), (0, .ref t), (1, .int p1)]) hx hb dX4_readNumber_3 rfl hl (by decide) rfl (fun ls hl => ?_)
  have lp_4 : ∀ (K_4 : Int32 → Int32 → xV → Option (Int32 × xV)), (∀ (x_1 : Int32) (x_2 : Int32) (tv_3 : xV) (H : Heap) (locs : List Loc) (ls : Array Slot), (∀ q ∈ locs, z ≤ q.base) → PX G t 2 (txE G t) tv_3 H → XF (fun q => (t ≤ q ∧ q < t + 2)) s.heap H → lv_has ls 4 [(2, .int x_1)] → K_4 x_1 x_2 tv_3 = some (r0, tv') → W p l e { frames := 2, cells := 0, slots := 0, locals := 40 } s m args below meth c H locs 0 0 Q (F0 m 49 ls [])) → ∀ (n : Nat) (x_1 : Int32) (x_2 : Int32) (tv_3 : xV) (H : Heap) (locs : List Loc) (ls : Array Slot), (∀ q ∈ locs, z ≤ q.base) → PX G t 2 (txE G t) tv_3 H → XF (fun q => (t ≤ q ∧ q < t + 2)) s.heap H → lv_has ls 4 [(0, .ref t), (1, .int p1), (2, .int x_1), (3, .int x_2)] → L_X4_readNumber_4 K_4 p1 n x_1 x_2 tv_3 = some (r0, tv') → W p l e { frames := 2, cells := 0, slots := 0, locals := 40 } s m args below meth c H locs 0 0 Q (F0 m 4 ls []) := by
    intro K_4 hK_4 n
    induction n with
    | zero =>
      intro x_1 x_2 tv_3 H locs ls hL h_tx hF hl hf
      cases hf
    | succ n ih_4 =>
      intro x_1 x_2 tv_3 H locs ls hL h_tx hF hl hf
      unfold L_X4_readNumber_4 at hf
      refine lv_iload_n hx hb dX4_readNumber_4 rfl (lv_at hl 3 rfl) ?_
      refine lv_iload_n hx hb dX4_readNumber_5 rfl (lv_at hl 1 rfl) ?_
      refine lv_icmp_ge (tgt := 49) hx hb dX4_readNumber_6 (by decide) (fun c_4 => ?_) (fun c_4 => ?_)
      · have hf := (if_pos c_4).symm.trans hf
        exact hK_4 x_1 x_2 tv_3 _ _ _ hL h_tx hF (lv_sub hl [2] rfl) hf
      · have hf := (if_neg c_4).symm.trans hf
        refine lv_aload_n hx hb dX4_readNumber_9 rfl (lv_at hl 0 rfl) ?_
        obtain ⟨r_5, e_6, hf⟩ := xb_some hf
        refine x_callVi (As := []) (rest := []) S hK (c_X4_isDigitHere l G z t tv_3 r_5 e_6) gX4_readNumber_X4_isDigitHere rfl 0 (by decide +kernel) rfl ⟨Nat.le_of_ble_eq_true rfl, Nat.le_of_ble_eq_true rfl⟩ h_tx 0 (by decide) rfl rfl rfl h_tx hl.1 rfl (Nat.le_of_ble_eq_true rfl) dX4_readNumber_10 hL ⟨Nat.zero_le _, Nat.zero_le _⟩ (fun H1 locs hL hpost => ?_)
        subst hpost
        refine lv_if_eq (tgt := 49) hx hb dX4_readNumber_13 (by decide) (fun c_7 => ?_) (fun c_7 => ?_)
        · have hf := (if_pos c_7).symm.trans hf
          exact hK_4 x_1 x_2 tv_3 _ _ _ hL h_tx hF (lv_sub hl [2] rfl) hf
        · have hf := (if_neg c_7).symm.trans hf
          refine lv_bipush (v := 10) hx hb dX4_readNumber_16 (by decide) ?_
          refine lv_iload_n hx hb dX4_readNumber_18 rfl (lv_at hl 2 rfl) ?_
          refine lv_iconst (v := 0) hx hb dX4_readNumber_19 (by decide) ?_
          refine x_max S (xm 1 rfl) (xm 2 rfl) (xm 3 rfl) (xm 4 rfl) hl.1 (Nat.le_of_ble_eq_true rfl) (Nat.le_of_ble_eq_true rfl) (Nat.zero_le _) (Nat.zero_le _) dX4_readNumber_20 ?_
          refine lv_imul hx hb dX4_readNumber_23 ?_
          refine lv_aload_n hx hb dX4_readNumber_24 rfl (lv_at hl 0 rfl) ?_
          obtain ⟨r_8, e_9, hf⟩ := xb_some hf
          refine x_callVi (As := []) (rest := [.int (10 * (if x_1 < 0 then 0 else x_1))]) S hK (c_X4_here l G z t tv_3 r_8 e_9) gX4_readNumber_X4_here rfl 0 (by decide +kernel) rfl ⟨Nat.le_of_ble_eq_true rfl, Nat.le_of_ble_eq_true rfl⟩ h_tx 0 (by decide) rfl rfl rfl h_tx hl.1 rfl (Nat.le_of_ble_eq_true rfl) dX4_readNumber_25 hL ⟨Nat.zero_le _, Nat.zero_le _⟩ (fun H1 locs hL hpost => ?_)
          subst hpost
          refine lv_iadd hx hb dX4_readNumber_28 ?_
          refine lv_bipush (v := 48) hx hb dX4_readNumber_29 (by decide) ?_
          refine lv_isub hx hb dX4_readNumber_31 ?_
          obtain ⟨x_10, ex_10, hf⟩ := xl_some hf
          refine x_top ex_10 ?_
          refine lv_istore_n (lv' := [(2, .int x_10), (0, .ref t), (1, .int p1), (3, .int x_2)]) hx hb dX4_readNumber_32 rfl hl (by decide) rfl (fun ls hl => ?_)
          refine lv_aload_n hx hb dX4_readNumber_33 rfl (lv_at hl 1 rfl) ?_
          refine lv_dup hx hb dX4_readNumber_34 rfl ?_
          refine x_get S hK h_tx 0 (by decide) rfl rfl rfl in4 2 (by decide) (xm 5 rfl) (x := .int (tv_3 0 2)) rfl dX4_readNumber_35 ?_
          refine lv_iconst (v := 1) hx hb dX4_readNumber_38 (by decide) ?_
          refine lv_iadd hx hb dX4_readNumber_39 ?_
          obtain ⟨tv_11, etv_11, hf⟩ := xl_some hf
          refine x_put S hK h_tx hz_tx hL 0 (by decide) rfl rfl rfl in4 tyX4 tyX4_ok nmX4 2 (by decide) (xm 5 rfl) rfl (vp_nar_int _) rfl (Nat.le_of_ble_eq_true rfl) rfl etv_11 dX4_readNumber_40 (fun H1 locs hL h_tx hfr => ?_)
          have hF := hF.step hfr (fun q h => by (try dsimp only at h ⊢); omega)
          obtain ⟨x_12, ex_12, hf⟩ := xl_some hf
          refine lv_iinc (v := x_12) (lv' := [(3, .int x_12), (2, .int x_10), (0, .ref t), (1, .int p1)]) hx hb dX4_readNumber_43 hl (k := 3) rfl (by rw [ex_12]; rfl) (by decide) rfl (fun ls hl => ?_)
          refine lv_goto (tgt := 4) hx hb dX4_readNumber_46 (by decide) ?_
          exact ih_4 x_10 x_12 tv_11 _ _ _ hL h_tx hF (lv_sub hl [2, 3, 1, 0] rfl) hf
  refine lp_4 _ (fun x_13 x_14 tv_15 H locs ls hL h_tx hF hl hf => ?_) 100000 (-1) 0 tv _ _ _ hL h_tx hF (lv_sub hl [2, 3, 1, 0] rfl) hf
  refine lv_iload_n hx hb dX4_readNumber_49 rfl (lv_at hl 0 rfl) ?_
  obtain ⟨q0, qq0⟩ := Prod.mk.inj (Option.some.inj hf)
  have q1 := qq0
  subst r0
  subst tv'
  subst hQ
  refine x_iret (post := (fun H H1 => PX G t 2 (txE G t) tv_15 H1 ∧ XF (fun q => (t ≤ q ∧ q < t + 2)) H H1)) S hr hlocks rfl ?_ hL dX4_readNumber_50
  exact ⟨h_tx, hF⟩
set_option maxRecDepth 100000 in
set_option maxHeartbeats 4000000 in
theorem c_X4_skip (l : Launch) (G : xG) (z : Nat) (t : Nat) (tv : xV) (p1 : Int32) (r0 : Int32) (tv' : xV) (hz_tx : z ≤ t) (hf : f_X4_skip tv p1 = some (r0, tv')) : xM l yX4_skip wsX4_skip 1 20 G z [.ref t, .int p1] (fun H => PX G t 2 (txE G t) tv H) (some (.int r0)) (fun H H1 => PX G t 2 (txE G t) tv' H1 ∧ XF (fun q => (t ≤ q ∧ q < t + 2)) H H1) := by
  refine xM.of (cc := cX4_skip) (maxL := 2) (ret := (some .boolean)) (by decide +kernel) rfl (Nat.le_of_ble_eq_true rfl) ?_
  intro p e s m args below meth c ls Q hQ S hr hlocks hK hP hl
  obtain ⟨hx, hb, hml, hown, hts⟩ := id S
  have h_tx := hP
  have hL : ∀ q ∈ ([] : List Loc), z ≤ q.base := fun q h => absurd h List.not_mem_nil
  have hF : XF (fun q => (t ≤ q ∧ q < t + 2)) s.heap s.heap := XF.rf
  have hl : lv_has ls 2 [(0, .ref t), (1, .int p1)] := hl
  have in4 : ∀ w ∈ u_ws RX4 TX4 3, w ∈ wsX4_skip := fun _ h => List.mem_cons_of_mem _ (List.mem_append_right _ h)
  unfold f_X4_skip at hf
  refine lv_aload_n hx hb dX4_skip_0 rfl (lv_at hl 0 rfl) ?_
  obtain ⟨r_1, e_2, hf⟩ := xb_some hf
  refine x_callVi (As := []) (rest := []) S hK (c_X4_here l G z t tv r_1 e_2) gX4_skip_X4_here rfl 0 (by decide +kernel) rfl ⟨Nat.le_of_ble_eq_true rfl, Nat.le_of_ble_eq_true rfl⟩ h_tx 0 (by decide) rfl rfl rfl h_tx hl.1 rfl (Nat.le_of_ble_eq_true rfl) dX4_skip_1 hL ⟨Nat.zero_le _, Nat.zero_le _⟩ (fun H1 locs hL hpost => ?_)
  subst hpost
  refine lv_iload_n hx hb dX4_skip_4 rfl (lv_at hl 1 rfl) ?_
  refine lv_icmp_eq (tgt := 10) hx hb dX4_skip_5 (by decide) (fun c_3 => ?_) (fun c_3 => ?_)
  · have hf := (if_pos c_3).symm.trans hf
    refine lv_aload_n hx hb dX4_skip_10 rfl (lv_at hl 0 rfl) ?_
    refine lv_dup hx hb dX4_skip_11 rfl ?_
    refine x_get S hK h_tx 0 (by decide) rfl rfl rfl in4 2 (by decide) (xm 1 rfl) (x := .int (tv 0 2)) rfl dX4_skip_12 ?_
    refine lv_iconst (v := 1) hx hb dX4_skip_15 (by decide) ?_
    refine lv_iadd hx hb dX4_skip_16 ?_
    obtain ⟨tv_4, etv_4, hf⟩ := xl_some hf
    refine x_put S hK h_tx hz_tx hL 0 (by decide) rfl rfl rfl in4 tyX4 tyX4_ok nmX4 2 (by decide) (xm 1 rfl) rfl (vp_nar_int _) rfl (Nat.le_of_ble_eq_true rfl) rfl etv_4 dX4_skip_17 (fun H1 locs hL h_tx hfr => ?_)
    have hF := hF.step hfr (fun q h => by (try dsimp only at h ⊢); omega)
    refine lv_iconst (v := 1) hx hb dX4_skip_20 (by decide) ?_
    obtain ⟨q0, qq0⟩ := Prod.mk.inj (Option.some.inj hf)
    have q1 := qq0
    subst r0
    subst tv'
    subst hQ
    refine x_zret (post := (fun H H1 => PX G t 2 (txE G t) tv_4 H1 ∧ XF (fun q => (t ≤ q ∧ q < t + 2)) H H1)) S hr hlocks (by decide) rfl ?_ hL dX4_skip_21
    exact ⟨h_tx, hF⟩
  · have hf := (if_neg c_3).symm.trans hf
    refine lv_iconst (v := 0) hx hb dX4_skip_8 (by decide) ?_
    obtain ⟨q0, qq0⟩ := Prod.mk.inj (Option.some.inj hf)
    have q1 := qq0
    subst r0
    subst tv'
    subst hQ
    refine x_zret (post := (fun H H1 => PX G t 2 (txE G t) tv H1 ∧ XF (fun q => (t ≤ q ∧ q < t + 2)) H H1)) S hr hlocks (by decide) rfl ?_ hL dX4_skip_9
    exact ⟨h_tx, hF⟩
set_option maxRecDepth 100000 in
set_option maxHeartbeats 4000000 in
theorem c_X4_readRooms (l : Launch) (G : xG) (z : Nat) (t : Nat) (tv : xV) (r0 : Int32) (tv' : xV) (hz_tx : z ≤ t) (hf : f_X4_readRooms tv = some (r0, tv')) : xM l yX4_readRooms wsX4_readRooms 2 41 G z [.ref t] (fun H => PX G t 2 (txE G t) tv H) (some (.int r0)) (fun H H1 => PX G t 2 (txE G t) tv' H1 ∧ XF (fun q => (t ≤ q ∧ q < t + 2)) H H1) := by
  refine xM.of (cc := cX4_readRooms) (maxL := 2) (ret := (some .int)) (by decide +kernel) rfl (Nat.le_of_ble_eq_true rfl) ?_
  intro p e s m args below meth c ls Q hQ S hr hlocks hK hP hl
  obtain ⟨hx, hb, hml, hown, hts⟩ := id S
  have h_tx := hP
  have hL : ∀ q ∈ ([] : List Loc), z ≤ q.base := fun q h => absurd h List.not_mem_nil
  have hF : XF (fun q => (t ≤ q ∧ q < t + 2)) s.heap s.heap := XF.rf
  have hl : lv_has ls 2 [(0, .ref t)] := hl
  unfold f_X4_readRooms at hf
  refine lv_aload_n hx hb dX4_readRooms_0 rfl (lv_at hl 0 rfl) ?_
  refine lv_bipush (v := 104) hx hb dX4_readRooms_1 (by decide) ?_
  obtain ⟨r_1, tv_2, e_3, hf⟩ := xb2_some hf
  refine x_callVi (As := [.int 104]) (rest := []) S hK (c_X4_skip l G z t tv 104 r_1 tv_2 (by omega) e_3) gX4_readRooms_X4_skip rfl 1 (by decide +kernel) rfl ⟨Nat.le_of_ble_eq_true rfl, Nat.le_of_ble_eq_true rfl⟩ h_tx 0 (by decide) rfl rfl rfl h_tx hl.1 rfl (Nat.le_of_ble_eq_true rfl) dX4_readRooms_3 hL ⟨Nat.zero_le _, Nat.zero_le _⟩ (fun H1 locs hL hpost => ?_)
  obtain ⟨n_tx, hfr⟩ := hpost
  have h_tx := n_tx
  have hF := hF.step hfr (fun q h => by (try dsimp only at h ⊢); omega)
  refine lv_if_eq (tgt := 13) hx hb dX4_readRooms_6 (by decide) (fun c_4 => ?_) (fun c_4 => ?_)
  · have hf := (if_pos c_4).symm.trans hf
    refine lv_iconst (v := 0) hx hb dX4_readRooms_13 (by decide) ?_
    refine lv_istore_n (lv' := [(1, .int 0), (0, .ref t)]) hx hb dX4_readRooms_14 rfl hl (by decide) rfl (fun ls hl => ?_)
    refine lv_iload_n hx hb dX4_readRooms_15 rfl (lv_at hl 0 rfl) ?_
    refine lv_aload_n hx hb dX4_readRooms_16 rfl (lv_at hl 1 rfl) ?_
    refine lv_bipush (v := 107) hx hb dX4_readRooms_17 (by decide) ?_
    obtain ⟨r_5, tv_6, e_7, hf⟩ := xb2_some hf
    refine x_callVi (As := [.int 107]) (rest := [.int 0]) S hK (c_X4_skip l G z t tv_2 107 r_5 tv_6 (by omega) e_7) gX4_readRooms_X4_skip rfl 1 (by decide +kernel) rfl ⟨Nat.le_of_ble_eq_true rfl, Nat.le_of_ble_eq_true rfl⟩ h_tx 0 (by decide) rfl rfl rfl h_tx hl.1 rfl (Nat.le_of_ble_eq_true rfl) dX4_readRooms_19 hL ⟨Nat.zero_le _, Nat.zero_le _⟩ (fun H1 locs hL hpost => ?_)
    obtain ⟨n_tx, hfr⟩ := hpost
    have h_tx := n_tx
    have hF := hF.step hfr (fun q h => by (try dsimp only at h ⊢); omega)
    refine lv_if_eq (tgt := 29) hx hb dX4_readRooms_22 (by decide) (fun c_8 => ?_) (fun c_8 => ?_)
    · have hf := (if_pos c_8).symm.trans hf
      refine lv_iconst (v := 0) hx hb dX4_readRooms_29 (by decide) ?_
      refine lv_ior hx hb dX4_readRooms_30 ?_
      obtain ⟨x_9, ex_9, hf⟩ := xl_some hf
      refine x_top ex_9 ?_
      refine lv_istore_n (lv' := [(1, .int x_9), (0, .ref t)]) hx hb dX4_readRooms_31 rfl hl (by decide) rfl (fun ls hl => ?_)
      refine lv_iload_n hx hb dX4_readRooms_32 rfl (lv_at hl 0 rfl) ?_
      refine lv_aload_n hx hb dX4_readRooms_33 rfl (lv_at hl 1 rfl) ?_
      refine lv_bipush (v := 109) hx hb dX4_readRooms_34 (by decide) ?_
      obtain ⟨r_10, tv_11, e_12, hf⟩ := xb2_some hf
      refine x_callVi (As := [.int 109]) (rest := [.int x_9]) S hK (c_X4_skip l G z t tv_6 109 r_10 tv_11 (by omega) e_12) gX4_readRooms_X4_skip rfl 1 (by decide +kernel) rfl ⟨Nat.le_of_ble_eq_true rfl, Nat.le_of_ble_eq_true rfl⟩ h_tx 0 (by decide) rfl rfl rfl h_tx hl.1 rfl (Nat.le_of_ble_eq_true rfl) dX4_readRooms_36 hL ⟨Nat.zero_le _, Nat.zero_le _⟩ (fun H1 locs hL hpost => ?_)
      obtain ⟨n_tx, hfr⟩ := hpost
      have h_tx := n_tx
      have hF := hF.step hfr (fun q h => by (try dsimp only at h ⊢); omega)
      refine lv_if_eq (tgt := 46) hx hb dX4_readRooms_39 (by decide) (fun c_13 => ?_) (fun c_13 => ?_)
      · have hf := (if_pos c_13).symm.trans hf
        refine lv_iconst (v := 0) hx hb dX4_readRooms_46 (by decide) ?_
        refine lv_ior hx hb dX4_readRooms_47 ?_
        obtain ⟨x_14, ex_14, hf⟩ := xl_some hf
        refine x_top ex_14 ?_
        refine lv_istore_n (lv' := [(1, .int x_14), (0, .ref t)]) hx hb dX4_readRooms_48 rfl hl (by decide) rfl (fun ls hl => ?_)
        refine lv_iload_n hx hb dX4_readRooms_49 rfl (lv_at hl 0 rfl) ?_
        obtain ⟨q0, qq0⟩ := Prod.mk.inj (Option.some.inj hf)
        have q1 := qq0
        subst r0
        subst tv'
        subst hQ
        refine x_iret (post := (fun H H1 => PX G t 2 (txE G t) tv_11 H1 ∧ XF (fun q => (t ≤ q ∧ q < t + 2)) H H1)) S hr hlocks rfl ?_ hL dX4_readRooms_50
        exact ⟨h_tx, hF⟩
      · have hf := (if_neg c_13).symm.trans hf
        refine lv_iconst (v := 4) hx hb dX4_readRooms_42 (by decide) ?_
        refine lv_goto (tgt := 47) hx hb dX4_readRooms_43 (by decide) ?_
        refine lv_ior hx hb dX4_readRooms_47 ?_
        obtain ⟨x_15, ex_15, hf⟩ := xl_some hf
        refine x_top ex_15 ?_
        refine lv_istore_n (lv' := [(1, .int x_15), (0, .ref t)]) hx hb dX4_readRooms_48 rfl hl (by decide) rfl (fun ls hl => ?_)
        refine lv_iload_n hx hb dX4_readRooms_49 rfl (lv_at hl 0 rfl) ?_
        obtain ⟨q0, qq0⟩ := Prod.mk.inj (Option.some.inj hf)
        have q1 := qq0
        subst r0
        subst tv'
        subst hQ
        refine x_iret (post := (fun H H1 => PX G t 2 (txE G t) tv_11 H1 ∧ XF (fun q => (t ≤ q ∧ q < t + 2)) H H1)) S hr hlocks rfl ?_ hL dX4_readRooms_50
        exact ⟨h_tx, hF⟩
    · have hf := (if_neg c_8).symm.trans hf
      refine lv_iconst (v := 2) hx hb dX4_readRooms_25 (by decide) ?_
      refine lv_goto (tgt := 30) hx hb dX4_readRooms_26 (by decide) ?_
      refine lv_ior hx hb dX4_readRooms_30 ?_
      obtain ⟨x_16, ex_16, hf⟩ := xl_some hf
      refine x_top ex_16 ?_
      refine lv_istore_n (lv' := [(1, .int x_16), (0, .ref t)]) hx hb dX4_readRooms_31 rfl hl (by decide) rfl (fun ls hl => ?_)
      refine lv_iload_n hx hb dX4_readRooms_32 rfl (lv_at hl 0 rfl) ?_
      refine lv_aload_n hx hb dX4_readRooms_33 rfl (lv_at hl 1 rfl) ?_
      refine lv_bipush (v := 109) hx hb dX4_readRooms_34 (by decide) ?_
      obtain ⟨r_17, tv_18, e_19, hf⟩ := xb2_some hf
      refine x_callVi (As := [.int 109]) (rest := [.int x_16]) S hK (c_X4_skip l G z t tv_6 109 r_17 tv_18 (by omega) e_19) gX4_readRooms_X4_skip rfl 1 (by decide +kernel) rfl ⟨Nat.le_of_ble_eq_true rfl, Nat.le_of_ble_eq_true rfl⟩ h_tx 0 (by decide) rfl rfl rfl h_tx hl.1 rfl (Nat.le_of_ble_eq_true rfl) dX4_readRooms_36 hL ⟨Nat.zero_le _, Nat.zero_le _⟩ (fun H1 locs hL hpost => ?_)
      obtain ⟨n_tx, hfr⟩ := hpost
      have h_tx := n_tx
      have hF := hF.step hfr (fun q h => by (try dsimp only at h ⊢); omega)
      refine lv_if_eq (tgt := 46) hx hb dX4_readRooms_39 (by decide) (fun c_20 => ?_) (fun c_20 => ?_)
      · have hf := (if_pos c_20).symm.trans hf
        refine lv_iconst (v := 0) hx hb dX4_readRooms_46 (by decide) ?_
        refine lv_ior hx hb dX4_readRooms_47 ?_
        obtain ⟨x_21, ex_21, hf⟩ := xl_some hf
        refine x_top ex_21 ?_
        refine lv_istore_n (lv' := [(1, .int x_21), (0, .ref t)]) hx hb dX4_readRooms_48 rfl hl (by decide) rfl (fun ls hl => ?_)
        refine lv_iload_n hx hb dX4_readRooms_49 rfl (lv_at hl 0 rfl) ?_
        obtain ⟨q0, qq0⟩ := Prod.mk.inj (Option.some.inj hf)
        have q1 := qq0
        subst r0
        subst tv'
        subst hQ
        refine x_iret (post := (fun H H1 => PX G t 2 (txE G t) tv_18 H1 ∧ XF (fun q => (t ≤ q ∧ q < t + 2)) H H1)) S hr hlocks rfl ?_ hL dX4_readRooms_50
        exact ⟨h_tx, hF⟩
      · have hf := (if_neg c_20).symm.trans hf
        refine lv_iconst (v := 4) hx hb dX4_readRooms_42 (by decide) ?_
        refine lv_goto (tgt := 47) hx hb dX4_readRooms_43 (by decide) ?_
        refine lv_ior hx hb dX4_readRooms_47 ?_
        obtain ⟨x_22, ex_22, hf⟩ := xl_some hf
        refine x_top ex_22 ?_
        refine lv_istore_n (lv' := [(1, .int x_22), (0, .ref t)]) hx hb dX4_readRooms_48 rfl hl (by decide) rfl (fun ls hl => ?_)
        refine lv_iload_n hx hb dX4_readRooms_49 rfl (lv_at hl 0 rfl) ?_
        obtain ⟨q0, qq0⟩ := Prod.mk.inj (Option.some.inj hf)
        have q1 := qq0
        subst r0
        subst tv'
        subst hQ
        refine x_iret (post := (fun H H1 => PX G t 2 (txE G t) tv_18 H1 ∧ XF (fun q => (t ≤ q ∧ q < t + 2)) H H1)) S hr hlocks rfl ?_ hL dX4_readRooms_50
        exact ⟨h_tx, hF⟩
  · have hf := (if_neg c_4).symm.trans hf
    refine lv_iconst (v := 1) hx hb dX4_readRooms_9 (by decide) ?_
    refine lv_goto (tgt := 14) hx hb dX4_readRooms_10 (by decide) ?_
    refine lv_istore_n (lv' := [(1, .int 1), (0, .ref t)]) hx hb dX4_readRooms_14 rfl hl (by decide) rfl (fun ls hl => ?_)
    refine lv_iload_n hx hb dX4_readRooms_15 rfl (lv_at hl 0 rfl) ?_
    refine lv_aload_n hx hb dX4_readRooms_16 rfl (lv_at hl 1 rfl) ?_
    refine lv_bipush (v := 107) hx hb dX4_readRooms_17 (by decide) ?_
    obtain ⟨r_23, tv_24, e_25, hf⟩ := xb2_some hf
    refine x_callVi (As := [.int 107]) (rest := [.int 1]) S hK (c_X4_skip l G z t tv_2 107 r_23 tv_24 (by omega) e_25) gX4_readRooms_X4_skip rfl 1 (by decide +kernel) rfl ⟨Nat.le_of_ble_eq_true rfl, Nat.le_of_ble_eq_true rfl⟩ h_tx 0 (by decide) rfl rfl rfl h_tx hl.1 rfl (Nat.le_of_ble_eq_true rfl) dX4_readRooms_19 hL ⟨Nat.zero_le _, Nat.zero_le _⟩ (fun H1 locs hL hpost => ?_)
    obtain ⟨n_tx, hfr⟩ := hpost
    have h_tx := n_tx
    have hF := hF.step hfr (fun q h => by (try dsimp only at h ⊢); omega)
    refine lv_if_eq (tgt := 29) hx hb dX4_readRooms_22 (by decide) (fun c_26 => ?_) (fun c_26 => ?_)
    · have hf := (if_pos c_26).symm.trans hf
      refine lv_iconst (v := 0) hx hb dX4_readRooms_29 (by decide) ?_
      refine lv_ior hx hb dX4_readRooms_30 ?_
      obtain ⟨x_27, ex_27, hf⟩ := xl_some hf
      refine x_top ex_27 ?_
      refine lv_istore_n (lv' := [(1, .int x_27), (0, .ref t)]) hx hb dX4_readRooms_31 rfl hl (by decide) rfl (fun ls hl => ?_)
      refine lv_iload_n hx hb dX4_readRooms_32 rfl (lv_at hl 0 rfl) ?_
      refine lv_aload_n hx hb dX4_readRooms_33 rfl (lv_at hl 1 rfl) ?_
      refine lv_bipush (v := 109) hx hb dX4_readRooms_34 (by decide) ?_
      obtain ⟨r_28, tv_29, e_30, hf⟩ := xb2_some hf
      refine x_callVi (As := [.int 109]) (rest := [.int x_27]) S hK (c_X4_skip l G z t tv_24 109 r_28 tv_29 (by omega) e_30) gX4_readRooms_X4_skip rfl 1 (by decide +kernel) rfl ⟨Nat.le_of_ble_eq_true rfl, Nat.le_of_ble_eq_true rfl⟩ h_tx 0 (by decide) rfl rfl rfl h_tx hl.1 rfl (Nat.le_of_ble_eq_true rfl) dX4_readRooms_36 hL ⟨Nat.zero_le _, Nat.zero_le _⟩ (fun H1 locs hL hpost => ?_)
      obtain ⟨n_tx, hfr⟩ := hpost
      have h_tx := n_tx
      have hF := hF.step hfr (fun q h => by (try dsimp only at h ⊢); omega)
      refine lv_if_eq (tgt := 46) hx hb dX4_readRooms_39 (by decide) (fun c_31 => ?_) (fun c_31 => ?_)
      · have hf := (if_pos c_31).symm.trans hf
        refine lv_iconst (v := 0) hx hb dX4_readRooms_46 (by decide) ?_
        refine lv_ior hx hb dX4_readRooms_47 ?_
        obtain ⟨x_32, ex_32, hf⟩ := xl_some hf
        refine x_top ex_32 ?_
        refine lv_istore_n (lv' := [(1, .int x_32), (0, .ref t)]) hx hb dX4_readRooms_48 rfl hl (by decide) rfl (fun ls hl => ?_)
        refine lv_iload_n hx hb dX4_readRooms_49 rfl (lv_at hl 0 rfl) ?_
        obtain ⟨q0, qq0⟩ := Prod.mk.inj (Option.some.inj hf)
        have q1 := qq0
        subst r0
        subst tv'
        subst hQ
        refine x_iret (post := (fun H H1 => PX G t 2 (txE G t) tv_29 H1 ∧ XF (fun q => (t ≤ q ∧ q < t + 2)) H H1)) S hr hlocks rfl ?_ hL dX4_readRooms_50
        exact ⟨h_tx, hF⟩
      · have hf := (if_neg c_31).symm.trans hf
        refine lv_iconst (v := 4) hx hb dX4_readRooms_42 (by decide) ?_
        refine lv_goto (tgt := 47) hx hb dX4_readRooms_43 (by decide) ?_
        refine lv_ior hx hb dX4_readRooms_47 ?_
        obtain ⟨x_33, ex_33, hf⟩ := xl_some hf
        refine x_top ex_33 ?_
        refine lv_istore_n (lv' := [(1, .int x_33), (0, .ref t)]) hx hb dX4_readRooms_48 rfl hl (by decide) rfl (fun ls hl => ?_)
        refine lv_iload_n hx hb dX4_readRooms_49 rfl (lv_at hl 0 rfl) ?_
        obtain ⟨q0, qq0⟩ := Prod.mk.inj (Option.some.inj hf)
        have q1 := qq0
        subst r0
        subst tv'
        subst hQ
        refine x_iret (post := (fun H H1 => PX G t 2 (txE G t) tv_29 H1 ∧ XF (fun q => (t ≤ q ∧ q < t + 2)) H H1)) S hr hlocks rfl ?_ hL dX4_readRooms_50
        exact ⟨h_tx, hF⟩
    · have hf := (if_neg c_26).symm.trans hf
      refine lv_iconst (v := 2) hx hb dX4_readRooms_25 (by decide) ?_
      refine lv_goto (tgt := 30) hx hb dX4_readRooms_26 (by decide) ?_
      refine lv_ior hx hb dX4_readRooms_30 ?_
      obtain ⟨x_34, ex_34, hf⟩ := xl_some hf
      refine x_top ex_34 ?_
      refine lv_istore_n (lv' := [(1, .int x_34), (0, .ref t)]) hx hb dX4_readRooms_31 rfl hl (by decide) rfl (fun ls hl => ?_)
      refine lv_iload_n hx hb dX4_readRooms_32 rfl (lv_at hl 0 rfl) ?_
      refine lv_aload_n hx hb dX4_readRooms_33 rfl (lv_at hl 1 rfl) ?_
      refine lv_bipush (v := 109) hx hb dX4_readRooms_34 (by decide) ?_
      obtain ⟨r_35, tv_36, e_37, hf⟩ := xb2_some hf
      refine x_callVi (As := [.int 109]) (rest := [.int x_34]) S hK (c_X4_skip l G z t tv_24 109 r_35 tv_36 (by omega) e_37) gX4_readRooms_X4_skip rfl 1 (by decide +kernel) rfl ⟨Nat.le_of_ble_eq_true rfl, Nat.le_of_ble_eq_true rfl⟩ h_tx 0 (by decide) rfl rfl rfl h_tx hl.1 rfl (Nat.le_of_ble_eq_true rfl) dX4_readRooms_36 hL ⟨Nat.zero_le _, Nat.zero_le _⟩ (fun H1 locs hL hpost => ?_)
      obtain ⟨n_tx, hfr⟩ := hpost
      have h_tx := n_tx
      have hF := hF.step hfr (fun q h => by (try dsimp only at h ⊢); omega)
      refine lv_if_eq (tgt := 46) hx hb dX4_readRooms_39 (by decide) (fun c_38 => ?_) (fun c_38 => ?_)
      · have hf := (if_pos c_38).symm.trans hf
        refine lv_iconst (v := 0) hx hb dX4_readRooms_46 (by decide) ?_
        refine lv_ior hx hb dX4_readRooms_47 ?_
        obtain ⟨x_39, ex_39, hf⟩ := xl_some hf
        refine x_top ex_39 ?_
        refine lv_istore_n (lv' := [(1, .int x_39), (0, .ref t)]) hx hb dX4_readRooms_48 rfl hl (by decide) rfl (fun ls hl => ?_)
        refine lv_iload_n hx hb dX4_readRooms_49 rfl (lv_at hl 0 rfl) ?_
        obtain ⟨q0, qq0⟩ := Prod.mk.inj (Option.some.inj hf)
        have q1 := qq0
        subst r0
        subst tv'
        subst hQ
        refine x_iret (post := (fun H H1 => PX G t 2 (txE G t) tv_36 H1 ∧ XF (fun q => (t ≤ q ∧ q < t + 2)) H H1)) S hr hlocks rfl ?_ hL dX4_readRooms_50
        exact ⟨h_tx, hF⟩
      · have hf := (if_neg c_38).symm.trans hf
        refine lv_iconst (v := 4) hx hb dX4_readRooms_42 (by decide) ?_
        refine lv_goto (tgt := 47) hx hb dX4_readRooms_43 (by decide) ?_
        refine lv_ior hx hb dX4_readRooms_47 ?_
        obtain ⟨x_40, ex_40, hf⟩ := xl_some hf
        refine x_top ex_40 ?_
        refine lv_istore_n (lv' := [(1, .int x_40), (0, .ref t)]) hx hb dX4_readRooms_48 rfl hl (by decide) rfl (fun ls hl => ?_)
        refine lv_iload_n hx hb dX4_readRooms_49 rfl (lv_at hl 0 rfl) ?_
        obtain ⟨q0, qq0⟩ := Prod.mk.inj (Option.some.inj hf)
        have q1 := qq0
        subst r0
        subst tv'
        subst hQ
        refine x_iret (post := (fun H H1 => PX G t 2 (txE G t) tv_36 H1 ∧ XF (fun q => (t ≤ q ∧ q < t + 2)) H H1)) S hr hlocks rfl ?_ hL dX4_readRooms_50
        exact ⟨h_tx, hF⟩
set_option maxRecDepth 100000 in
set_option maxHeartbeats 4000000 in
theorem c_X4_readSeries (l : Launch) (G : xG) (z : Nat) (t : Nat) (w : Nat) (tv : xV) (wv : xV) (r0 : Int32) (tv' : xV) (wv' : xV) (hz_tx : z ≤ t) (hz_ws : z ≤ w) (dj_tx_ws : t + 2 ≤ w ∨ w + 1 ≤ t) (hf : f_X4_readSeries tv wv = some (r0, tv', wv')) : xM l yX4_readSeries wsX4_readSeries 3 63 G z [.ref t, .ref w] (fun H => PX G t 2 (txE G t) tv H ∧ PX G w 1 wsE wv H) (some (.int r0)) (fun H H1 => PX G t 2 (txE G t) tv' H1 ∧ PX G w 1 wsE wv' H1 ∧ XF (fun q => (t ≤ q ∧ q < t + 2) ∨ (w ≤ q ∧ q < w + 1)) H H1) := by
  refine xM.of (cc := cX4_readSeries) (maxL := 2) (ret := (some .boolean)) (by decide +kernel) rfl (Nat.le_of_ble_eq_true rfl) ?_
  intro p e s m args below meth c ls Q hQ S hr hlocks hK hP hl
  obtain ⟨hx, hb, hml, hown, hts⟩ := id S
  obtain ⟨h_tx, h_ws⟩ := hP
  have hL : ∀ q ∈ ([] : List Loc), z ≤ q.base := fun q h => absurd h List.not_mem_nil
  have hF : XF (fun q => (t ≤ q ∧ q < t + 2) ∨ (w ≤ q ∧ q < w + 1)) s.heap s.heap := XF.rf
  have hl : lv_has ls 2 [(0, .ref t), (1, .ref w)] := hl
  have in6 : ∀ w ∈ u_ws RX6 TX6 7, w ∈ wsX4_readSeries := fun _ h => List.mem_cons_of_mem _ (List.mem_append_left _ (List.mem_append_right _ h))
  unfold f_X4_readSeries at hf
  refine lv_aload_n hx hb dX4_readSeries_0 rfl (lv_at hl 1 rfl) ?_
  refine lv_iconst (v := 1) hx hb dX4_readSeries_1 (by decide) ?_
  obtain ⟨wv_1, ewv_1, hf⟩ := xl_some hf
  refine x_put S hK h_ws hz_ws hL 0 (by decide) rfl rfl rfl in6 tyX6 tyX6_ok nmX6 5 (by decide) (xm 1 rfl) rfl (vp_nar_int _) rfl (Nat.le_of_ble_eq_true rfl) rfl ewv_1 dX4_readSeries_2 (fun H1 locs hL h_ws hfr => ?_)
  have h_tx := h_tx.kept hfr (fun q h1 h2 h3 => by (try dsimp only at h3); omega)
  have hF := hF.step hfr (fun q h => by (try dsimp only at h ⊢); omega)
  refine lv_aload_n hx hb dX4_readSeries_5 rfl (lv_at hl 1 rfl) ?_
  refine lv_iconst (v := 1) hx hb dX4_readSeries_6 (by decide) ?_
  obtain ⟨wv_2, ewv_2, hf⟩ := xl_some hf
  refine x_put S hK h_ws hz_ws hL 0 (by decide) rfl rfl rfl in6 tyX6 tyX6_ok nmX6 6 (by decide) (xm 2 rfl) rfl (vp_nar_int _) rfl (Nat.le_of_ble_eq_true rfl) rfl ewv_2 dX4_readSeries_7 (fun H1 locs hL h_ws hfr => ?_)
  have h_tx := h_tx.kept hfr (fun q h1 h2 h3 => by (try dsimp only at h3); omega)
  have hF := hF.step hfr (fun q h => by (try dsimp only at h ⊢); omega)
  refine lv_aload_n hx hb dX4_readSeries_10 rfl (lv_at hl 0 rfl) ?_
  refine lv_bipush (v := 120) hx hb dX4_readSeries_11 (by decide) ?_
  obtain ⟨r_3, tv_4, e_5, hf⟩ := xb2_some hf
  refine x_callVi (As := [.int 120]) (rest := []) S hK (c_X4_skip l G z t tv 120 r_3 tv_4 (by omega) e_5) gX4_readSeries_X4_skip rfl 1 (by decide +kernel) rfl ⟨Nat.le_of_ble_eq_true rfl, Nat.le_of_ble_eq_true rfl⟩ h_tx 0 (by decide) rfl rfl rfl h_tx hl.1 rfl (Nat.le_of_ble_eq_true rfl) dX4_readSeries_13 hL ⟨Nat.zero_le _, Nat.zero_le _⟩ (fun H1 locs hL hpost => ?_)
  obtain ⟨n_tx, hfr⟩ := hpost
  have h_tx := n_tx
  have h_ws := h_ws.kept hfr (fun q h1 h2 h3 => by (try dsimp only at h3); omega)
  have hF := hF.step hfr (fun q h => by (try dsimp only at h ⊢); omega)
  refine lv_if_ne (tgt := 21) hx hb dX4_readSeries_16 (by decide) (fun c_6 => ?_) (fun c_6 => ?_)
  · have hf := (if_neg c_6).symm.trans hf
    refine lv_aload_n hx hb dX4_readSeries_21 rfl (lv_at hl 1 rfl) ?_
    refine lv_aload_n hx hb dX4_readSeries_22 rfl (lv_at hl 0 rfl) ?_
    refine lv_iconst (v := 3) hx hb dX4_readSeries_23 (by decide) ?_
    obtain ⟨r_7, tv_8, e_9, hf⟩ := xb2_some hf
    refine x_callVi (As := [.int 3]) (rest := [.ref w]) S hK (c_X4_readNumber l G z t tv_4 3 r_7 tv_8 (by omega) e_9) gX4_readSeries_X4_readNumber rfl 1 (by decide +kernel) rfl ⟨Nat.le_of_ble_eq_true rfl, Nat.le_of_ble_eq_true rfl⟩ h_tx 0 (by decide) rfl rfl rfl h_tx hl.1 rfl (Nat.le_of_ble_eq_true rfl) dX4_readSeries_24 hL ⟨Nat.zero_le _, Nat.zero_le _⟩ (fun H1 locs hL hpost => ?_)
    obtain ⟨n_tx, hfr⟩ := hpost
    have h_tx := n_tx
    have h_ws := h_ws.kept hfr (fun q h1 h2 h3 => by (try dsimp only at h3); omega)
    have hF := hF.step hfr (fun q h => by (try dsimp only at h ⊢); omega)
    obtain ⟨wv_10, ewv_10, hf⟩ := xl_some hf
    refine x_put S hK h_ws hz_ws hL 0 (by decide) rfl rfl rfl in6 tyX6 tyX6_ok nmX6 5 (by decide) (xm 1 rfl) rfl (vp_nar_int _) rfl (Nat.le_of_ble_eq_true rfl) rfl ewv_10 dX4_readSeries_27 (fun H1 locs hL h_ws hfr => ?_)
    have h_tx := h_tx.kept hfr (fun q h1 h2 h3 => by (try dsimp only at h3); omega)
    have hF := hF.step hfr (fun q h => by (try dsimp only at h ⊢); omega)
    refine lv_aload_n hx hb dX4_readSeries_30 rfl (lv_at hl 1 rfl) ?_
    refine x_get S hK h_ws 0 (by decide) rfl rfl rfl in6 5 (by decide) (xm 1 rfl) (x := .int (wv_10 0 5)) rfl dX4_readSeries_31 ?_
    refine lv_iconst (v := (-1)) hx hb dX4_readSeries_34 (by decide) ?_
    refine lv_icmp_eq (tgt := 47) hx hb dX4_readSeries_35 (by decide) (fun c_11 => ?_) (fun c_11 => ?_)
    · have hf := (if_pos c_11).symm.trans hf
      refine lv_iconst (v := 0) hx hb dX4_readSeries_47 (by decide) ?_
      obtain ⟨q0, qq0⟩ := Prod.mk.inj (Option.some.inj hf)
      obtain ⟨q1, qq1⟩ := Prod.mk.inj (qq0)
      have q2 := qq1
      subst r0
      subst tv'
      subst wv'
      subst hQ
      refine x_zret (post := (fun H H1 => PX G t 2 (txE G t) tv_8 H1 ∧ PX G w 1 wsE wv_10 H1 ∧ XF (fun q => (t ≤ q ∧ q < t + 2) ∨ (w ≤ q ∧ q < w + 1)) H H1)) S hr hlocks (by decide) rfl ?_ hL dX4_readSeries_48
      exact ⟨h_tx, h_ws, hF⟩
    · have hf := (if_neg c_11).symm.trans hf
      refine lv_aload_n hx hb dX4_readSeries_38 rfl (lv_at hl 0 rfl) ?_
      refine lv_bipush (v := 43) hx hb dX4_readSeries_39 (by decide) ?_
      obtain ⟨r_12, tv_13, e_14, hf⟩ := xb2_some hf
      refine x_callVi (As := [.int 43]) (rest := []) S hK (c_X4_skip l G z t tv_8 43 r_12 tv_13 (by omega) e_14) gX4_readSeries_X4_skip rfl 1 (by decide +kernel) rfl ⟨Nat.le_of_ble_eq_true rfl, Nat.le_of_ble_eq_true rfl⟩ h_tx 0 (by decide) rfl rfl rfl h_tx hl.1 rfl (Nat.le_of_ble_eq_true rfl) dX4_readSeries_41 hL ⟨Nat.zero_le _, Nat.zero_le _⟩ (fun H1 locs hL hpost => ?_)
      obtain ⟨n_tx, hfr⟩ := hpost
      have h_tx := n_tx
      have h_ws := h_ws.kept hfr (fun q h1 h2 h3 => by (try dsimp only at h3); omega)
      have hF := hF.step hfr (fun q h => by (try dsimp only at h ⊢); omega)
      refine lv_if_ne (tgt := 49) hx hb dX4_readSeries_44 (by decide) (fun c_15 => ?_) (fun c_15 => ?_)
      · have hf := (if_neg c_15).symm.trans hf
        refine lv_aload_n hx hb dX4_readSeries_49 rfl (lv_at hl 1 rfl) ?_
        refine lv_aload_n hx hb dX4_readSeries_50 rfl (lv_at hl 0 rfl) ?_
        refine lv_iconst (v := 3) hx hb dX4_readSeries_51 (by decide) ?_
        obtain ⟨r_16, tv_17, e_18, hf⟩ := xb2_some hf
        refine x_callVi (As := [.int 3]) (rest := [.ref w]) S hK (c_X4_readNumber l G z t tv_13 3 r_16 tv_17 (by omega) e_18) gX4_readSeries_X4_readNumber rfl 1 (by decide +kernel) rfl ⟨Nat.le_of_ble_eq_true rfl, Nat.le_of_ble_eq_true rfl⟩ h_tx 0 (by decide) rfl rfl rfl h_tx hl.1 rfl (Nat.le_of_ble_eq_true rfl) dX4_readSeries_52 hL ⟨Nat.zero_le _, Nat.zero_le _⟩ (fun H1 locs hL hpost => ?_)
        obtain ⟨n_tx, hfr⟩ := hpost
        have h_tx := n_tx
        have h_ws := h_ws.kept hfr (fun q h1 h2 h3 => by (try dsimp only at h3); omega)
        have hF := hF.step hfr (fun q h => by (try dsimp only at h ⊢); omega)
        obtain ⟨wv_19, ewv_19, hf⟩ := xl_some hf
        refine x_put S hK h_ws hz_ws hL 0 (by decide) rfl rfl rfl in6 tyX6 tyX6_ok nmX6 6 (by decide) (xm 2 rfl) rfl (vp_nar_int _) rfl (Nat.le_of_ble_eq_true rfl) rfl ewv_19 dX4_readSeries_55 (fun H1 locs hL h_ws hfr => ?_)
        have h_tx := h_tx.kept hfr (fun q h1 h2 h3 => by (try dsimp only at h3); omega)
        have hF := hF.step hfr (fun q h => by (try dsimp only at h ⊢); omega)
        refine lv_aload_n hx hb dX4_readSeries_58 rfl (lv_at hl 1 rfl) ?_
        refine x_get S hK h_ws 0 (by decide) rfl rfl rfl in6 6 (by decide) (xm 2 rfl) (x := .int (wv_19 0 6)) rfl dX4_readSeries_59 ?_
        refine lv_iconst (v := (-1)) hx hb dX4_readSeries_62 (by decide) ?_
        refine lv_icmp_eq (tgt := 70) hx hb dX4_readSeries_63 (by decide) (fun c_20 => ?_) (fun c_20 => ?_)
        · have hf := (if_pos c_20).symm.trans hf
          refine lv_iconst (v := 0) hx hb dX4_readSeries_70 (by decide) ?_
          obtain ⟨q0, qq0⟩ := Prod.mk.inj (Option.some.inj hf)
          obtain ⟨q1, qq1⟩ := Prod.mk.inj (qq0)
          have q2 := qq1
          subst r0
          subst tv'
          subst wv'
          subst hQ
          refine x_zret (post := (fun H H1 => PX G t 2 (txE G t) tv_17 H1 ∧ PX G w 1 wsE wv_19 H1 ∧ XF (fun q => (t ≤ q ∧ q < t + 2) ∨ (w ≤ q ∧ q < w + 1)) H H1)) S hr hlocks (by decide) rfl ?_ hL dX4_readSeries_71
          exact ⟨h_tx, h_ws, hF⟩
        · have hf := (if_neg c_20).symm.trans hf
          refine lv_iconst (v := 1) hx hb dX4_readSeries_66 (by decide) ?_
          refine lv_goto (tgt := 71) hx hb dX4_readSeries_67 (by decide) ?_
          obtain ⟨q0, qq0⟩ := Prod.mk.inj (Option.some.inj hf)
          obtain ⟨q1, qq1⟩ := Prod.mk.inj (qq0)
          have q2 := qq1
          subst r0
          subst tv'
          subst wv'
          subst hQ
          refine x_zret (post := (fun H H1 => PX G t 2 (txE G t) tv_17 H1 ∧ PX G w 1 wsE wv_19 H1 ∧ XF (fun q => (t ≤ q ∧ q < t + 2) ∨ (w ≤ q ∧ q < w + 1)) H H1)) S hr hlocks (by decide) rfl ?_ hL dX4_readSeries_71
          exact ⟨h_tx, h_ws, hF⟩
      · have hf := (if_pos c_15).symm.trans hf
        refine lv_iconst (v := 0) hx hb dX4_readSeries_47 (by decide) ?_
        obtain ⟨q0, qq0⟩ := Prod.mk.inj (Option.some.inj hf)
        obtain ⟨q1, qq1⟩ := Prod.mk.inj (qq0)
        have q2 := qq1
        subst r0
        subst tv'
        subst wv'
        subst hQ
        refine x_zret (post := (fun H H1 => PX G t 2 (txE G t) tv_13 H1 ∧ PX G w 1 wsE wv_10 H1 ∧ XF (fun q => (t ≤ q ∧ q < t + 2) ∨ (w ≤ q ∧ q < w + 1)) H H1)) S hr hlocks (by decide) rfl ?_ hL dX4_readSeries_48
        exact ⟨h_tx, h_ws, hF⟩
  · have hf := (if_pos c_6).symm.trans hf
    refine lv_iconst (v := 1) hx hb dX4_readSeries_19 (by decide) ?_
    obtain ⟨q0, qq0⟩ := Prod.mk.inj (Option.some.inj hf)
    obtain ⟨q1, qq1⟩ := Prod.mk.inj (qq0)
    have q2 := qq1
    subst r0
    subst tv'
    subst wv'
    subst hQ
    refine x_zret (post := (fun H H1 => PX G t 2 (txE G t) tv_4 H1 ∧ PX G w 1 wsE wv_2 H1 ∧ XF (fun q => (t ≤ q ∧ q < t + 2) ∨ (w ≤ q ∧ q < w + 1)) H H1)) S hr hlocks (by decide) rfl ?_ hL dX4_readSeries_20
    exact ⟨h_tx, h_ws, hF⟩
set_option maxRecDepth 100000 in
set_option maxHeartbeats 4000000 in
theorem c_X4_readHire (l : Launch) (G : xG) (z : Nat) (t : Nat) (w : Nat) (tv : xV) (wv : xV) (r0 : Int32) (tv' : xV) (wv' : xV) (hz_tx : z ≤ t) (hz_ws : z ≤ w) (dj_tx_ws : t + 2 ≤ w ∨ w + 1 ≤ t) (hf : f_X4_readHire tv wv = some (r0, tv', wv')) : xM l yX4_readHire wsX4_readHire 4 84 G z [.ref t, .ref w] (fun H => PX G t 2 (txE G t) tv H ∧ PX G w 1 wsE wv H) (some (.int r0)) (fun H H1 => PX G t 2 (txE G t) tv' H1 ∧ PX G w 1 wsE wv' H1 ∧ XF (fun q => (t ≤ q ∧ q < t + 2) ∨ (w ≤ q ∧ q < w + 1)) H H1) := by
  refine xM.of (cc := cX4_readHire) (maxL := 2) (ret := (some .boolean)) (by decide +kernel) rfl (Nat.le_of_ble_eq_true rfl) ?_
  intro p e s m args below meth c ls Q hQ S hr hlocks hK hP hl
  obtain ⟨hx, hb, hml, hown, hts⟩ := id S
  obtain ⟨h_tx, h_ws⟩ := hP
  have hL : ∀ q ∈ ([] : List Loc), z ≤ q.base := fun q h => absurd h List.not_mem_nil
  have hF : XF (fun q => (t ≤ q ∧ q < t + 2) ∨ (w ≤ q ∧ q < w + 1)) s.heap s.heap := XF.rf
  have hl : lv_has ls 2 [(0, .ref t), (1, .ref w)] := hl
  have in6 : ∀ w ∈ u_ws RX6 TX6 7, w ∈ wsX4_readHire := fun _ h => List.mem_cons_of_mem _ (List.mem_append_left _ (List.mem_append_right _ h))
  unfold f_X4_readHire at hf
  refine lv_aload_n hx hb dX4_readHire_0 rfl (lv_at hl 1 rfl) ?_
  refine lv_aload_n hx hb dX4_readHire_1 rfl (lv_at hl 0 rfl) ?_
  refine lv_iconst (v := 1) hx hb dX4_readHire_2 (by decide) ?_
  obtain ⟨r_1, tv_2, e_3, hf⟩ := xb2_some hf
  refine x_callVi (As := [.int 1]) (rest := [.ref w]) S hK (c_X4_readNumber l G z t tv 1 r_1 tv_2 (by omega) e_3) gX4_readHire_X4_readNumber rfl 1 (by decide +kernel) rfl ⟨Nat.le_of_ble_eq_true rfl, Nat.le_of_ble_eq_true rfl⟩ h_tx 0 (by decide) rfl rfl rfl h_tx hl.1 rfl (Nat.le_of_ble_eq_true rfl) dX4_readHire_3 hL ⟨Nat.zero_le _, Nat.zero_le _⟩ (fun H1 locs hL hpost => ?_)
  obtain ⟨n_tx, hfr⟩ := hpost
  have h_tx := n_tx
  have h_ws := h_ws.kept hfr (fun q h1 h2 h3 => by (try dsimp only at h3); omega)
  have hF := hF.step hfr (fun q h => by (try dsimp only at h ⊢); omega)
  obtain ⟨wv_4, ewv_4, hf⟩ := xl_some hf
  refine x_put S hK h_ws hz_ws hL 0 (by decide) rfl rfl rfl in6 tyX6 tyX6_ok nmX6 0 (by decide) (xm 1 rfl) rfl (vp_nar_int _) rfl (Nat.le_of_ble_eq_true rfl) rfl ewv_4 dX4_readHire_6 (fun H1 locs hL h_ws hfr => ?_)
  have h_tx := h_tx.kept hfr (fun q h1 h2 h3 => by (try dsimp only at h3); omega)
  have hF := hF.step hfr (fun q h => by (try dsimp only at h ⊢); omega)
  refine lv_aload_n hx hb dX4_readHire_9 rfl (lv_at hl 1 rfl) ?_
  refine x_get S hK h_ws 0 (by decide) rfl rfl rfl in6 0 (by decide) (xm 1 rfl) (x := .int (wv_4 0 0)) rfl dX4_readHire_10 ?_
  refine lv_iconst (v := (-1)) hx hb dX4_readHire_13 (by decide) ?_
  refine lv_icmp_eq (tgt := 26) hx hb dX4_readHire_14 (by decide) (fun c_5 => ?_) (fun c_5 => ?_)
  · have hf := (if_pos c_5).symm.trans hf
    refine lv_iconst (v := 0) hx hb dX4_readHire_26 (by decide) ?_
    obtain ⟨q0, qq0⟩ := Prod.mk.inj (Option.some.inj hf)
    obtain ⟨q1, qq1⟩ := Prod.mk.inj (qq0)
    have q2 := qq1
    subst r0
    subst tv'
    subst wv'
    subst hQ
    refine x_zret (post := (fun H H1 => PX G t 2 (txE G t) tv_2 H1 ∧ PX G w 1 wsE wv_4 H1 ∧ XF (fun q => (t ≤ q ∧ q < t + 2) ∨ (w ≤ q ∧ q < w + 1)) H H1)) S hr hlocks (by decide) rfl ?_ hL dX4_readHire_27
    exact ⟨h_tx, h_ws, hF⟩
  · have hf := (if_neg c_5).symm.trans hf
    refine lv_aload_n hx hb dX4_readHire_17 rfl (lv_at hl 0 rfl) ?_
    refine lv_bipush (v := 58) hx hb dX4_readHire_18 (by decide) ?_
    obtain ⟨r_6, tv_7, e_8, hf⟩ := xb2_some hf
    refine x_callVi (As := [.int 58]) (rest := []) S hK (c_X4_skip l G z t tv_2 58 r_6 tv_7 (by omega) e_8) gX4_readHire_X4_skip rfl 1 (by decide +kernel) rfl ⟨Nat.le_of_ble_eq_true rfl, Nat.le_of_ble_eq_true rfl⟩ h_tx 0 (by decide) rfl rfl rfl h_tx hl.1 rfl (Nat.le_of_ble_eq_true rfl) dX4_readHire_20 hL ⟨Nat.zero_le _, Nat.zero_le _⟩ (fun H1 locs hL hpost => ?_)
    obtain ⟨n_tx, hfr⟩ := hpost
    have h_tx := n_tx
    have h_ws := h_ws.kept hfr (fun q h1 h2 h3 => by (try dsimp only at h3); omega)
    have hF := hF.step hfr (fun q h => by (try dsimp only at h ⊢); omega)
    refine lv_if_ne (tgt := 28) hx hb dX4_readHire_23 (by decide) (fun c_9 => ?_) (fun c_9 => ?_)
    · have hf := (if_neg c_9).symm.trans hf
      refine lv_aload_n hx hb dX4_readHire_28 rfl (lv_at hl 1 rfl) ?_
      refine lv_aload_n hx hb dX4_readHire_29 rfl (lv_at hl 0 rfl) ?_
      refine lv_iconst (v := 3) hx hb dX4_readHire_30 (by decide) ?_
      obtain ⟨r_10, tv_11, e_12, hf⟩ := xb2_some hf
      refine x_callVi (As := [.int 3]) (rest := [.ref w]) S hK (c_X4_readNumber l G z t tv_7 3 r_10 tv_11 (by omega) e_12) gX4_readHire_X4_readNumber rfl 1 (by decide +kernel) rfl ⟨Nat.le_of_ble_eq_true rfl, Nat.le_of_ble_eq_true rfl⟩ h_tx 0 (by decide) rfl rfl rfl h_tx hl.1 rfl (Nat.le_of_ble_eq_true rfl) dX4_readHire_31 hL ⟨Nat.zero_le _, Nat.zero_le _⟩ (fun H1 locs hL hpost => ?_)
      obtain ⟨n_tx, hfr⟩ := hpost
      have h_tx := n_tx
      have h_ws := h_ws.kept hfr (fun q h1 h2 h3 => by (try dsimp only at h3); omega)
      have hF := hF.step hfr (fun q h => by (try dsimp only at h ⊢); omega)
      obtain ⟨wv_13, ewv_13, hf⟩ := xl_some hf
      refine x_put S hK h_ws hz_ws hL 0 (by decide) rfl rfl rfl in6 tyX6 tyX6_ok nmX6 4 (by decide) (xm 2 rfl) rfl (vp_nar_int _) rfl (Nat.le_of_ble_eq_true rfl) rfl ewv_13 dX4_readHire_34 (fun H1 locs hL h_ws hfr => ?_)
      have h_tx := h_tx.kept hfr (fun q h1 h2 h3 => by (try dsimp only at h3); omega)
      have hF := hF.step hfr (fun q h => by (try dsimp only at h ⊢); omega)
      refine lv_aload_n hx hb dX4_readHire_37 rfl (lv_at hl 1 rfl) ?_
      refine x_get S hK h_ws 0 (by decide) rfl rfl rfl in6 4 (by decide) (xm 2 rfl) (x := .int (wv_13 0 4)) rfl dX4_readHire_38 ?_
      refine lv_iconst (v := (-1)) hx hb dX4_readHire_41 (by decide) ?_
      refine lv_icmp_eq (tgt := 54) hx hb dX4_readHire_42 (by decide) (fun c_14 => ?_) (fun c_14 => ?_)
      · have hf := (if_pos c_14).symm.trans hf
        refine lv_iconst (v := 0) hx hb dX4_readHire_54 (by decide) ?_
        obtain ⟨q0, qq0⟩ := Prod.mk.inj (Option.some.inj hf)
        obtain ⟨q1, qq1⟩ := Prod.mk.inj (qq0)
        have q2 := qq1
        subst r0
        subst tv'
        subst wv'
        subst hQ
        refine x_zret (post := (fun H H1 => PX G t 2 (txE G t) tv_11 H1 ∧ PX G w 1 wsE wv_13 H1 ∧ XF (fun q => (t ≤ q ∧ q < t + 2) ∨ (w ≤ q ∧ q < w + 1)) H H1)) S hr hlocks (by decide) rfl ?_ hL dX4_readHire_55
        exact ⟨h_tx, h_ws, hF⟩
      · have hf := (if_neg c_14).symm.trans hf
        refine lv_aload_n hx hb dX4_readHire_45 rfl (lv_at hl 0 rfl) ?_
        refine lv_bipush (v := 64) hx hb dX4_readHire_46 (by decide) ?_
        obtain ⟨r_15, tv_16, e_17, hf⟩ := xb2_some hf
        refine x_callVi (As := [.int 64]) (rest := []) S hK (c_X4_skip l G z t tv_11 64 r_15 tv_16 (by omega) e_17) gX4_readHire_X4_skip rfl 1 (by decide +kernel) rfl ⟨Nat.le_of_ble_eq_true rfl, Nat.le_of_ble_eq_true rfl⟩ h_tx 0 (by decide) rfl rfl rfl h_tx hl.1 rfl (Nat.le_of_ble_eq_true rfl) dX4_readHire_48 hL ⟨Nat.zero_le _, Nat.zero_le _⟩ (fun H1 locs hL hpost => ?_)
        obtain ⟨n_tx, hfr⟩ := hpost
        have h_tx := n_tx
        have h_ws := h_ws.kept hfr (fun q h1 h2 h3 => by (try dsimp only at h3); omega)
        have hF := hF.step hfr (fun q h => by (try dsimp only at h ⊢); omega)
        refine lv_if_ne (tgt := 56) hx hb dX4_readHire_51 (by decide) (fun c_18 => ?_) (fun c_18 => ?_)
        · have hf := (if_neg c_18).symm.trans hf
          refine lv_aload_n hx hb dX4_readHire_56 rfl (lv_at hl 1 rfl) ?_
          refine lv_aload_n hx hb dX4_readHire_57 rfl (lv_at hl 0 rfl) ?_
          refine lv_iconst (v := 3) hx hb dX4_readHire_58 (by decide) ?_
          obtain ⟨r_19, tv_20, e_21, hf⟩ := xb2_some hf
          refine x_callVi (As := [.int 3]) (rest := [.ref w]) S hK (c_X4_readNumber l G z t tv_16 3 r_19 tv_20 (by omega) e_21) gX4_readHire_X4_readNumber rfl 1 (by decide +kernel) rfl ⟨Nat.le_of_ble_eq_true rfl, Nat.le_of_ble_eq_true rfl⟩ h_tx 0 (by decide) rfl rfl rfl h_tx hl.1 rfl (Nat.le_of_ble_eq_true rfl) dX4_readHire_59 hL ⟨Nat.zero_le _, Nat.zero_le _⟩ (fun H1 locs hL hpost => ?_)
          obtain ⟨n_tx, hfr⟩ := hpost
          have h_tx := n_tx
          have h_ws := h_ws.kept hfr (fun q h1 h2 h3 => by (try dsimp only at h3); omega)
          have hF := hF.step hfr (fun q h => by (try dsimp only at h ⊢); omega)
          obtain ⟨wv_22, ewv_22, hf⟩ := xl_some hf
          refine x_put S hK h_ws hz_ws hL 0 (by decide) rfl rfl rfl in6 tyX6 tyX6_ok nmX6 2 (by decide) (xm 3 rfl) rfl (vp_nar_int _) rfl (Nat.le_of_ble_eq_true rfl) rfl ewv_22 dX4_readHire_62 (fun H1 locs hL h_ws hfr => ?_)
          have h_tx := h_tx.kept hfr (fun q h1 h2 h3 => by (try dsimp only at h3); omega)
          have hF := hF.step hfr (fun q h => by (try dsimp only at h ⊢); omega)
          refine lv_aload_n hx hb dX4_readHire_65 rfl (lv_at hl 1 rfl) ?_
          refine x_get S hK h_ws 0 (by decide) rfl rfl rfl in6 2 (by decide) (xm 3 rfl) (x := .int (wv_22 0 2)) rfl dX4_readHire_66 ?_
          refine lv_iconst (v := (-1)) hx hb dX4_readHire_69 (by decide) ?_
          refine lv_icmp_eq (tgt := 82) hx hb dX4_readHire_70 (by decide) (fun c_23 => ?_) (fun c_23 => ?_)
          · have hf := (if_pos c_23).symm.trans hf
            refine lv_iconst (v := 0) hx hb dX4_readHire_82 (by decide) ?_
            obtain ⟨q0, qq0⟩ := Prod.mk.inj (Option.some.inj hf)
            obtain ⟨q1, qq1⟩ := Prod.mk.inj (qq0)
            have q2 := qq1
            subst r0
            subst tv'
            subst wv'
            subst hQ
            refine x_zret (post := (fun H H1 => PX G t 2 (txE G t) tv_20 H1 ∧ PX G w 1 wsE wv_22 H1 ∧ XF (fun q => (t ≤ q ∧ q < t + 2) ∨ (w ≤ q ∧ q < w + 1)) H H1)) S hr hlocks (by decide) rfl ?_ hL dX4_readHire_83
            exact ⟨h_tx, h_ws, hF⟩
          · have hf := (if_neg c_23).symm.trans hf
            refine lv_aload_n hx hb dX4_readHire_73 rfl (lv_at hl 0 rfl) ?_
            refine lv_bipush (v := 45) hx hb dX4_readHire_74 (by decide) ?_
            obtain ⟨r_24, tv_25, e_26, hf⟩ := xb2_some hf
            refine x_callVi (As := [.int 45]) (rest := []) S hK (c_X4_skip l G z t tv_20 45 r_24 tv_25 (by omega) e_26) gX4_readHire_X4_skip rfl 1 (by decide +kernel) rfl ⟨Nat.le_of_ble_eq_true rfl, Nat.le_of_ble_eq_true rfl⟩ h_tx 0 (by decide) rfl rfl rfl h_tx hl.1 rfl (Nat.le_of_ble_eq_true rfl) dX4_readHire_76 hL ⟨Nat.zero_le _, Nat.zero_le _⟩ (fun H1 locs hL hpost => ?_)
            obtain ⟨n_tx, hfr⟩ := hpost
            have h_tx := n_tx
            have h_ws := h_ws.kept hfr (fun q h1 h2 h3 => by (try dsimp only at h3); omega)
            have hF := hF.step hfr (fun q h => by (try dsimp only at h ⊢); omega)
            refine lv_if_ne (tgt := 84) hx hb dX4_readHire_79 (by decide) (fun c_27 => ?_) (fun c_27 => ?_)
            · have hf := (if_neg c_27).symm.trans hf
              refine lv_aload_n hx hb dX4_readHire_84 rfl (lv_at hl 1 rfl) ?_
              refine lv_aload_n hx hb dX4_readHire_85 rfl (lv_at hl 0 rfl) ?_
              refine lv_iconst (v := 3) hx hb dX4_readHire_86 (by decide) ?_
              obtain ⟨r_28, tv_29, e_30, hf⟩ := xb2_some hf
              refine x_callVi (As := [.int 3]) (rest := [.ref w]) S hK (c_X4_readNumber l G z t tv_25 3 r_28 tv_29 (by omega) e_30) gX4_readHire_X4_readNumber rfl 1 (by decide +kernel) rfl ⟨Nat.le_of_ble_eq_true rfl, Nat.le_of_ble_eq_true rfl⟩ h_tx 0 (by decide) rfl rfl rfl h_tx hl.1 rfl (Nat.le_of_ble_eq_true rfl) dX4_readHire_87 hL ⟨Nat.zero_le _, Nat.zero_le _⟩ (fun H1 locs hL hpost => ?_)
              obtain ⟨n_tx, hfr⟩ := hpost
              have h_tx := n_tx
              have h_ws := h_ws.kept hfr (fun q h1 h2 h3 => by (try dsimp only at h3); omega)
              have hF := hF.step hfr (fun q h => by (try dsimp only at h ⊢); omega)
              obtain ⟨wv_31, ewv_31, hf⟩ := xl_some hf
              refine x_put S hK h_ws hz_ws hL 0 (by decide) rfl rfl rfl in6 tyX6 tyX6_ok nmX6 3 (by decide) (xm 4 rfl) rfl (vp_nar_int _) rfl (Nat.le_of_ble_eq_true rfl) rfl ewv_31 dX4_readHire_90 (fun H1 locs hL h_ws hfr => ?_)
              have h_tx := h_tx.kept hfr (fun q h1 h2 h3 => by (try dsimp only at h3); omega)
              have hF := hF.step hfr (fun q h => by (try dsimp only at h ⊢); omega)
              refine lv_aload_n hx hb dX4_readHire_93 rfl (lv_at hl 1 rfl) ?_
              refine x_get S hK h_ws 0 (by decide) rfl rfl rfl in6 3 (by decide) (xm 4 rfl) (x := .int (wv_31 0 3)) rfl dX4_readHire_94 ?_
              refine lv_iconst (v := (-1)) hx hb dX4_readHire_97 (by decide) ?_
              refine lv_icmp_eq (tgt := 110) hx hb dX4_readHire_98 (by decide) (fun c_32 => ?_) (fun c_32 => ?_)
              · have hf := (if_pos c_32).symm.trans hf
                refine lv_iconst (v := 0) hx hb dX4_readHire_110 (by decide) ?_
                obtain ⟨q0, qq0⟩ := Prod.mk.inj (Option.some.inj hf)
                obtain ⟨q1, qq1⟩ := Prod.mk.inj (qq0)
                have q2 := qq1
                subst r0
                subst tv'
                subst wv'
                subst hQ
                refine x_zret (post := (fun H H1 => PX G t 2 (txE G t) tv_29 H1 ∧ PX G w 1 wsE wv_31 H1 ∧ XF (fun q => (t ≤ q ∧ q < t + 2) ∨ (w ≤ q ∧ q < w + 1)) H H1)) S hr hlocks (by decide) rfl ?_ hL dX4_readHire_111
                exact ⟨h_tx, h_ws, hF⟩
              · have hf := (if_neg c_32).symm.trans hf
                refine lv_aload_n hx hb dX4_readHire_101 rfl (lv_at hl 0 rfl) ?_
                refine lv_bipush (v := 47) hx hb dX4_readHire_102 (by decide) ?_
                obtain ⟨r_33, tv_34, e_35, hf⟩ := xb2_some hf
                refine x_callVi (As := [.int 47]) (rest := []) S hK (c_X4_skip l G z t tv_29 47 r_33 tv_34 (by omega) e_35) gX4_readHire_X4_skip rfl 1 (by decide +kernel) rfl ⟨Nat.le_of_ble_eq_true rfl, Nat.le_of_ble_eq_true rfl⟩ h_tx 0 (by decide) rfl rfl rfl h_tx hl.1 rfl (Nat.le_of_ble_eq_true rfl) dX4_readHire_104 hL ⟨Nat.zero_le _, Nat.zero_le _⟩ (fun H1 locs hL hpost => ?_)
                obtain ⟨n_tx, hfr⟩ := hpost
                have h_tx := n_tx
                have h_ws := h_ws.kept hfr (fun q h1 h2 h3 => by (try dsimp only at h3); omega)
                have hF := hF.step hfr (fun q h => by (try dsimp only at h ⊢); omega)
                refine lv_if_ne (tgt := 112) hx hb dX4_readHire_107 (by decide) (fun c_36 => ?_) (fun c_36 => ?_)
                · have hf := (if_neg c_36).symm.trans hf
                  refine lv_aload_n hx hb dX4_readHire_112 rfl (lv_at hl 1 rfl) ?_
                  refine lv_aload_n hx hb dX4_readHire_113 rfl (lv_at hl 0 rfl) ?_
                  obtain ⟨r_37, tv_38, e_39, hf⟩ := xb2_some hf
                  refine x_callVi (As := []) (rest := [.ref w]) S hK (c_X4_readRooms l G z t tv_34 r_37 tv_38 (by omega) e_39) gX4_readHire_X4_readRooms rfl 0 (by decide +kernel) rfl ⟨Nat.le_of_ble_eq_true rfl, Nat.le_of_ble_eq_true rfl⟩ h_tx 0 (by decide) rfl rfl rfl h_tx hl.1 rfl (Nat.le_of_ble_eq_true rfl) dX4_readHire_114 hL ⟨Nat.zero_le _, Nat.zero_le _⟩ (fun H1 locs hL hpost => ?_)
                  obtain ⟨n_tx, hfr⟩ := hpost
                  have h_tx := n_tx
                  have h_ws := h_ws.kept hfr (fun q h1 h2 h3 => by (try dsimp only at h3); omega)
                  have hF := hF.step hfr (fun q h => by (try dsimp only at h ⊢); omega)
                  obtain ⟨wv_40, ewv_40, hf⟩ := xl_some hf
                  refine x_put S hK h_ws hz_ws hL 0 (by decide) rfl rfl rfl in6 tyX6 tyX6_ok nmX6 1 (by decide) (xm 5 rfl) rfl (vp_nar_int _) rfl (Nat.le_of_ble_eq_true rfl) rfl ewv_40 dX4_readHire_117 (fun H1 locs hL h_ws hfr => ?_)
                  have h_tx := h_tx.kept hfr (fun q h1 h2 h3 => by (try dsimp only at h3); omega)
                  have hF := hF.step hfr (fun q h => by (try dsimp only at h ⊢); omega)
                  refine lv_aload_n hx hb dX4_readHire_120 rfl (lv_at hl 1 rfl) ?_
                  refine x_get S hK h_ws 0 (by decide) rfl rfl rfl in6 1 (by decide) (xm 5 rfl) (x := .int (wv_40 0 1)) rfl dX4_readHire_121 ?_
                  refine lv_if_eq (tgt := 148) hx hb dX4_readHire_124 (by decide) (fun c_41 => ?_) (fun c_41 => ?_)
                  · have hf := (if_pos c_41).symm.trans hf
                    refine lv_iconst (v := 0) hx hb dX4_readHire_148 (by decide) ?_
                    obtain ⟨q0, qq0⟩ := Prod.mk.inj (Option.some.inj hf)
                    obtain ⟨q1, qq1⟩ := Prod.mk.inj (qq0)
                    have q2 := qq1
                    subst r0
                    subst tv'
                    subst wv'
                    subst hQ
                    refine x_zret (post := (fun H H1 => PX G t 2 (txE G t) tv_38 H1 ∧ PX G w 1 wsE wv_40 H1 ∧ XF (fun q => (t ≤ q ∧ q < t + 2) ∨ (w ≤ q ∧ q < w + 1)) H H1)) S hr hlocks (by decide) rfl ?_ hL dX4_readHire_149
                    exact ⟨h_tx, h_ws, hF⟩
                  · have hf := (if_neg c_41).symm.trans hf
                    refine lv_aload_n hx hb dX4_readHire_127 rfl (lv_at hl 0 rfl) ?_
                    refine lv_aload_n hx hb dX4_readHire_128 rfl (lv_at hl 1 rfl) ?_
                    obtain ⟨r_42, tv_43, wv_44, e_45, hf⟩ := xb3_some hf
                    refine x_callVi (As := [.ref w]) (rest := []) S hK (c_X4_readSeries l G z t w tv_38 wv_40 r_42 tv_43 wv_44 (by omega) (by omega) (by omega) e_45) gX4_readHire_X4_readSeries rfl 1 (by decide +kernel) rfl ⟨Nat.le_of_ble_eq_true rfl, Nat.le_of_ble_eq_true rfl⟩ h_tx 0 (by decide) rfl rfl rfl ⟨h_tx, h_ws⟩ hl.1 rfl (Nat.le_of_ble_eq_true rfl) dX4_readHire_129 hL ⟨Nat.zero_le _, Nat.zero_le _⟩ (fun H1 locs hL hpost => ?_)
                    obtain ⟨n_tx, n_ws, hfr⟩ := hpost
                    have h_tx := n_tx
                    have h_ws := n_ws
                    have hF := hF.step hfr (fun q h => by (try dsimp only at h ⊢); omega)
                    refine lv_if_eq (tgt := 148) hx hb dX4_readHire_132 (by decide) (fun c_46 => ?_) (fun c_46 => ?_)
                    · have hf := (if_pos c_46).symm.trans hf
                      refine lv_iconst (v := 0) hx hb dX4_readHire_148 (by decide) ?_
                      obtain ⟨q0, qq0⟩ := Prod.mk.inj (Option.some.inj hf)
                      obtain ⟨q1, qq1⟩ := Prod.mk.inj (qq0)
                      have q2 := qq1
                      subst r0
                      subst tv'
                      subst wv'
                      subst hQ
                      refine x_zret (post := (fun H H1 => PX G t 2 (txE G t) tv_43 H1 ∧ PX G w 1 wsE wv_44 H1 ∧ XF (fun q => (t ≤ q ∧ q < t + 2) ∨ (w ≤ q ∧ q < w + 1)) H H1)) S hr hlocks (by decide) rfl ?_ hL dX4_readHire_149
                      exact ⟨h_tx, h_ws, hF⟩
                    · have hf := (if_neg c_46).symm.trans hf
                      refine lv_aload_n hx hb dX4_readHire_135 rfl (lv_at hl 0 rfl) ?_
                      refine lv_bipush (v := 59) hx hb dX4_readHire_136 (by decide) ?_
                      obtain ⟨r_47, tv_48, e_49, hf⟩ := xb2_some hf
                      refine x_callVi (As := [.int 59]) (rest := []) S hK (c_X4_skip l G z t tv_43 59 r_47 tv_48 (by omega) e_49) gX4_readHire_X4_skip rfl 1 (by decide +kernel) rfl ⟨Nat.le_of_ble_eq_true rfl, Nat.le_of_ble_eq_true rfl⟩ h_tx 0 (by decide) rfl rfl rfl h_tx hl.1 rfl (Nat.le_of_ble_eq_true rfl) dX4_readHire_138 hL ⟨Nat.zero_le _, Nat.zero_le _⟩ (fun H1 locs hL hpost => ?_)
                      obtain ⟨n_tx, hfr⟩ := hpost
                      have h_tx := n_tx
                      have h_ws := h_ws.kept hfr (fun q h1 h2 h3 => by (try dsimp only at h3); omega)
                      have hF := hF.step hfr (fun q h => by (try dsimp only at h ⊢); omega)
                      refine lv_if_eq (tgt := 148) hx hb dX4_readHire_141 (by decide) (fun c_50 => ?_) (fun c_50 => ?_)
                      · have hf := (if_pos c_50).symm.trans hf
                        refine lv_iconst (v := 0) hx hb dX4_readHire_148 (by decide) ?_
                        obtain ⟨q0, qq0⟩ := Prod.mk.inj (Option.some.inj hf)
                        obtain ⟨q1, qq1⟩ := Prod.mk.inj (qq0)
                        have q2 := qq1
                        subst r0
                        subst tv'
                        subst wv'
                        subst hQ
                        refine x_zret (post := (fun H H1 => PX G t 2 (txE G t) tv_48 H1 ∧ PX G w 1 wsE wv_44 H1 ∧ XF (fun q => (t ≤ q ∧ q < t + 2) ∨ (w ≤ q ∧ q < w + 1)) H H1)) S hr hlocks (by decide) rfl ?_ hL dX4_readHire_149
                        exact ⟨h_tx, h_ws, hF⟩
                      · have hf := (if_neg c_50).symm.trans hf
                        refine lv_iconst (v := 1) hx hb dX4_readHire_144 (by decide) ?_
                        refine lv_goto (tgt := 149) hx hb dX4_readHire_145 (by decide) ?_
                        obtain ⟨q0, qq0⟩ := Prod.mk.inj (Option.some.inj hf)
                        obtain ⟨q1, qq1⟩ := Prod.mk.inj (qq0)
                        have q2 := qq1
                        subst r0
                        subst tv'
                        subst wv'
                        subst hQ
                        refine x_zret (post := (fun H H1 => PX G t 2 (txE G t) tv_48 H1 ∧ PX G w 1 wsE wv_44 H1 ∧ XF (fun q => (t ≤ q ∧ q < t + 2) ∨ (w ≤ q ∧ q < w + 1)) H H1)) S hr hlocks (by decide) rfl ?_ hL dX4_readHire_149
                        exact ⟨h_tx, h_ws, hF⟩
                · have hf := (if_pos c_36).symm.trans hf
                  refine lv_iconst (v := 0) hx hb dX4_readHire_110 (by decide) ?_
                  obtain ⟨q0, qq0⟩ := Prod.mk.inj (Option.some.inj hf)
                  obtain ⟨q1, qq1⟩ := Prod.mk.inj (qq0)
                  have q2 := qq1
                  subst r0
                  subst tv'
                  subst wv'
                  subst hQ
                  refine x_zret (post := (fun H H1 => PX G t 2 (txE G t) tv_34 H1 ∧ PX G w 1 wsE wv_31 H1 ∧ XF (fun q => (t ≤ q ∧ q < t + 2) ∨ (w ≤ q ∧ q < w + 1)) H H1)) S hr hlocks (by decide) rfl ?_ hL dX4_readHire_111
                  exact ⟨h_tx, h_ws, hF⟩
            · have hf := (if_pos c_27).symm.trans hf
              refine lv_iconst (v := 0) hx hb dX4_readHire_82 (by decide) ?_
              obtain ⟨q0, qq0⟩ := Prod.mk.inj (Option.some.inj hf)
              obtain ⟨q1, qq1⟩ := Prod.mk.inj (qq0)
              have q2 := qq1
              subst r0
              subst tv'
              subst wv'
              subst hQ
              refine x_zret (post := (fun H H1 => PX G t 2 (txE G t) tv_25 H1 ∧ PX G w 1 wsE wv_22 H1 ∧ XF (fun q => (t ≤ q ∧ q < t + 2) ∨ (w ≤ q ∧ q < w + 1)) H H1)) S hr hlocks (by decide) rfl ?_ hL dX4_readHire_83
              exact ⟨h_tx, h_ws, hF⟩
        · have hf := (if_pos c_18).symm.trans hf
          refine lv_iconst (v := 0) hx hb dX4_readHire_54 (by decide) ?_
          obtain ⟨q0, qq0⟩ := Prod.mk.inj (Option.some.inj hf)
          obtain ⟨q1, qq1⟩ := Prod.mk.inj (qq0)
          have q2 := qq1
          subst r0
          subst tv'
          subst wv'
          subst hQ
          refine x_zret (post := (fun H H1 => PX G t 2 (txE G t) tv_16 H1 ∧ PX G w 1 wsE wv_13 H1 ∧ XF (fun q => (t ≤ q ∧ q < t + 2) ∨ (w ≤ q ∧ q < w + 1)) H H1)) S hr hlocks (by decide) rfl ?_ hL dX4_readHire_55
          exact ⟨h_tx, h_ws, hF⟩
    · have hf := (if_pos c_9).symm.trans hf
      refine lv_iconst (v := 0) hx hb dX4_readHire_26 (by decide) ?_
      obtain ⟨q0, qq0⟩ := Prod.mk.inj (Option.some.inj hf)
      obtain ⟨q1, qq1⟩ := Prod.mk.inj (qq0)
      have q2 := qq1
      subst r0
      subst tv'
      subst wv'
      subst hQ
      refine x_zret (post := (fun H H1 => PX G t 2 (txE G t) tv_7 H1 ∧ PX G w 1 wsE wv_4 H1 ∧ XF (fun q => (t ≤ q ∧ q < t + 2) ∨ (w ≤ q ∧ q < w + 1)) H H1)) S hr hlocks (by decide) rfl ?_ hL dX4_readHire_27
      exact ⟨h_tx, h_ws, hF⟩
set_option maxRecDepth 100000 in
set_option maxHeartbeats 4000000 in
theorem c_X6_isInRange (l : Launch) (G : xG) (z : Nat) (w : Nat) (wv : xV) (p1 : Int32) (r0 : Int32)  (hf : f_X6_isInRange wv p1 = some r0) : xM l yX6_isInRange wsX6_isInRange 0 0 G z [.ref w, .int p1] (fun H => PX G w 1 wsE wv H) (some (.int r0)) (fun H H1 => H1 = H) := by
  refine xM.of (cc := cX6_isInRange) (maxL := 2) (ret := (some .boolean)) (by decide +kernel) rfl (Nat.le_of_ble_eq_true rfl) ?_
  intro p e s m args below meth c ls Q hQ S hr hlocks hK hP hl
  obtain ⟨hx, hb, hml, hown, hts⟩ := id S
  have h_ws := hP
  have hL : ∀ q ∈ ([] : List Loc), z ≤ q.base := fun q h => absurd h List.not_mem_nil
  have hl : lv_has ls 2 [(0, .ref w), (1, .int p1)] := hl
  have in6 : ∀ w ∈ u_ws RX6 TX6 7, w ∈ wsX6_isInRange := fun _ h => List.mem_cons_of_mem _ (List.mem_append_right _ h)
  unfold f_X6_isInRange at hf
  refine lv_aload_n hx hb dX6_isInRange_0 rfl (lv_at hl 0 rfl) ?_
  refine x_get S hK h_ws 0 (by decide) rfl rfl rfl in6 4 (by decide) (xm 1 rfl) (x := .int (wv 0 4)) rfl dX6_isInRange_1 ?_
  refine lv_iload_n hx hb dX6_isInRange_4 rfl (lv_at hl 1 rfl) ?_
  refine lv_icmp_lt (tgt := 83) hx hb dX6_isInRange_5 (by decide) (fun c_1 => ?_) (fun c_1 => ?_)
  · have hf := (if_pos c_1).symm.trans hf
    refine lv_iconst (v := 0) hx hb dX6_isInRange_83 (by decide) ?_
    have q0 := Option.some.inj hf
    subst r0
    subst hQ
    refine x_zret (post := (fun H H1 => H1 = H)) S hr hlocks (by decide) rfl ?_ hL dX6_isInRange_84
    exact rfl
  · have hf := (if_neg c_1).symm.trans hf
    refine lv_aload_n hx hb dX6_isInRange_8 rfl (lv_at hl 0 rfl) ?_
    refine x_get S hK h_ws 0 (by decide) rfl rfl rfl in6 4 (by decide) (xm 1 rfl) (x := .int (wv 0 4)) rfl dX6_isInRange_9 ?_
    refine lv_sipush (v := 364) hx hb dX6_isInRange_12 (by decide) ?_
    refine lv_icmp_gt (tgt := 83) hx hb dX6_isInRange_15 (by decide) (fun c_2 => ?_) (fun c_2 => ?_)
    · have hf := (if_pos c_2).symm.trans hf
      refine lv_iconst (v := 0) hx hb dX6_isInRange_83 (by decide) ?_
      have q0 := Option.some.inj hf
      subst r0
      subst hQ
      refine x_zret (post := (fun H H1 => H1 = H)) S hr hlocks (by decide) rfl ?_ hL dX6_isInRange_84
      exact rfl
    · have hf := (if_neg c_2).symm.trans hf
      refine lv_aload_n hx hb dX6_isInRange_18 rfl (lv_at hl 0 rfl) ?_
      refine x_get S hK h_ws 0 (by decide) rfl rfl rfl in6 2 (by decide) (xm 2 rfl) (x := .int (wv 0 2)) rfl dX6_isInRange_19 ?_
      refine lv_if_lt (tgt := 83) hx hb dX6_isInRange_22 (by decide) (fun c_3 => ?_) (fun c_3 => ?_)
      · have hf := (if_pos c_3).symm.trans hf
        refine lv_iconst (v := 0) hx hb dX6_isInRange_83 (by decide) ?_
        have q0 := Option.some.inj hf
        subst r0
        subst hQ
        refine x_zret (post := (fun H H1 => H1 = H)) S hr hlocks (by decide) rfl ?_ hL dX6_isInRange_84
        exact rfl
      · have hf := (if_neg c_3).symm.trans hf
        refine lv_aload_n hx hb dX6_isInRange_25 rfl (lv_at hl 0 rfl) ?_
        refine x_get S hK h_ws 0 (by decide) rfl rfl rfl in6 2 (by decide) (xm 2 rfl) (x := .int (wv 0 2)) rfl dX6_isInRange_26 ?_
        refine lv_aload_n hx hb dX6_isInRange_29 rfl (lv_at hl 0 rfl) ?_
        refine x_get S hK h_ws 0 (by decide) rfl rfl rfl in6 3 (by decide) (xm 3 rfl) (x := .int (wv 0 3)) rfl dX6_isInRange_30 ?_
        refine lv_icmp_ge (tgt := 83) hx hb dX6_isInRange_33 (by decide) (fun c_4 => ?_) (fun c_4 => ?_)
        · have hf := (if_pos c_4).symm.trans hf
          refine lv_iconst (v := 0) hx hb dX6_isInRange_83 (by decide) ?_
          have q0 := Option.some.inj hf
          subst r0
          subst hQ
          refine x_zret (post := (fun H H1 => H1 = H)) S hr hlocks (by decide) rfl ?_ hL dX6_isInRange_84
          exact rfl
        · have hf := (if_neg c_4).symm.trans hf
          refine lv_aload_n hx hb dX6_isInRange_36 rfl (lv_at hl 0 rfl) ?_
          refine x_get S hK h_ws 0 (by decide) rfl rfl rfl in6 3 (by decide) (xm 3 rfl) (x := .int (wv 0 3)) rfl dX6_isInRange_37 ?_
          refine lv_bipush (v := 24) hx hb dX6_isInRange_40 (by decide) ?_
          refine lv_icmp_gt (tgt := 83) hx hb dX6_isInRange_42 (by decide) (fun c_5 => ?_) (fun c_5 => ?_)
          · have hf := (if_pos c_5).symm.trans hf
            refine lv_iconst (v := 0) hx hb dX6_isInRange_83 (by decide) ?_
            have q0 := Option.some.inj hf
            subst r0
            subst hQ
            refine x_zret (post := (fun H H1 => H1 = H)) S hr hlocks (by decide) rfl ?_ hL dX6_isInRange_84
            exact rfl
          · have hf := (if_neg c_5).symm.trans hf
            refine lv_aload_n hx hb dX6_isInRange_45 rfl (lv_at hl 0 rfl) ?_
            refine x_get S hK h_ws 0 (by decide) rfl rfl rfl in6 5 (by decide) (xm 4 rfl) (x := .int (wv 0 5)) rfl dX6_isInRange_46 ?_
            refine lv_iconst (v := 1) hx hb dX6_isInRange_49 (by decide) ?_
            refine lv_icmp_lt (tgt := 83) hx hb dX6_isInRange_50 (by decide) (fun c_6 => ?_) (fun c_6 => ?_)
            · have hf := (if_pos c_6).symm.trans hf
              refine lv_iconst (v := 0) hx hb dX6_isInRange_83 (by decide) ?_
              have q0 := Option.some.inj hf
              subst r0
              subst hQ
              refine x_zret (post := (fun H H1 => H1 = H)) S hr hlocks (by decide) rfl ?_ hL dX6_isInRange_84
              exact rfl
            · have hf := (if_neg c_6).symm.trans hf
              refine lv_aload_n hx hb dX6_isInRange_53 rfl (lv_at hl 0 rfl) ?_
              refine x_get S hK h_ws 0 (by decide) rfl rfl rfl in6 5 (by decide) (xm 4 rfl) (x := .int (wv 0 5)) rfl dX6_isInRange_54 ?_
              refine lv_bipush (v := 20) hx hb dX6_isInRange_57 (by decide) ?_
              refine lv_icmp_gt (tgt := 83) hx hb dX6_isInRange_59 (by decide) (fun c_7 => ?_) (fun c_7 => ?_)
              · have hf := (if_pos c_7).symm.trans hf
                refine lv_iconst (v := 0) hx hb dX6_isInRange_83 (by decide) ?_
                have q0 := Option.some.inj hf
                subst r0
                subst hQ
                refine x_zret (post := (fun H H1 => H1 = H)) S hr hlocks (by decide) rfl ?_ hL dX6_isInRange_84
                exact rfl
              · have hf := (if_neg c_7).symm.trans hf
                refine lv_aload_n hx hb dX6_isInRange_62 rfl (lv_at hl 0 rfl) ?_
                refine x_get S hK h_ws 0 (by decide) rfl rfl rfl in6 6 (by decide) (xm 5 rfl) (x := .int (wv 0 6)) rfl dX6_isInRange_63 ?_
                refine lv_iconst (v := 1) hx hb dX6_isInRange_66 (by decide) ?_
                refine lv_icmp_lt (tgt := 83) hx hb dX6_isInRange_67 (by decide) (fun c_8 => ?_) (fun c_8 => ?_)
                · have hf := (if_pos c_8).symm.trans hf
                  refine lv_iconst (v := 0) hx hb dX6_isInRange_83 (by decide) ?_
                  have q0 := Option.some.inj hf
                  subst r0
                  subst hQ
                  refine x_zret (post := (fun H H1 => H1 = H)) S hr hlocks (by decide) rfl ?_ hL dX6_isInRange_84
                  exact rfl
                · have hf := (if_neg c_8).symm.trans hf
                  refine lv_aload_n hx hb dX6_isInRange_70 rfl (lv_at hl 0 rfl) ?_
                  refine x_get S hK h_ws 0 (by decide) rfl rfl rfl in6 6 (by decide) (xm 5 rfl) (x := .int (wv 0 6)) rfl dX6_isInRange_71 ?_
                  refine lv_bipush (v := 60) hx hb dX6_isInRange_74 (by decide) ?_
                  refine lv_icmp_gt (tgt := 83) hx hb dX6_isInRange_76 (by decide) (fun c_9 => ?_) (fun c_9 => ?_)
                  · have hf := (if_pos c_9).symm.trans hf
                    refine lv_iconst (v := 0) hx hb dX6_isInRange_83 (by decide) ?_
                    have q0 := Option.some.inj hf
                    subst r0
                    subst hQ
                    refine x_zret (post := (fun H H1 => H1 = H)) S hr hlocks (by decide) rfl ?_ hL dX6_isInRange_84
                    exact rfl
                  · have hf := (if_neg c_9).symm.trans hf
                    refine lv_iconst (v := 1) hx hb dX6_isInRange_79 (by decide) ?_
                    refine lv_goto (tgt := 84) hx hb dX6_isInRange_80 (by decide) ?_
                    have q0 := Option.some.inj hf
                    subst r0
                    subst hQ
                    refine x_zret (post := (fun H H1 => H1 = H)) S hr hlocks (by decide) rfl ?_ hL dX6_isInRange_84
                    exact rfl
set_option maxRecDepth 100000 in
set_option maxHeartbeats 4000000 in
theorem c_X6_lastDay (l : Launch) (G : xG) (z : Nat) (w : Nat) (wv : xV) (r0 : Int32)  (hf : f_X6_lastDay wv = some r0) : xM l yX6_lastDay wsX6_lastDay 0 0 G z [.ref w] (fun H => PX G w 1 wsE wv H) (some (.int r0)) (fun H H1 => H1 = H) := by
  refine xM.of (cc := cX6_lastDay) (maxL := 1) (ret := (some .int)) (by decide +kernel) rfl (Nat.le_of_ble_eq_true rfl) ?_
  intro p e s m args below meth c ls Q hQ S hr hlocks hK hP hl
  obtain ⟨hx, hb, hml, hown, hts⟩ := id S
  have h_ws := hP
  have hL : ∀ q ∈ ([] : List Loc), z ≤ q.base := fun q h => absurd h List.not_mem_nil
  have hl : lv_has ls 1 [(0, .ref w)] := hl
  have in6 : ∀ w ∈ u_ws RX6 TX6 7, w ∈ wsX6_lastDay := fun _ h => List.mem_cons_of_mem _ (List.mem_append_right _ h)
  unfold f_X6_lastDay at hf
  refine lv_aload_n hx hb dX6_lastDay_0 rfl (lv_at hl 0 rfl) ?_
  refine x_get S hK h_ws 0 (by decide) rfl rfl rfl in6 4 (by decide) (xm 1 rfl) (x := .int (wv 0 4)) rfl dX6_lastDay_1 ?_
  refine lv_aload_n hx hb dX6_lastDay_4 rfl (lv_at hl 0 rfl) ?_
  refine x_get S hK h_ws 0 (by decide) rfl rfl rfl in6 5 (by decide) (xm 2 rfl) (x := .int (wv 0 5)) rfl dX6_lastDay_5 ?_
  refine lv_iconst (v := 1) hx hb dX6_lastDay_8 (by decide) ?_
  refine lv_isub hx hb dX6_lastDay_9 ?_
  refine lv_aload_n hx hb dX6_lastDay_10 rfl (lv_at hl 0 rfl) ?_
  refine x_get S hK h_ws 0 (by decide) rfl rfl rfl in6 6 (by decide) (xm 3 rfl) (x := .int (wv 0 6)) rfl dX6_lastDay_11 ?_
  refine lv_imul hx hb dX6_lastDay_14 ?_
  refine lv_iadd hx hb dX6_lastDay_15 ?_
  have q0 := Option.some.inj hf
  subst r0
  subst hQ
  refine x_iret (post := (fun H H1 => H1 = H)) S hr hlocks rfl ?_ hL dX6_lastDay_16
  exact rfl
set_option maxRecDepth 100000 in
set_option maxHeartbeats 4000000 in
theorem c_X5_reasonAgainst (l : Launch) (G : xG) (z : Nat) (y : Nat) (rv : xV) (v : xV) (fv : xV) (r0 : Int32) (rv' : xV) (hz_tr : z ≤ y) (hf : f_X5_reasonAgainst rv v fv = some (r0, rv')) : xM l yX5_reasonAgainst wsX5_reasonAgainst 4 95 G z [.ref y] (fun H => PX G y 1 (trE y) rv H ∧ PX G (y + 1) 37 (bkE G (y + 1)) v H ∧ PX G (y + 38) 1 wsE fv H) (some (.int r0)) (fun H H1 => PX G y 1 (trE y) rv' H1 ∧ XF (fun q => (y ≤ q ∧ q < y + 1)) H H1) := by
  refine xM.of (cc := cX5_reasonAgainst) (maxL := 1) (ret := (some .int)) (by decide +kernel) rfl (Nat.le_of_ble_eq_true rfl) ?_
  intro p e s m args below meth c ls Q hQ S hr hlocks hK hP hl
  obtain ⟨hx, hb, hml, hown, hts⟩ := id S
  obtain ⟨h_tr, h_tb, h_tw⟩ := hP
  have hL : ∀ q ∈ ([] : List Loc), z ≤ q.base := fun q h => absurd h List.not_mem_nil
  have hF : XF (fun q => (y ≤ q ∧ q < y + 1)) s.heap s.heap := XF.rf
  have hl : lv_has ls 1 [(0, .ref y)] := hl
  have in0 : ∀ w ∈ u_ws RX0 TX0 9, w ∈ wsX5_reasonAgainst := fun _ h => List.mem_cons_of_mem _ (List.mem_append_left _ (List.mem_append_right _ h))
  have in5 : ∀ w ∈ u_ws RX5 TX5 6, w ∈ wsX5_reasonAgainst := fun _ h => List.mem_cons_of_mem _ (List.mem_append_left _ (List.mem_append_left _ (List.mem_append_left _ (List.mem_append_right _ h))))
  have in6 : ∀ w ∈ u_ws RX6 TX6 7, w ∈ wsX5_reasonAgainst := fun _ h => List.mem_cons_of_mem _ (List.mem_append_left _ (List.mem_append_left _ (List.mem_append_right _ h)))
  unfold f_X5_reasonAgainst at hf
  refine lv_aload_n hx hb dX5_reasonAgainst_0 rfl (lv_at hl 0 rfl) ?_
  refine x_get S hK h_tr 0 (by decide) rfl rfl rfl in5 0 (by decide) (xm 1 rfl) (x := .ref (y + 1)) rfl dX5_reasonAgainst_1 ?_
  refine lv_aload_n hx hb dX5_reasonAgainst_4 rfl (lv_at hl 0 rfl) ?_
  refine x_get S hK h_tr 0 (by decide) rfl rfl rfl in5 1 (by decide) (xm 2 rfl) (x := .ref (y + 38)) rfl dX5_reasonAgainst_5 ?_
  refine x_get S hK h_tw 0 (by decide) rfl rfl rfl in6 0 (by decide) (xm 3 rfl) (x := .int (fv 0 0)) rfl dX5_reasonAgainst_8 ?_
  obtain ⟨r_1, e_2, hf⟩ := xb_some hf
  refine x_callVi (As := [.int (fv 0 0)]) (rest := []) S hK (c_X0_isHirer l G z (y + 1) v (fv 0 0) r_1 e_2) gX5_reasonAgainst_X0_isHirer rfl 1 (by decide +kernel) rfl ⟨Nat.le_of_ble_eq_true rfl, Nat.le_of_ble_eq_true rfl⟩ h_tb 0 (by decide) rfl rfl rfl h_tb hl.1 rfl (Nat.le_of_ble_eq_true rfl) dX5_reasonAgainst_11 hL ⟨Nat.zero_le _, Nat.zero_le _⟩ (fun H1 locs hL hpost => ?_)
  subst hpost
  refine lv_if_ne (tgt := 19) hx hb dX5_reasonAgainst_14 (by decide) (fun c_3 => ?_) (fun c_3 => ?_)
  · have hf := (if_neg c_3).symm.trans hf
    refine lv_aload_n hx hb dX5_reasonAgainst_19 rfl (lv_at hl 0 rfl) ?_
    refine x_get S hK h_tr 0 (by decide) rfl rfl rfl in5 1 (by decide) (xm 2 rfl) (x := .ref (y + 38)) rfl dX5_reasonAgainst_20 ?_
    refine lv_aload_n hx hb dX5_reasonAgainst_23 rfl (lv_at hl 0 rfl) ?_
    refine x_get S hK h_tr 0 (by decide) rfl rfl rfl in5 0 (by decide) (xm 1 rfl) (x := .ref (y + 1)) rfl dX5_reasonAgainst_24 ?_
    refine x_get S hK h_tb 0 (by decide) rfl rfl rfl in0 0 (by decide) (xm 4 rfl) (x := .int (v 0 0)) rfl dX5_reasonAgainst_27 ?_
    obtain ⟨r_4, e_5, hf⟩ := xb_some hf
    refine x_callVi (As := [.int (v 0 0)]) (rest := []) S hK (c_X6_isInRange l G z (y + 38) fv (v 0 0) r_4 e_5) gX5_reasonAgainst_X6_isInRange rfl 1 (by decide +kernel) rfl ⟨Nat.le_of_ble_eq_true rfl, Nat.le_of_ble_eq_true rfl⟩ h_tw 0 (by decide) rfl rfl rfl h_tw hl.1 rfl (Nat.le_of_ble_eq_true rfl) dX5_reasonAgainst_30 hL ⟨Nat.zero_le _, Nat.zero_le _⟩ (fun H1 locs hL hpost => ?_)
    subst hpost
    refine lv_if_eq (tgt := 49) hx hb dX5_reasonAgainst_33 (by decide) (fun c_6 => ?_) (fun c_6 => ?_)
    · have hf := (if_pos c_6).symm.trans hf
      refine lv_iconst (v := 3) hx hb dX5_reasonAgainst_49 (by decide) ?_
      obtain ⟨q0, qq0⟩ := Prod.mk.inj (Option.some.inj hf)
      have q1 := qq0
      subst r0
      subst rv'
      subst hQ
      refine x_iret (post := (fun H H1 => PX G y 1 (trE y) rv H1 ∧ XF (fun q => (y ≤ q ∧ q < y + 1)) H H1)) S hr hlocks rfl ?_ hL dX5_reasonAgainst_50
      exact ⟨h_tr, hF⟩
    · have hf := (if_neg c_6).symm.trans hf
      refine lv_aload_n hx hb dX5_reasonAgainst_36 rfl (lv_at hl 0 rfl) ?_
      refine x_get S hK h_tr 0 (by decide) rfl rfl rfl in5 1 (by decide) (xm 2 rfl) (x := .ref (y + 38)) rfl dX5_reasonAgainst_37 ?_
      obtain ⟨r_7, e_8, hf⟩ := xb_some hf
      refine x_callVi (As := []) (rest := []) S hK (c_X6_lastDay l G z (y + 38) fv r_7 e_8) gX5_reasonAgainst_X6_lastDay rfl 0 (by decide +kernel) rfl ⟨Nat.le_of_ble_eq_true rfl, Nat.le_of_ble_eq_true rfl⟩ h_tw 0 (by decide) rfl rfl rfl h_tw hl.1 rfl (Nat.le_of_ble_eq_true rfl) dX5_reasonAgainst_40 hL ⟨Nat.zero_le _, Nat.zero_le _⟩ (fun H1 locs hL hpost => ?_)
      subst hpost
      refine lv_sipush (v := 364) hx hb dX5_reasonAgainst_43 (by decide) ?_
      refine lv_icmp_le (tgt := 51) hx hb dX5_reasonAgainst_46 (by decide) (fun c_9 => ?_) (fun c_9 => ?_)
      · have hf := (if_pos c_9).symm.trans hf
        refine lv_aload_n hx hb dX5_reasonAgainst_51 rfl (lv_at hl 0 rfl) ?_
        refine lv_aload_n hx hb dX5_reasonAgainst_52 rfl (lv_at hl 0 rfl) ?_
        refine x_get S hK h_tr 0 (by decide) rfl rfl rfl in5 0 (by decide) (xm 1 rfl) (x := .ref (y + 1)) rfl dX5_reasonAgainst_53 ?_
        refine lv_aload_n hx hb dX5_reasonAgainst_56 rfl (lv_at hl 0 rfl) ?_
        refine x_get S hK h_tr 0 (by decide) rfl rfl rfl in5 1 (by decide) (xm 2 rfl) (x := .ref (y + 38)) rfl dX5_reasonAgainst_57 ?_
        obtain ⟨r_10, e_11, hf⟩ := xb_some hf
        refine x_callVi (As := [.ref (y + 38)]) (rest := [.ref y]) S hK (c_X0_clashOf l G z (y + 1) (y + 38) v fv r_10 e_11) gX5_reasonAgainst_X0_clashOf rfl 1 (by decide +kernel) rfl ⟨Nat.le_of_ble_eq_true rfl, Nat.le_of_ble_eq_true rfl⟩ h_tb 0 (by decide) rfl rfl rfl ⟨h_tb, h_tw⟩ hl.1 rfl (Nat.le_of_ble_eq_true rfl) dX5_reasonAgainst_60 hL ⟨Nat.zero_le _, Nat.zero_le _⟩ (fun H1 locs hL hpost => ?_)
        subst hpost
        obtain ⟨rv_12, erv_12, hf⟩ := xl_some hf
        refine x_put S hK h_tr hz_tr hL 0 (by decide) rfl rfl rfl in5 tyX5 tyX5_ok nmX5 4 (by decide) (xm 5 rfl) rfl (vp_nar_int _) rfl (Nat.le_of_ble_eq_true rfl) rfl erv_12 dX5_reasonAgainst_63 (fun H1 locs hL h_tr hfr => ?_)
        have h_tb := h_tb.kept hfr (fun q h1 h2 h3 => by (try dsimp only at h3); omega)
        have h_tw := h_tw.kept hfr (fun q h1 h2 h3 => by (try dsimp only at h3); omega)
        have hF := hF.step hfr (fun q h => by (try dsimp only at h ⊢); omega)
        refine lv_aload_n hx hb dX5_reasonAgainst_66 rfl (lv_at hl 0 rfl) ?_
        refine x_get S hK h_tr 0 (by decide) rfl rfl rfl in5 4 (by decide) (xm 5 rfl) (x := .int (rv_12 0 4)) rfl dX5_reasonAgainst_67 ?_
        refine lv_iconst (v := (-1)) hx hb dX5_reasonAgainst_70 (by decide) ?_
        refine lv_icmp_eq (tgt := 76) hx hb dX5_reasonAgainst_71 (by decide) (fun c_13 => ?_) (fun c_13 => ?_)
        · have hf := (if_pos c_13).symm.trans hf
          refine lv_aload_n hx hb dX5_reasonAgainst_76 rfl (lv_at hl 0 rfl) ?_
          refine x_get S hK h_tr 0 (by decide) rfl rfl rfl in5 0 (by decide) (xm 1 rfl) (x := .ref (y + 1)) rfl dX5_reasonAgainst_77 ?_
          obtain ⟨r_14, e_15, hf⟩ := xb_some hf
          refine x_callVi (As := []) (rest := []) S hK (c_X0_isFull l G z (y + 1) v r_14 e_15) gX5_reasonAgainst_X0_isFull rfl 0 (by decide +kernel) rfl ⟨Nat.le_of_ble_eq_true rfl, Nat.le_of_ble_eq_true rfl⟩ h_tb 0 (by decide) rfl rfl rfl h_tb hl.1 rfl (Nat.le_of_ble_eq_true rfl) dX5_reasonAgainst_80 hL ⟨Nat.zero_le _, Nat.zero_le _⟩ (fun H1 locs hL hpost => ?_)
          subst hpost
          refine lv_if_eq (tgt := 90) hx hb dX5_reasonAgainst_83 (by decide) (fun c_16 => ?_) (fun c_16 => ?_)
          · have hf := (if_pos c_16).symm.trans hf
            refine lv_iconst (v := 0) hx hb dX5_reasonAgainst_90 (by decide) ?_
            obtain ⟨q0, qq0⟩ := Prod.mk.inj (Option.some.inj hf)
            have q1 := qq0
            subst r0
            subst rv'
            subst hQ
            refine x_iret (post := (fun H H1 => PX G y 1 (trE y) rv_12 H1 ∧ XF (fun q => (y ≤ q ∧ q < y + 1)) H H1)) S hr hlocks rfl ?_ hL dX5_reasonAgainst_91
            exact ⟨h_tr, hF⟩
          · have hf := (if_neg c_16).symm.trans hf
            refine lv_iconst (v := 5) hx hb dX5_reasonAgainst_86 (by decide) ?_
            refine lv_goto (tgt := 91) hx hb dX5_reasonAgainst_87 (by decide) ?_
            obtain ⟨q0, qq0⟩ := Prod.mk.inj (Option.some.inj hf)
            have q1 := qq0
            subst r0
            subst rv'
            subst hQ
            refine x_iret (post := (fun H H1 => PX G y 1 (trE y) rv_12 H1 ∧ XF (fun q => (y ≤ q ∧ q < y + 1)) H H1)) S hr hlocks rfl ?_ hL dX5_reasonAgainst_91
            exact ⟨h_tr, hF⟩
        · have hf := (if_neg c_13).symm.trans hf
          refine lv_iconst (v := 4) hx hb dX5_reasonAgainst_74 (by decide) ?_
          obtain ⟨q0, qq0⟩ := Prod.mk.inj (Option.some.inj hf)
          have q1 := qq0
          subst r0
          subst rv'
          subst hQ
          refine x_iret (post := (fun H H1 => PX G y 1 (trE y) rv_12 H1 ∧ XF (fun q => (y ≤ q ∧ q < y + 1)) H H1)) S hr hlocks rfl ?_ hL dX5_reasonAgainst_75
          exact ⟨h_tr, hF⟩
      · have hf := (if_neg c_9).symm.trans hf
        refine lv_iconst (v := 3) hx hb dX5_reasonAgainst_49 (by decide) ?_
        obtain ⟨q0, qq0⟩ := Prod.mk.inj (Option.some.inj hf)
        have q1 := qq0
        subst r0
        subst rv'
        subst hQ
        refine x_iret (post := (fun H H1 => PX G y 1 (trE y) rv H1 ∧ XF (fun q => (y ≤ q ∧ q < y + 1)) H H1)) S hr hlocks rfl ?_ hL dX5_reasonAgainst_50
        exact ⟨h_tr, hF⟩
  · have hf := (if_pos c_3).symm.trans hf
    refine lv_iconst (v := 2) hx hb dX5_reasonAgainst_17 (by decide) ?_
    obtain ⟨q0, qq0⟩ := Prod.mk.inj (Option.some.inj hf)
    have q1 := qq0
    subst r0
    subst rv'
    subst hQ
    refine x_iret (post := (fun H H1 => PX G y 1 (trE y) rv H1 ∧ XF (fun q => (y ≤ q ∧ q < y + 1)) H H1)) S hr hlocks rfl ?_ hL dX5_reasonAgainst_18
    exact ⟨h_tr, hF⟩
set_option maxRecDepth 100000 in
set_option maxHeartbeats 4000000 in
theorem c_X5_run (l : Launch) (G : xG) (z : Nat) (y : Nat) (b : Nat) (t : Nat) (rv : xV) (vt : xV) (fv : xV) (v : xV) (tv : xV) (rv' : xV) (vt' : xV) (fv' : xV) (tv' : xV) (hz_tr : z ≤ y) (hz_tb : z ≤ (y + 1)) (hz_tw : z ≤ (y + 38)) (hz_tx : z ≤ t) (dj_tr_bk : y + 1 ≤ b ∨ b + 37 ≤ y) (dj_tr_tx : y + 1 ≤ t ∨ t + 2 ≤ y) (dj_tb_bk : (y + 1) + 37 ≤ b ∨ b + 37 ≤ (y + 1)) (dj_tb_tx : (y + 1) + 37 ≤ t ∨ t + 2 ≤ (y + 1)) (dj_tw_bk : (y + 38) + 1 ≤ b ∨ b + 37 ≤ (y + 38)) (dj_tw_tx : (y + 38) + 1 ≤ t ∨ t + 2 ≤ (y + 38)) (dj_bk_tx : b + 37 ≤ t ∨ t + 2 ≤ b) (hf : f_X5_run rv vt fv v tv = some (rv', vt', fv', tv')) : xM l yX5_run wsX5_run 5 115 G z [.ref y, .ref b, .ref t] (fun H => PX G y 1 (trE y) rv H ∧ PX G (y + 1) 37 (bkE G (y + 1)) vt H ∧ PX G (y + 38) 1 wsE fv H ∧ PX G b 37 (bkE G b) v H ∧ PX G t 2 (txE G t) tv H) none (fun H H1 => PX G y 1 (trE y) rv' H1 ∧ PX G (y + 1) 37 (bkE G (y + 1)) vt' H1 ∧ PX G (y + 38) 1 wsE fv' H1 ∧ PX G t 2 (txE G t) tv' H1 ∧ XF (fun q => (y ≤ q ∧ q < y + 1) ∨ ((y + 1) ≤ q ∧ q < (y + 1) + 37) ∨ ((y + 38) ≤ q ∧ q < (y + 38) + 1) ∨ (t ≤ q ∧ q < t + 2)) H H1) := by
  refine xM.of (cc := cX5_run) (maxL := 4) (ret := none) (by decide +kernel) rfl (Nat.le_of_ble_eq_true rfl) ?_
  intro p e s m args below meth c ls Q hQ S hr hlocks hK hP hl
  obtain ⟨hx, hb, hml, hown, hts⟩ := id S
  obtain ⟨h_tr, h_tb, h_tw, h_bk, h_tx⟩ := hP
  have hL : ∀ q ∈ ([] : List Loc), z ≤ q.base := fun q h => absurd h List.not_mem_nil
  have hF : XF (fun q => (y ≤ q ∧ q < y + 1) ∨ ((y + 1) ≤ q ∧ q < (y + 1) + 37) ∨ ((y + 38) ≤ q ∧ q < (y + 38) + 1) ∨ (t ≤ q ∧ q < t + 2)) s.heap s.heap := XF.rf
  have hl : lv_has ls 4 [(0, .ref y), (1, .ref b), (2, .ref t)] := hl
  have in4 : ∀ w ∈ u_ws RX4 TX4 3, w ∈ wsX5_run := fun _ h => List.mem_cons_of_mem _ (List.mem_append_left _ (List.mem_append_left _ (List.mem_append_left _ (List.mem_append_left _ (List.mem_append_right _ h)))))
  have in5 : ∀ w ∈ u_ws RX5 TX5 6, w ∈ wsX5_run := fun _ h => List.mem_cons_of_mem _ (List.mem_append_left _ (List.mem_append_left _ (List.mem_append_left _ (List.mem_append_left _ (List.mem_append_left _ (List.mem_append_right _ h))))))
  unfold f_X5_run at hf
  refine lv_aload_n hx hb dX5_run_0 rfl (lv_at hl 0 rfl) ?_
  refine x_get S hK h_tr 0 (by decide) rfl rfl rfl in5 0 (by decide) (xm 1 rfl) (x := .ref (y + 1)) rfl dX5_run_1 ?_
  refine lv_aload_n hx hb dX5_run_4 rfl (lv_at hl 1 rfl) ?_
  obtain ⟨vt_1, e_2, hf⟩ := xb_some hf
  refine x_callVv (As := [.ref b]) (rest := []) S hK (c_X0_copyFrom l G z (y + 1) b vt v vt_1 (by omega) (by omega) e_2) gX5_run_X0_copyFrom rfl 1 (by decide +kernel) rfl ⟨Nat.le_of_ble_eq_true rfl, Nat.le_of_ble_eq_true rfl⟩ h_tb 0 (by decide) rfl rfl rfl ⟨h_tb, h_bk⟩ hl.1 rfl (Nat.le_of_ble_eq_true rfl) dX5_run_5 hL ⟨Nat.zero_le _, Nat.zero_le _⟩ (fun H1 locs hL hpost => ?_)
  obtain ⟨n_bk, hfr⟩ := hpost
  have h_tb := n_bk
  have h_tr := h_tr.kept hfr (fun q h1 h2 h3 => by (try dsimp only at h3); omega)
  have h_tw := h_tw.kept hfr (fun q h1 h2 h3 => by (try dsimp only at h3); omega)
  have h_bk := h_bk.kept hfr (fun q h1 h2 h3 => by (try dsimp only at h3); omega)
  have h_tx := h_tx.kept hfr (fun q h1 h2 h3 => by (try dsimp only at h3); omega)
  have hF := hF.step hfr (fun q h => by (try dsimp only at h ⊢); omega)
  refine lv_aload_n hx hb dX5_run_8 rfl (lv_at hl 0 rfl) ?_
  refine lv_iconst (v := 0) hx hb dX5_run_9 (by decide) ?_
  obtain ⟨rv_3, erv_3, hf⟩ := xl_some hf
  refine x_put S hK h_tr hz_tr hL 0 (by decide) rfl rfl rfl in5 tyX5 tyX5_ok nmX5 3 (by decide) (xm 2 rfl) rfl (vp_nar_int _) rfl (Nat.le_of_ble_eq_true rfl) rfl erv_3 dX5_run_10 (fun H1 locs hL h_tr hfr => ?_)
  have h_tb := h_tb.kept hfr (fun q h1 h2 h3 => by (try dsimp only at h3); omega)
  have h_tw := h_tw.kept hfr (fun q h1 h2 h3 => by (try dsimp only at h3); omega)
  have h_bk := h_bk.kept hfr (fun q h1 h2 h3 => by (try dsimp only at h3); omega)
  have h_tx := h_tx.kept hfr (fun q h1 h2 h3 => by (try dsimp only at h3); omega)
  have hF := hF.step hfr (fun q h => by (try dsimp only at h ⊢); omega)
  refine lv_aload_n hx hb dX5_run_13 rfl (lv_at hl 0 rfl) ?_
  refine lv_iconst (v := 0) hx hb dX5_run_14 (by decide) ?_
  obtain ⟨rv_4, erv_4, hf⟩ := xl_some hf
  refine x_put S hK h_tr hz_tr hL 0 (by decide) rfl rfl rfl in5 tyX5 tyX5_ok nmX5 5 (by decide) (xm 3 rfl) rfl (vp_nar_int _) rfl (Nat.le_of_ble_eq_true rfl) rfl erv_4 dX5_run_15 (fun H1 locs hL h_tr hfr => ?_)
  have h_tb := h_tb.kept hfr (fun q h1 h2 h3 => by (try dsimp only at h3); omega)
  have h_tw := h_tw.kept hfr (fun q h1 h2 h3 => by (try dsimp only at h3); omega)
  have h_bk := h_bk.kept hfr (fun q h1 h2 h3 => by (try dsimp only at h3); omega)
  have h_tx := h_tx.kept hfr (fun q h1 h2 h3 => by (try dsimp only at h3); omega)
  have hF := hF.step hfr (fun q h => by (try dsimp only at h ⊢); omega)
  refine lv_aload_n hx hb dX5_run_18 rfl (lv_at hl 2 rfl) ?_
  refine lv_iconst (v := 0) hx hb dX5_run_19 (by decide) ?_
  obtain ⟨tv_5, etv_5, hf⟩ := xl_some hf
  refine x_put S hK h_tx hz_tx hL 0 (by decide) rfl rfl rfl in4 tyX4 tyX4_ok nmX4 2 (by decide) (xm 4 rfl) rfl (vp_nar_int _) rfl (Nat.le_of_ble_eq_true rfl) rfl etv_5 dX5_run_20 (fun H1 locs hL h_tx hfr => ?_)
  have h_tr := h_tr.kept hfr (fun q h1 h2 h3 => by (try dsimp only at h3); omega)
  have h_tb := h_tb.kept hfr (fun q h1 h2 h3 => by (try dsimp only at h3); omega)
  have h_tw := h_tw.kept hfr (fun q h1 h2 h3 => by (try dsimp only at h3); omega)
  have h_bk := h_bk.kept hfr (fun q h1 h2 h3 => by (try dsimp only at h3); omega)
  have hF := hF.step hfr (fun q h => by (try dsimp only at h ⊢); omega)
  refine lv_iconst (v := 0) hx hb dX5_run_23 (by decide) ?_
  refine lv_istore_n (lv' := [(3, .int 0), (0, .ref y), (1, .ref b), (2, .ref t)]) hx hb dX5_run_24 rfl hl (by decide) rfl (fun ls hl => ?_)
  have lp_25 : ∀ (K_25 : Int32 → xV → xV → xV → xV → Option (xV × xV × xV × xV)), (∀ (x_6 : Int32) (rv_7 : xV) (vt_8 : xV) (fv_9 : xV) (tv_10 : xV) (H : Heap) (locs : List Loc) (ls : Array Slot), (∀ q ∈ locs, z ≤ q.base) → PX G y 1 (trE y) rv_7 H → PX G (y + 1) 37 (bkE G (y + 1)) vt_8 H → PX G (y + 38) 1 wsE fv_9 H → PX G b 37 (bkE G b) v H → PX G t 2 (txE G t) tv_10 H → XF (fun q => (y ≤ q ∧ q < y + 1) ∨ ((y + 1) ≤ q ∧ q < (y + 1) + 37) ∨ ((y + 38) ≤ q ∧ q < (y + 38) + 1) ∨ (t ≤ q ∧ q < t + 2)) s.heap H → lv_has ls 4 [] → K_25 x_6 rv_7 vt_8 fv_9 tv_10 = some (rv', vt', fv', tv') → W p l e { frames := 5, cells := 0, slots := 0, locals := 115 } s m args below meth c H locs 0 0 Q (F0 m 105 ls [])) → ∀ (n : Nat) (x_6 : Int32) (rv_7 : xV) (vt_8 : xV) (fv_9 : xV) (tv_10 : xV) (H : Heap) (locs : List Loc) (ls : Array Slot), (∀ q ∈ locs, z ≤ q.base) → PX G y 1 (trE y) rv_7 H → PX G (y + 1) 37 (bkE G (y + 1)) vt_8 H → PX G (y + 38) 1 wsE fv_9 H → PX G b 37 (bkE G b) v H → PX G t 2 (txE G t) tv_10 H → XF (fun q => (y ≤ q ∧ q < y + 1) ∨ ((y + 1) ≤ q ∧ q < (y + 1) + 37) ∨ ((y + 38) ≤ q ∧ q < (y + 38) + 1) ∨ (t ≤ q ∧ q < t + 2)) s.heap H → lv_has ls 4 [(0, .ref y), (2, .ref t), (3, .int x_6)] → L_X5_run_25 K_25 n x_6 rv_7 vt_8 fv_9 tv_10 = some (rv', vt', fv', tv') → W p l e { frames := 5, cells := 0, slots := 0, locals := 115 } s m args below meth c H locs 0 0 Q (F0 m 25 ls []) := by
    intro K_25 hK_25 n
    induction n with
    | zero =>
      intro x_6 rv_7 vt_8 fv_9 tv_10 H locs ls hL h_tr h_tb h_tw h_bk h_tx hF hl hf
      cases hf
    | succ n ih_25 =>
      intro x_6 rv_7 vt_8 fv_9 tv_10 H locs ls hL h_tr h_tb h_tw h_bk h_tx hF hl hf
      unfold L_X5_run_25 at hf
      refine lv_iload_n hx hb dX5_run_25 rfl (lv_at hl 2 rfl) ?_
      refine lv_bipush (v := 80) hx hb dX5_run_26 (by decide) ?_
      refine lv_icmp_ge (tgt := 105) hx hb dX5_run_28 (by decide) (fun c_11 => ?_) (fun c_11 => ?_)
      · have hf := (if_pos c_11).symm.trans hf
        exact hK_25 x_6 rv_7 vt_8 fv_9 tv_10 _ _ _ hL h_tr h_tb h_tw h_bk h_tx hF (lv_sub hl [] rfl) hf
      · have hf := (if_neg c_11).symm.trans hf
        refine lv_aload_n hx hb dX5_run_31 rfl (lv_at hl 1 rfl) ?_
        obtain ⟨r_12, e_13, hf⟩ := xb_some hf
        refine x_callVi (As := []) (rest := []) S hK (c_X4_isRead l G z t tv_10 r_12 e_13) gX5_run_X4_isRead rfl 0 (by decide +kernel) rfl ⟨Nat.le_of_ble_eq_true rfl, Nat.le_of_ble_eq_true rfl⟩ h_tx 0 (by decide) rfl rfl rfl h_tx hl.1 rfl (Nat.le_of_ble_eq_true rfl) dX5_run_32 hL ⟨Nat.zero_le _, Nat.zero_le _⟩ (fun H1 locs hL hpost => ?_)
        subst hpost
        refine lv_if_ne (tgt := 105) hx hb dX5_run_35 (by decide) (fun c_14 => ?_) (fun c_14 => ?_)
        · have hf := (if_neg c_14).symm.trans hf
          exact hK_25 x_6 rv_7 vt_8 fv_9 tv_10 _ _ _ hL h_tr h_tb h_tw h_bk h_tx hF (lv_sub hl [] rfl) hf
        · have hf := (if_pos c_14).symm.trans hf
          refine lv_aload_n hx hb dX5_run_38 rfl (lv_at hl 0 rfl) ?_
          refine lv_aload_n hx hb dX5_run_39 rfl (lv_at hl 1 rfl) ?_
          refine x_get S hK h_tx 0 (by decide) rfl rfl rfl in4 2 (by decide) (xm 4 rfl) (x := .int (tv_10 0 2)) rfl dX5_run_40 ?_
          obtain ⟨rv_15, erv_15, hf⟩ := xl_some hf
          refine x_put S hK h_tr hz_tr hL 0 (by decide) rfl rfl rfl in5 tyX5 tyX5_ok nmX5 2 (by decide) (xm 5 rfl) rfl (vp_nar_int _) rfl (Nat.le_of_ble_eq_true rfl) rfl erv_15 dX5_run_43 (fun H1 locs hL h_tr hfr => ?_)
          have h_tb := h_tb.kept hfr (fun q h1 h2 h3 => by (try dsimp only at h3); omega)
          have h_tw := h_tw.kept hfr (fun q h1 h2 h3 => by (try dsimp only at h3); omega)
          have h_bk := h_bk.kept hfr (fun q h1 h2 h3 => by (try dsimp only at h3); omega)
          have h_tx := h_tx.kept hfr (fun q h1 h2 h3 => by (try dsimp only at h3); omega)
          have hF := hF.step hfr (fun q h => by (try dsimp only at h ⊢); omega)
          refine lv_aload_n hx hb dX5_run_46 rfl (lv_at hl 0 rfl) ?_
          refine lv_aload_n hx hb dX5_run_47 rfl (lv_at hl 1 rfl) ?_
          refine lv_aload_n hx hb dX5_run_48 rfl (lv_at hl 0 rfl) ?_
          refine x_get S hK h_tr 0 (by decide) rfl rfl rfl in5 1 (by decide) (xm 6 rfl) (x := .ref (y + 38)) rfl dX5_run_49 ?_
          obtain ⟨r_16, tv_17, fv_18, e_19, hf⟩ := xb3_some hf
          refine x_callVi (As := [.ref (y + 38)]) (rest := [.ref y]) S hK (c_X4_readHire l G z t (y + 38) tv_10 fv_9 r_16 tv_17 fv_18 (by omega) (by omega) (by omega) e_19) gX5_run_X4_readHire rfl 1 (by decide +kernel) rfl ⟨Nat.le_of_ble_eq_true rfl, Nat.le_of_ble_eq_true rfl⟩ h_tx 0 (by decide) rfl rfl rfl ⟨h_tx, h_tw⟩ hl.1 rfl (Nat.le_of_ble_eq_true rfl) dX5_run_52 hL ⟨Nat.zero_le _, Nat.zero_le _⟩ (fun H1 locs hL hpost => ?_)
          obtain ⟨n_tx, n_ws, hfr⟩ := hpost
          have h_tx := n_tx
          have h_tw := n_ws
          have h_tr := h_tr.kept hfr (fun q h1 h2 h3 => by (try dsimp only at h3); omega)
          have h_tb := h_tb.kept hfr (fun q h1 h2 h3 => by (try dsimp only at h3); omega)
          have h_bk := h_bk.kept hfr (fun q h1 h2 h3 => by (try dsimp only at h3); omega)
          have hF := hF.step hfr (fun q h => by (try dsimp only at h ⊢); omega)
          refine lv_if_eq (tgt := 65) hx hb dX5_run_55 (by decide) (fun c_20 => ?_) (fun c_20 => ?_)
          · have hf := (if_pos c_20).symm.trans hf
            refine lv_iconst (v := 1) hx hb dX5_run_65 (by decide) ?_
            obtain ⟨rv_21, erv_21, hf⟩ := xl_some hf
            refine x_put S hK h_tr hz_tr hL 0 (by decide) rfl rfl rfl in5 tyX5 tyX5_ok nmX5 3 (by decide) (xm 2 rfl) rfl (vp_nar_int _) rfl (Nat.le_of_ble_eq_true rfl) rfl erv_21 dX5_run_66 (fun H1 locs hL h_tr hfr => ?_)
            have h_tb := h_tb.kept hfr (fun q h1 h2 h3 => by (try dsimp only at h3); omega)
            have h_tw := h_tw.kept hfr (fun q h1 h2 h3 => by (try dsimp only at h3); omega)
            have h_bk := h_bk.kept hfr (fun q h1 h2 h3 => by (try dsimp only at h3); omega)
            have h_tx := h_tx.kept hfr (fun q h1 h2 h3 => by (try dsimp only at h3); omega)
            have hF := hF.step hfr (fun q h => by (try dsimp only at h ⊢); omega)
            refine lv_aload_n hx hb dX5_run_69 rfl (lv_at hl 0 rfl) ?_
            refine x_get S hK h_tr 0 (by decide) rfl rfl rfl in5 3 (by decide) (xm 2 rfl) (x := .int (rv_21 0 3)) rfl dX5_run_70 ?_
            refine lv_if_eq (tgt := 77) hx hb dX5_run_73 (by decide) (fun c_22 => ?_) (fun c_22 => ?_)
            · have hf := (if_pos c_22).symm.trans hf
              refine lv_aload_n hx hb dX5_run_77 rfl (lv_at hl 0 rfl) ?_
              refine x_get S hK h_tr 0 (by decide) rfl rfl rfl in5 0 (by decide) (xm 1 rfl) (x := .ref (y + 1)) rfl dX5_run_78 ?_
              refine lv_aload_n hx hb dX5_run_81 rfl (lv_at hl 0 rfl) ?_
              refine x_get S hK h_tr 0 (by decide) rfl rfl rfl in5 1 (by decide) (xm 6 rfl) (x := .ref (y + 38)) rfl dX5_run_82 ?_
              obtain ⟨r_23, vt_24, e_25, hf⟩ := xb2_some hf
              refine x_callVi (As := [.ref (y + 38)]) (rest := []) S hK (c_X0_make l G z (y + 1) (y + 38) vt_8 fv_18 r_23 vt_24 (by omega) (by omega) e_25) gX5_run_X0_make rfl 1 (by decide +kernel) rfl ⟨Nat.le_of_ble_eq_true rfl, Nat.le_of_ble_eq_true rfl⟩ h_tb 0 (by decide) rfl rfl rfl ⟨h_tb, h_tw⟩ hl.1 rfl (Nat.le_of_ble_eq_true rfl) dX5_run_85 hL ⟨Nat.zero_le _, Nat.zero_le _⟩ (fun H1 locs hL hpost => ?_)
              obtain ⟨n_bk, hfr⟩ := hpost
              have h_tb := n_bk
              have h_tr := h_tr.kept hfr (fun q h1 h2 h3 => by (try dsimp only at h3); omega)
              have h_tw := h_tw.kept hfr (fun q h1 h2 h3 => by (try dsimp only at h3); omega)
              have h_bk := h_bk.kept hfr (fun q h1 h2 h3 => by (try dsimp only at h3); omega)
              have h_tx := h_tx.kept hfr (fun q h1 h2 h3 => by (try dsimp only at h3); omega)
              have hF := hF.step hfr (fun q h => by (try dsimp only at h ⊢); omega)
              refine lv_pop hx hb dX5_run_88 rfl ?_
              refine lv_aload_n hx hb dX5_run_89 rfl (lv_at hl 0 rfl) ?_
              refine lv_dup hx hb dX5_run_90 rfl ?_
              refine x_get S hK h_tr 0 (by decide) rfl rfl rfl in5 5 (by decide) (xm 3 rfl) (x := .int (rv_21 0 5)) rfl dX5_run_91 ?_
              refine lv_iconst (v := 1) hx hb dX5_run_94 (by decide) ?_
              refine lv_iadd hx hb dX5_run_95 ?_
              obtain ⟨rv_26, erv_26, hf⟩ := xl_some hf
              refine x_put S hK h_tr hz_tr hL 0 (by decide) rfl rfl rfl in5 tyX5 tyX5_ok nmX5 5 (by decide) (xm 3 rfl) rfl (vp_nar_int _) rfl (Nat.le_of_ble_eq_true rfl) rfl erv_26 dX5_run_96 (fun H1 locs hL h_tr hfr => ?_)
              have h_tb := h_tb.kept hfr (fun q h1 h2 h3 => by (try dsimp only at h3); omega)
              have h_tw := h_tw.kept hfr (fun q h1 h2 h3 => by (try dsimp only at h3); omega)
              have h_bk := h_bk.kept hfr (fun q h1 h2 h3 => by (try dsimp only at h3); omega)
              have h_tx := h_tx.kept hfr (fun q h1 h2 h3 => by (try dsimp only at h3); omega)
              have hF := hF.step hfr (fun q h => by (try dsimp only at h ⊢); omega)
              obtain ⟨x_27, ex_27, hf⟩ := xl_some hf
              refine lv_iinc (v := x_27) (lv' := [(3, .int x_27), (0, .ref y), (2, .ref t)]) hx hb dX5_run_99 hl (k := 2) rfl (by rw [ex_27]; rfl) (by decide) rfl (fun ls hl => ?_)
              refine lv_goto (tgt := 25) hx hb dX5_run_102 (by decide) ?_
              exact ih_25 x_27 rv_26 vt_24 fv_18 tv_17 _ _ _ hL h_tr h_tb h_tw h_bk h_tx hF (lv_sub hl [1, 2, 0] rfl) hf
            · have hf := (if_neg c_22).symm.trans hf
              obtain ⟨q0, qq0⟩ := Prod.mk.inj (Option.some.inj hf)
              obtain ⟨q1, qq1⟩ := Prod.mk.inj (qq0)
              obtain ⟨q2, qq2⟩ := Prod.mk.inj (qq1)
              have q3 := qq2
              subst rv'
              subst vt'
              subst fv'
              subst tv'
              subst hQ
              refine x_vret (post := (fun H H1 => PX G y 1 (trE y) rv_21 H1 ∧ PX G (y + 1) 37 (bkE G (y + 1)) vt_8 H1 ∧ PX G (y + 38) 1 wsE fv_18 H1 ∧ PX G t 2 (txE G t) tv_17 H1 ∧ XF (fun q => (y ≤ q ∧ q < y + 1) ∨ ((y + 1) ≤ q ∧ q < (y + 1) + 37) ∨ ((y + 38) ≤ q ∧ q < (y + 38) + 1) ∨ (t ≤ q ∧ q < t + 2)) H H1)) S hr hlocks rfl ?_ hL dX5_run_76
              exact ⟨h_tr, h_tb, h_tw, h_tx, hF⟩
          · have hf := (if_neg c_20).symm.trans hf
            refine lv_aload_n hx hb dX5_run_58 rfl (lv_at hl 0 rfl) ?_
            obtain ⟨r_28, rv_29, e_30, hf⟩ := xb2_some hf
            refine x_callVi (As := []) (rest := [.ref y]) S hK (c_X5_reasonAgainst l G z y rv_15 vt_8 fv_18 r_28 rv_29 (by omega) e_30) gX5_run_X5_reasonAgainst rfl 0 (by decide +kernel) rfl ⟨Nat.le_of_ble_eq_true rfl, Nat.le_of_ble_eq_true rfl⟩ h_tr 0 (by decide) rfl rfl rfl ⟨h_tr, h_tb, h_tw⟩ hl.1 rfl (Nat.le_of_ble_eq_true rfl) dX5_run_59 hL ⟨Nat.zero_le _, Nat.zero_le _⟩ (fun H1 locs hL hpost => ?_)
            obtain ⟨n_tr, hfr⟩ := hpost
            have h_tr := n_tr
            have h_tb := h_tb.kept hfr (fun q h1 h2 h3 => by (try dsimp only at h3); omega)
            have h_tw := h_tw.kept hfr (fun q h1 h2 h3 => by (try dsimp only at h3); omega)
            have h_bk := h_bk.kept hfr (fun q h1 h2 h3 => by (try dsimp only at h3); omega)
            have h_tx := h_tx.kept hfr (fun q h1 h2 h3 => by (try dsimp only at h3); omega)
            have hF := hF.step hfr (fun q h => by (try dsimp only at h ⊢); omega)
            refine lv_goto (tgt := 66) hx hb dX5_run_62 (by decide) ?_
            obtain ⟨rv_31, erv_31, hf⟩ := xl_some hf
            refine x_put S hK h_tr hz_tr hL 0 (by decide) rfl rfl rfl in5 tyX5 tyX5_ok nmX5 3 (by decide) (xm 2 rfl) rfl (vp_nar_int _) rfl (Nat.le_of_ble_eq_true rfl) rfl erv_31 dX5_run_66 (fun H1 locs hL h_tr hfr => ?_)
            have h_tb := h_tb.kept hfr (fun q h1 h2 h3 => by (try dsimp only at h3); omega)
            have h_tw := h_tw.kept hfr (fun q h1 h2 h3 => by (try dsimp only at h3); omega)
            have h_bk := h_bk.kept hfr (fun q h1 h2 h3 => by (try dsimp only at h3); omega)
            have h_tx := h_tx.kept hfr (fun q h1 h2 h3 => by (try dsimp only at h3); omega)
            have hF := hF.step hfr (fun q h => by (try dsimp only at h ⊢); omega)
            refine lv_aload_n hx hb dX5_run_69 rfl (lv_at hl 0 rfl) ?_
            refine x_get S hK h_tr 0 (by decide) rfl rfl rfl in5 3 (by decide) (xm 2 rfl) (x := .int (rv_31 0 3)) rfl dX5_run_70 ?_
            refine lv_if_eq (tgt := 77) hx hb dX5_run_73 (by decide) (fun c_32 => ?_) (fun c_32 => ?_)
            · have hf := (if_pos c_32).symm.trans hf
              refine lv_aload_n hx hb dX5_run_77 rfl (lv_at hl 0 rfl) ?_
              refine x_get S hK h_tr 0 (by decide) rfl rfl rfl in5 0 (by decide) (xm 1 rfl) (x := .ref (y + 1)) rfl dX5_run_78 ?_
              refine lv_aload_n hx hb dX5_run_81 rfl (lv_at hl 0 rfl) ?_
              refine x_get S hK h_tr 0 (by decide) rfl rfl rfl in5 1 (by decide) (xm 6 rfl) (x := .ref (y + 38)) rfl dX5_run_82 ?_
              obtain ⟨r_33, vt_34, e_35, hf⟩ := xb2_some hf
              refine x_callVi (As := [.ref (y + 38)]) (rest := []) S hK (c_X0_make l G z (y + 1) (y + 38) vt_8 fv_18 r_33 vt_34 (by omega) (by omega) e_35) gX5_run_X0_make rfl 1 (by decide +kernel) rfl ⟨Nat.le_of_ble_eq_true rfl, Nat.le_of_ble_eq_true rfl⟩ h_tb 0 (by decide) rfl rfl rfl ⟨h_tb, h_tw⟩ hl.1 rfl (Nat.le_of_ble_eq_true rfl) dX5_run_85 hL ⟨Nat.zero_le _, Nat.zero_le _⟩ (fun H1 locs hL hpost => ?_)
              obtain ⟨n_bk, hfr⟩ := hpost
              have h_tb := n_bk
              have h_tr := h_tr.kept hfr (fun q h1 h2 h3 => by (try dsimp only at h3); omega)
              have h_tw := h_tw.kept hfr (fun q h1 h2 h3 => by (try dsimp only at h3); omega)
              have h_bk := h_bk.kept hfr (fun q h1 h2 h3 => by (try dsimp only at h3); omega)
              have h_tx := h_tx.kept hfr (fun q h1 h2 h3 => by (try dsimp only at h3); omega)
              have hF := hF.step hfr (fun q h => by (try dsimp only at h ⊢); omega)
              refine lv_pop hx hb dX5_run_88 rfl ?_
              refine lv_aload_n hx hb dX5_run_89 rfl (lv_at hl 0 rfl) ?_
              refine lv_dup hx hb dX5_run_90 rfl ?_
              refine x_get S hK h_tr 0 (by decide) rfl rfl rfl in5 5 (by decide) (xm 3 rfl) (x := .int (rv_31 0 5)) rfl dX5_run_91 ?_
              refine lv_iconst (v := 1) hx hb dX5_run_94 (by decide) ?_
              refine lv_iadd hx hb dX5_run_95 ?_
              obtain ⟨rv_36, erv_36, hf⟩ := xl_some hf
              refine x_put S hK h_tr hz_tr hL 0 (by decide) rfl rfl rfl in5 tyX5 tyX5_ok nmX5 5 (by decide) (xm 3 rfl) rfl (vp_nar_int _) rfl (Nat.le_of_ble_eq_true rfl) rfl erv_36 dX5_run_96 (fun H1 locs hL h_tr hfr => ?_)
              have h_tb := h_tb.kept hfr (fun q h1 h2 h3 => by (try dsimp only at h3); omega)
              have h_tw := h_tw.kept hfr (fun q h1 h2 h3 => by (try dsimp only at h3); omega)
              have h_bk := h_bk.kept hfr (fun q h1 h2 h3 => by (try dsimp only at h3); omega)
              have h_tx := h_tx.kept hfr (fun q h1 h2 h3 => by (try dsimp only at h3); omega)
              have hF := hF.step hfr (fun q h => by (try dsimp only at h ⊢); omega)
              obtain ⟨x_37, ex_37, hf⟩ := xl_some hf
              refine lv_iinc (v := x_37) (lv' := [(3, .int x_37), (0, .ref y), (2, .ref t)]) hx hb dX5_run_99 hl (k := 2) rfl (by rw [ex_37]; rfl) (by decide) rfl (fun ls hl => ?_)
              refine lv_goto (tgt := 25) hx hb dX5_run_102 (by decide) ?_
              exact ih_25 x_37 rv_36 vt_34 fv_18 tv_17 _ _ _ hL h_tr h_tb h_tw h_bk h_tx hF (lv_sub hl [1, 2, 0] rfl) hf
            · have hf := (if_neg c_32).symm.trans hf
              obtain ⟨q0, qq0⟩ := Prod.mk.inj (Option.some.inj hf)
              obtain ⟨q1, qq1⟩ := Prod.mk.inj (qq0)
              obtain ⟨q2, qq2⟩ := Prod.mk.inj (qq1)
              have q3 := qq2
              subst rv'
              subst vt'
              subst fv'
              subst tv'
              subst hQ
              refine x_vret (post := (fun H H1 => PX G y 1 (trE y) rv_31 H1 ∧ PX G (y + 1) 37 (bkE G (y + 1)) vt_8 H1 ∧ PX G (y + 38) 1 wsE fv_18 H1 ∧ PX G t 2 (txE G t) tv_17 H1 ∧ XF (fun q => (y ≤ q ∧ q < y + 1) ∨ ((y + 1) ≤ q ∧ q < (y + 1) + 37) ∨ ((y + 38) ≤ q ∧ q < (y + 38) + 1) ∨ (t ≤ q ∧ q < t + 2)) H H1)) S hr hlocks rfl ?_ hL dX5_run_76
              exact ⟨h_tr, h_tb, h_tw, h_tx, hF⟩
  refine lp_25 _ (fun x_38 rv_39 vt_40 fv_41 tv_42 H locs ls hL h_tr h_tb h_tw h_bk h_tx hF hl hf => ?_) 100000 0 rv_4 vt_1 fv tv_5 _ _ _ hL h_tr h_tb h_tw h_bk h_tx hF (lv_sub hl [1, 3, 0] rfl) hf
  obtain ⟨q0, qq0⟩ := Prod.mk.inj (Option.some.inj hf)
  obtain ⟨q1, qq1⟩ := Prod.mk.inj (qq0)
  obtain ⟨q2, qq2⟩ := Prod.mk.inj (qq1)
  have q3 := qq2
  subst rv'
  subst vt'
  subst fv'
  subst tv'
  subst hQ
  refine x_vret (post := (fun H H1 => PX G y 1 (trE y) rv_39 H1 ∧ PX G (y + 1) 37 (bkE G (y + 1)) vt_40 H1 ∧ PX G (y + 38) 1 wsE fv_41 H1 ∧ PX G t 2 (txE G t) tv_42 H1 ∧ XF (fun q => (y ≤ q ∧ q < y + 1) ∨ ((y + 1) ≤ q ∧ q < (y + 1) + 37) ∨ ((y + 38) ≤ q ∧ q < (y + 38) + 1) ∨ (t ≤ q ∧ q < t + 2)) H H1)) S hr hlocks rfl ?_ hL dX5_run_105
  exact ⟨h_tr, h_tb, h_tw, h_tx, hF⟩
