/-! ===== the methods, walked (written by program) ===== -/
set_option maxRecDepth 100000 in
set_option maxHeartbeats 4000000 in
theorem c_X7_hireInfo (l : Launch) (G : xG) (z : Nat) (a : Nat) (dv : xV) (v : xV) (p1 : Int32) (p2 : Int32) (r0 : Int32)  (hf : f_X7_hireInfo dv v p1 p2 = some r0) : xM l yX7_hireInfo wsX7_hireInfo 3 61 G z [.ref a, .int p1, .int p2] (fun H => PX G a 1 (hlE a) dv H ∧ PX G (a + 1) 37 (bkE G (a + 1)) v H) (some (.int r0)) (fun H H1 => H1 = H) := by
  refine xM.of (cc := cX7_hireInfo) (maxL := 4) (ret := (some .int)) (by decide +kernel) rfl (Nat.le_of_ble_eq_true rfl) ?_
  intro p e s m args below meth c ls Q hQ S hr hlocks hK hP hl
  obtain ⟨hx, hb, hml, hown, hts⟩ := id S
  obtain ⟨h_hl, h_bk⟩ := hP
  have hL : ∀ q ∈ ([] : List Loc), z ≤ q.base := fun q h => absurd h List.not_mem_nil
  have hl : lv_has ls 4 [(0, .ref a), (1, .int p1), (2, .int p2)] := hl
  have in7 : ∀ w ∈ u_ws RX7 TX7 6, w ∈ wsX7_hireInfo := fun _ h => List.mem_cons_of_mem _ (List.mem_append_left _ (List.mem_append_left _ (List.mem_append_left _ (List.mem_append_right _ h))))
  unfold f_X7_hireInfo at hf
  refine lv_aload_n hx hb dX7_hireInfo_0 rfl (lv_at hl 0 rfl) ?_
  refine x_get S hK h_hl 0 (by decide) rfl rfl rfl in7 0 (by decide) (xm 1 rfl) (x := .ref (a + 1)) rfl dX7_hireInfo_1 ?_
  refine lv_iload_n hx hb dX7_hireInfo_4 rfl (lv_at hl 1 rfl) ?_
  obtain ⟨o_1, e_2, hf⟩ := xb_some hf
  refine x_callVi (As := [.int p1]) (rest := []) S hK (c_X0_hireAt l G z (a + 1) v p1 o_1 e_2) gX7_hireInfo_X0_hireAt rfl 1 (by decide +kernel) rfl ⟨Nat.le_of_ble_eq_true rfl, Nat.le_of_ble_eq_true rfl⟩ h_bk 0 (by decide) rfl rfl rfl h_bk hl.1 rfl (Nat.le_of_ble_eq_true rfl) dX7_hireInfo_5 hL ⟨Nat.zero_le _, Nat.zero_le _⟩ (fun H1 locs hL hpost => ?_)
  subst hpost
  obtain _ | i_3 := o_1
  · have hf := (xo_n _ _).symm.trans hf
    show W _ _ _ _ _ _ _ _ _ _ _ _ _ _ _ (F0 _ _ _ (.null :: _))
    refine lv_astore_nN (lv' := [(3, .null), (0, .ref a), (1, .int p1), (2, .int p2)]) hx hb dX7_hireInfo_8 rfl hl (by decide) rfl (fun ls hl => ?_)
    refine lv_aload_nN hx hb dX7_hireInfo_9 rfl (lv_at hl 0 rfl) ?_
    refine lv_ifnonnullN hx hb dX7_hireInfo_10 ?_
    refine lv_ldc (v := (-2000000001)) hx hb hown (hts _ (xm 2 rfl)) dX7_hireInfo_13 ?_
    have q0 := Option.some.inj hf
    subst r0
    subst hQ
    refine x_iret (post := (fun H H1 => H1 = H)) S hr hlocks rfl ?_ hL dX7_hireInfo_15
    exact rfl
  · have hf := (xo_s _ _ _).symm.trans hf
    obtain ⟨hi_i_3, hf⟩ := xg_some hf
    show W _ _ _ _ _ _ _ _ _ _ _ _ _ _ _ (F0 _ _ _ (.ref ((a + 1) + (6 + 2 * i_3)) :: _))
    refine lv_astore_n (lv' := [(3, .ref ((a + 1) + (6 + 2 * i_3))), (0, .ref a), (1, .int p1), (2, .int p2)]) hx hb dX7_hireInfo_8 rfl hl (by decide) rfl (fun ls hl => ?_)
    refine lv_aload_n hx hb dX7_hireInfo_9 rfl (lv_at hl 0 rfl) ?_
    refine lv_ifnonnull (tgt := 16) hx hb dX7_hireInfo_10 (by decide) ?_
    refine lv_iload_n hx hb dX7_hireInfo_16 rfl (lv_at hl 3 rfl) ?_
    refine lv_bipush (v := 14) hx hb dX7_hireInfo_17 (by decide) ?_
    refine lv_icmp_ne (tgt := 33) hx hb dX7_hireInfo_19 (by decide) (fun c_4 => ?_) (fun c_4 => ?_)
    · have hf := (if_neg c_4).symm.trans hf
      refine lv_aload_n hx hb dX7_hireInfo_33 rfl (lv_at hl 0 rfl) ?_
      refine lv_iload_n hx hb dX7_hireInfo_34 rfl (lv_at hl 3 rfl) ?_
      obtain ⟨r_5, e_6, hf⟩ := xb_some hf
      refine x_callVi (As := [.int p2]) (rest := []) S hK (c_X1_property l G z (a + 1) v i_3 p2 r_5 hi_i_3 e_6) gX7_hireInfo_X1_property rfl 1 (by decide +kernel) rfl ⟨Nat.le_of_ble_eq_true rfl, Nat.le_of_ble_eq_true rfl⟩ h_bk (6 + 2 * i_3) (by omega) rfl (bkE_hire G (a + 1) i_3 hi_i_3 _) rfl h_bk hl.1 rfl (Nat.le_of_ble_eq_true rfl) dX7_hireInfo_35 hL ⟨Nat.zero_le _, Nat.zero_le _⟩ (fun H1 locs hL hpost => ?_)
      subst hpost
      have q0 := Option.some.inj hf
      subst r0
      subst hQ
      refine x_iret (post := (fun H H1 => H1 = H)) S hr hlocks rfl ?_ hL dX7_hireInfo_38
      exact rfl
    · have hf := (if_pos c_4).symm.trans hf
      refine lv_aload_n hx hb dX7_hireInfo_22 rfl (lv_at hl 1 rfl) ?_
      refine x_get S hK h_hl 0 (by decide) rfl rfl rfl in7 0 (by decide) (xm 1 rfl) (x := .ref (a + 1)) rfl dX7_hireInfo_23 ?_
      refine lv_iload_n hx hb dX7_hireInfo_26 rfl (lv_at hl 2 rfl) ?_
      obtain ⟨r_7, e_8, hf⟩ := xb_some hf
      refine x_callVi (As := [.int p1]) (rest := []) S hK (c_X0_keysFor l G z (a + 1) v p1 r_7 e_8) gX7_hireInfo_X0_keysFor rfl 1 (by decide +kernel) rfl ⟨Nat.le_of_ble_eq_true rfl, Nat.le_of_ble_eq_true rfl⟩ h_bk 0 (by decide) rfl rfl rfl h_bk hl.1 rfl (Nat.le_of_ble_eq_true rfl) dX7_hireInfo_27 hL ⟨Nat.zero_le _, Nat.zero_le _⟩ (fun H1 locs hL hpost => ?_)
      subst hpost
      refine lv_goto (tgt := 38) hx hb dX7_hireInfo_30 (by decide) ?_
      have q0 := Option.some.inj hf
      subst r0
      subst hQ
      refine x_iret (post := (fun H H1 => H1 = H)) S hr hlocks rfl ?_ hL dX7_hireInfo_38
      exact rfl
set_option maxRecDepth 100000 in
set_option maxHeartbeats 4000000 in
theorem c_X7_hirer (l : Launch) (G : xG) (z : Nat) (a : Nat) (dv : xV) (v : xV) (p1 : Int32) (p2 : Int32) (r0 : Int32)  (hf : f_X7_hirer dv v p1 p2 = some r0) : xM l yX7_hirer wsX7_hirer 3 66 G z [.ref a, .int p1, .int p2] (fun H => PX G a 1 (hlE a) dv H ∧ PX G (a + 1) 37 (bkE G (a + 1)) v H) (some (.int r0)) (fun H H1 => H1 = H) := by
  refine xM.of (cc := cX7_hirer) (maxL := 3) (ret := (some .int)) (by decide +kernel) rfl (Nat.le_of_ble_eq_true rfl) ?_
  intro p e s m args below meth c ls Q hQ S hr hlocks hK hP hl
  obtain ⟨hx, hb, hml, hown, hts⟩ := id S
  obtain ⟨h_hl, h_bk⟩ := hP
  have hL : ∀ q ∈ ([] : List Loc), z ≤ q.base := fun q h => absurd h List.not_mem_nil
  have hl : lv_has ls 3 [(0, .ref a), (1, .int p1), (2, .int p2)] := hl
  have in0 : ∀ w ∈ u_ws RX0 TX0 9, w ∈ wsX7_hirer := fun _ h => List.mem_cons_of_mem _ (List.mem_append_left _ (List.mem_append_left _ (List.mem_append_right _ h)))
  have in7 : ∀ w ∈ u_ws RX7 TX7 6, w ∈ wsX7_hirer := fun _ h => List.mem_cons_of_mem _ (List.mem_append_left _ (List.mem_append_left _ (List.mem_append_left _ (List.mem_append_right _ h))))
  unfold f_X7_hirer at hf
  refine lv_aload_n hx hb dX7_hirer_0 rfl (lv_at hl 0 rfl) ?_
  refine x_get S hK h_hl 0 (by decide) rfl rfl rfl in7 0 (by decide) (xm 1 rfl) (x := .ref (a + 1)) rfl dX7_hirer_1 ?_
  refine lv_iload_n hx hb dX7_hirer_4 rfl (lv_at hl 1 rfl) ?_
  obtain ⟨r_1, e_2, hf⟩ := xb_some hf
  refine x_callVi (As := [.int p1]) (rest := []) S hK (c_X0_isHirer l G z (a + 1) v p1 r_1 e_2) gX7_hirer_X0_isHirer rfl 1 (by decide +kernel) rfl ⟨Nat.le_of_ble_eq_true rfl, Nat.le_of_ble_eq_true rfl⟩ h_bk 0 (by decide) rfl rfl rfl h_bk hl.1 rfl (Nat.le_of_ble_eq_true rfl) dX7_hirer_5 hL ⟨Nat.zero_le _, Nat.zero_le _⟩ (fun H1 locs hL hpost => ?_)
  subst hpost
  refine lv_if_ne (tgt := 14) hx hb dX7_hirer_8 (by decide) (fun c_3 => ?_) (fun c_3 => ?_)
  · have hf := (if_neg c_3).symm.trans hf
    refine lv_iload_n hx hb dX7_hirer_14 rfl (lv_at hl 2 rfl) ?_
    by_cases c_4 : p2 = 0
    · have hf := (if_pos c_4).symm.trans hf
      refine x_tin (tgt := 56) (off := 41) S 0 c_4 dX7_hirer_15 (by decide) (by decide) (by decide) (by decide) ?_
      refine lv_aload_n hx hb dX7_hirer_56 rfl (lv_at hl 0 rfl) ?_
      refine x_get S hK h_hl 0 (by decide) rfl rfl rfl in7 0 (by decide) (xm 1 rfl) (x := .ref (a + 1)) rfl dX7_hirer_57 ?_
      refine x_get S hK h_bk 0 (by decide) rfl rfl rfl in0 5 (by decide) (xm 3 rfl) (x := .ref ((a + 1) + 3)) rfl dX7_hirer_60 ?_
      refine lv_iload_n hx hb dX7_hirer_63 rfl (lv_at hl 1 rfl) ?_
      obtain ⟨g_5, hf⟩ := xg_some hf
      refine x_iald S hK h_bk 3 (by decide) rfl rfl p1.toNatClampNeg rfl g_5 dX7_hirer_64 ?_
      have q0 := Option.some.inj hf
      subst r0
      subst hQ
      refine x_iret (post := (fun H H1 => H1 = H)) S hr hlocks rfl ?_ hL dX7_hirer_65
      exact rfl
    have hf := (if_neg c_4).symm.trans hf
    by_cases c_6 : p2 = 1
    · have hf := (if_pos c_6).symm.trans hf
      refine x_tin (tgt := 66) (off := 51) S 1 c_6 dX7_hirer_15 (by decide) (by decide) (by decide) (by decide) ?_
      refine lv_aload_n hx hb dX7_hirer_66 rfl (lv_at hl 0 rfl) ?_
      refine x_get S hK h_hl 0 (by decide) rfl rfl rfl in7 0 (by decide) (xm 1 rfl) (x := .ref (a + 1)) rfl dX7_hirer_67 ?_
      refine x_get S hK h_bk 0 (by decide) rfl rfl rfl in0 6 (by decide) (xm 4 rfl) (x := .ref ((a + 1) + 4)) rfl dX7_hirer_70 ?_
      refine lv_iload_n hx hb dX7_hirer_73 rfl (lv_at hl 1 rfl) ?_
      obtain ⟨g_7, hf⟩ := xg_some hf
      refine x_iald S hK h_bk 4 (by decide) rfl rfl p1.toNatClampNeg rfl g_7 dX7_hirer_74 ?_
      have q0 := Option.some.inj hf
      subst r0
      subst hQ
      refine x_iret (post := (fun H H1 => H1 = H)) S hr hlocks rfl ?_ hL dX7_hirer_75
      exact rfl
    have hf := (if_neg c_6).symm.trans hf
    by_cases c_8 : p2 = 2
    · have hf := (if_pos c_8).symm.trans hf
      refine x_tin (tgt := 76) (off := 61) S 2 c_8 dX7_hirer_15 (by decide) (by decide) (by decide) (by decide) ?_
      refine lv_aload_n hx hb dX7_hirer_76 rfl (lv_at hl 0 rfl) ?_
      refine x_get S hK h_hl 0 (by decide) rfl rfl rfl in7 0 (by decide) (xm 1 rfl) (x := .ref (a + 1)) rfl dX7_hirer_77 ?_
      refine x_get S hK h_bk 0 (by decide) rfl rfl rfl in0 5 (by decide) (xm 3 rfl) (x := .ref ((a + 1) + 3)) rfl dX7_hirer_80 ?_
      refine lv_iload_n hx hb dX7_hirer_83 rfl (lv_at hl 1 rfl) ?_
      obtain ⟨g_9, hf⟩ := xg_some hf
      refine x_iald S hK h_bk 3 (by decide) rfl rfl p1.toNatClampNeg rfl g_9 dX7_hirer_84 ?_
      refine lv_aload_n hx hb dX7_hirer_85 rfl (lv_at hl 0 rfl) ?_
      refine x_get S hK h_hl 0 (by decide) rfl rfl rfl in7 0 (by decide) (xm 1 rfl) (x := .ref (a + 1)) rfl dX7_hirer_86 ?_
      refine x_get S hK h_bk 0 (by decide) rfl rfl rfl in0 6 (by decide) (xm 4 rfl) (x := .ref ((a + 1) + 4)) rfl dX7_hirer_89 ?_
      refine lv_iload_n hx hb dX7_hirer_92 rfl (lv_at hl 1 rfl) ?_
      obtain ⟨g_10, hf⟩ := xg_some hf
      refine x_iald S hK h_bk 4 (by decide) rfl rfl p1.toNatClampNeg rfl g_10 dX7_hirer_93 ?_
      refine lv_isub hx hb dX7_hirer_94 ?_
      have q0 := Option.some.inj hf
      subst r0
      subst hQ
      refine x_iret (post := (fun H H1 => H1 = H)) S hr hlocks rfl ?_ hL dX7_hirer_95
      exact rfl
    have hf := (if_neg c_8).symm.trans hf
    by_cases c_11 : p2 = 3
    · have hf := (if_pos c_11).symm.trans hf
      refine x_tin (tgt := 96) (off := 81) S 3 c_11 dX7_hirer_15 (by decide) (by decide) (by decide) (by decide) ?_
      refine lv_aload_n hx hb dX7_hirer_96 rfl (lv_at hl 0 rfl) ?_
      refine x_get S hK h_hl 0 (by decide) rfl rfl rfl in7 0 (by decide) (xm 1 rfl) (x := .ref (a + 1)) rfl dX7_hirer_97 ?_
      refine lv_iload_n hx hb dX7_hirer_100 rfl (lv_at hl 1 rfl) ?_
      obtain ⟨r_12, e_13, hf⟩ := xb_some hf
      refine x_callVi (As := [.int p1]) (rest := []) S hK (c_X0_hiresOf l G z (a + 1) v p1 r_12 e_13) gX7_hirer_X0_hiresOf rfl 1 (by decide +kernel) rfl ⟨Nat.le_of_ble_eq_true rfl, Nat.le_of_ble_eq_true rfl⟩ h_bk 0 (by decide) rfl rfl rfl h_bk hl.1 rfl (Nat.le_of_ble_eq_true rfl) dX7_hirer_101 hL ⟨Nat.zero_le _, Nat.zero_le _⟩ (fun H1 locs hL hpost => ?_)
      subst hpost
      have q0 := Option.some.inj hf
      subst r0
      subst hQ
      refine x_iret (post := (fun H H1 => H1 = H)) S hr hlocks rfl ?_ hL dX7_hirer_104
      exact rfl
    have hf := (if_neg c_11).symm.trans hf
    by_cases c_14 : p2 = 4
    · have hf := (if_pos c_14).symm.trans hf
      refine x_tin (tgt := 105) (off := 90) S 4 c_14 dX7_hirer_15 (by decide) (by decide) (by decide) (by decide) ?_
      refine lv_aload_n hx hb dX7_hirer_105 rfl (lv_at hl 0 rfl) ?_
      refine x_get S hK h_hl 0 (by decide) rfl rfl rfl in7 0 (by decide) (xm 1 rfl) (x := .ref (a + 1)) rfl dX7_hirer_106 ?_
      refine lv_iload_n hx hb dX7_hirer_109 rfl (lv_at hl 1 rfl) ?_
      obtain ⟨r_15, e_16, hf⟩ := xb_some hf
      refine x_callVi (As := [.int p1]) (rest := []) S hK (c_X0_plannedOf l G z (a + 1) v p1 r_15 e_16) gX7_hirer_X0_plannedOf rfl 1 (by decide +kernel) rfl ⟨Nat.le_of_ble_eq_true rfl, Nat.le_of_ble_eq_true rfl⟩ h_bk 0 (by decide) rfl rfl rfl h_bk hl.1 rfl (Nat.le_of_ble_eq_true rfl) dX7_hirer_110 hL ⟨Nat.zero_le _, Nat.zero_le _⟩ (fun H1 locs hL hpost => ?_)
      subst hpost
      have q0 := Option.some.inj hf
      subst r0
      subst hQ
      refine x_iret (post := (fun H H1 => H1 = H)) S hr hlocks rfl ?_ hL dX7_hirer_113
      exact rfl
    have hf := (if_neg c_14).symm.trans hf
    by_cases c_17 : p2 = 5
    · have hf := (if_pos c_17).symm.trans hf
      refine x_tin (tgt := 114) (off := 99) S 5 c_17 dX7_hirer_15 (by decide) (by decide) (by decide) (by decide) ?_
      refine lv_aload_n hx hb dX7_hirer_114 rfl (lv_at hl 0 rfl) ?_
      refine x_get S hK h_hl 0 (by decide) rfl rfl rfl in7 0 (by decide) (xm 1 rfl) (x := .ref (a + 1)) rfl dX7_hirer_115 ?_
      refine lv_iload_n hx hb dX7_hirer_118 rfl (lv_at hl 1 rfl) ?_
      obtain ⟨r_18, e_19, hf⟩ := xb_some hf
      refine x_callVi (As := [.int p1]) (rest := []) S hK (c_X0_keysOf l G z (a + 1) v p1 r_18 e_19) gX7_hirer_X0_keysOf rfl 1 (by decide +kernel) rfl ⟨Nat.le_of_ble_eq_true rfl, Nat.le_of_ble_eq_true rfl⟩ h_bk 0 (by decide) rfl rfl rfl h_bk hl.1 rfl (Nat.le_of_ble_eq_true rfl) dX7_hirer_119 hL ⟨Nat.zero_le _, Nat.zero_le _⟩ (fun H1 locs hL hpost => ?_)
      subst hpost
      have q0 := Option.some.inj hf
      subst r0
      subst hQ
      refine x_iret (post := (fun H H1 => H1 = H)) S hr hlocks rfl ?_ hL dX7_hirer_122
      exact rfl
    have hf := (if_neg c_17).symm.trans hf
    by_cases c_20 : p2 = 6
    · have hf := (if_pos c_20).symm.trans hf
      refine x_tin (tgt := 123) (off := 108) S 6 c_20 dX7_hirer_15 (by decide) (by decide) (by decide) (by decide) ?_
      refine lv_aload_n hx hb dX7_hirer_123 rfl (lv_at hl 0 rfl) ?_
      refine x_get S hK h_hl 0 (by decide) rfl rfl rfl in7 0 (by decide) (xm 1 rfl) (x := .ref (a + 1)) rfl dX7_hirer_124 ?_
      refine lv_iload_n hx hb dX7_hirer_127 rfl (lv_at hl 1 rfl) ?_
      obtain ⟨r_21, e_22, hf⟩ := xb_some hf
      refine x_callVi (As := [.int p1]) (rest := []) S hK (c_X0_faultsOf l G z (a + 1) v p1 r_21 e_22) gX7_hirer_X0_faultsOf rfl 1 (by decide +kernel) rfl ⟨Nat.le_of_ble_eq_true rfl, Nat.le_of_ble_eq_true rfl⟩ h_bk 0 (by decide) rfl rfl rfl h_bk hl.1 rfl (Nat.le_of_ble_eq_true rfl) dX7_hirer_128 hL ⟨Nat.zero_le _, Nat.zero_le _⟩ (fun H1 locs hL hpost => ?_)
      subst hpost
      have q0 := Option.some.inj hf
      subst r0
      subst hQ
      refine x_iret (post := (fun H H1 => H1 = H)) S hr hlocks rfl ?_ hL dX7_hirer_131
      exact rfl
    have hf := (if_neg c_20).symm.trans hf
    have tc_4 : p2.toInt ≠ 0 := fun h9 => c_4 (xti (h9.trans (by decide)))
    have tc_6 : p2.toInt ≠ 1 := fun h9 => c_6 (xti (h9.trans (by decide)))
    have tc_8 : p2.toInt ≠ 2 := fun h9 => c_8 (xti (h9.trans (by decide)))
    have tc_11 : p2.toInt ≠ 3 := fun h9 => c_11 (xti (h9.trans (by decide)))
    have tc_14 : p2.toInt ≠ 4 := fun h9 => c_14 (xti (h9.trans (by decide)))
    have tc_17 : p2.toInt ≠ 5 := fun h9 => c_17 (xti (h9.trans (by decide)))
    have tc_20 : p2.toInt ≠ 6 := fun h9 => c_20 (xti (h9.trans (by decide)))
    refine lv_tableOut (tgt := 132) hx hb dX7_hirer_15 (by omega) (by decide) ?_
    refine lv_ldc (v := (-2000000001)) hx hb hown (hts _ (xm 2 rfl)) dX7_hirer_132 ?_
    have q0 := Option.some.inj hf
    subst r0
    subst hQ
    refine x_iret (post := (fun H H1 => H1 = H)) S hr hlocks rfl ?_ hL dX7_hirer_134
    exact rfl
  · have hf := (if_pos c_3).symm.trans hf
    refine lv_ldc (v := (-2000000001)) hx hb hown (hts _ (xm 2 rfl)) dX7_hirer_11 ?_
    have q0 := Option.some.inj hf
    subst r0
    subst hQ
    refine x_iret (post := (fun H H1 => H1 = H)) S hr hlocks rfl ?_ hL dX7_hirer_13
    exact rfl
set_option maxRecDepth 100000 in
set_option maxHeartbeats 4000000 in
theorem c_X7_inOrder (l : Launch) (G : xG) (z : Nat) (a : Nat) (dv : xV) (v : xV) (p1 : Int32) (r0 : Int32)  (hf : f_X7_inOrder dv v p1 = some r0) : xM l yX7_inOrder wsX7_inOrder 4 97 G z [.ref a, .int p1] (fun H => PX G a 1 (hlE a) dv H ∧ PX G (a + 1) 37 (bkE G (a + 1)) v H) (some (.int r0)) (fun H H1 => H1 = H) := by
  refine xM.of (cc := cX7_inOrder) (maxL := 5) (ret := (some .int)) (by decide +kernel) rfl (Nat.le_of_ble_eq_true rfl) ?_
  intro p e s m args below meth c ls Q hQ S hr hlocks hK hP hl
  obtain ⟨hx, hb, hml, hown, hts⟩ := id S
  obtain ⟨h_hl, h_bk⟩ := hP
  have hL : ∀ q ∈ ([] : List Loc), z ≤ q.base := fun q h => absurd h List.not_mem_nil
  have hl : lv_has ls 5 [(0, .ref a), (1, .int p1)] := hl
  have in7 : ∀ w ∈ u_ws RX7 TX7 6, w ∈ wsX7_inOrder := fun _ h => List.mem_cons_of_mem _ (List.mem_append_left _ (List.mem_append_left _ (List.mem_append_right _ h)))
  unfold f_X7_inOrder at hf
  refine lv_iload_n hx hb dX7_inOrder_0 rfl (lv_at hl 1 rfl) ?_
  refine lv_if_ge (tgt := 7) hx hb dX7_inOrder_1 (by decide) (fun c_1 => ?_) (fun c_1 => ?_)
  · have hf := (if_pos c_1).symm.trans hf
    refine lv_iload_n hx hb dX7_inOrder_7 rfl (lv_at hl 1 rfl) ?_
    refine lv_istore_n (lv' := [(2, .int p1), (0, .ref a), (1, .int p1)]) hx hb dX7_inOrder_8 rfl hl (by decide) rfl (fun ls hl => ?_)
    refine lv_iconst (v := 0) hx hb dX7_inOrder_9 (by decide) ?_
    refine lv_istore_n (lv' := [(3, .int 0), (2, .int p1), (0, .ref a), (1, .int p1)]) hx hb dX7_inOrder_10 rfl hl (by decide) rfl (fun ls hl => ?_)
    have lp_11 : ∀ (K_11 : Int32 → Int32 → Option Int32), (∀ (x_2 : Int32) (x_3 : Int32) (locs : List Loc) (ls : Array Slot), (∀ q ∈ locs, z ≤ q.base) → lv_has ls 5 [] → K_11 x_2 x_3 = some r0 → W p l e { frames := 4, cells := 0, slots := 0, locals := 97 } s m args below meth c s.heap locs 0 0 Q (F0 m 55 ls [])) → ∀ (n : Nat) (x_2 : Int32) (x_3 : Int32) (locs : List Loc) (ls : Array Slot), (∀ q ∈ locs, z ≤ q.base) → lv_has ls 5 [(0, .ref a), (2, .int x_2), (3, .int x_3)] → L_X7_inOrder_11 K_11 v n x_2 x_3 = some r0 → W p l e { frames := 4, cells := 0, slots := 0, locals := 97 } s m args below meth c s.heap locs 0 0 Q (F0 m 11 ls []) := by
      intro K_11 hK_11 n
      induction n with
      | zero =>
        intro x_2 x_3 locs ls hL hl hf
        cases hf
      | succ n ih_11 =>
        intro x_2 x_3 locs ls hL hl hf
        unfold L_X7_inOrder_11 at hf
        refine lv_iload_n hx hb dX7_inOrder_11 rfl (lv_at hl 2 rfl) ?_
        refine lv_sipush (v := 364) hx hb dX7_inOrder_12 (by decide) ?_
        refine lv_icmp_gt (tgt := 55) hx hb dX7_inOrder_15 (by decide) (fun c_4 => ?_) (fun c_4 => ?_)
        · have hf := (if_pos c_4).symm.trans hf
          exact hK_11 x_2 x_3 _ _ hL (lv_sub hl [] rfl) hf
        · have hf := (if_neg c_4).symm.trans hf
          refine lv_aload_n hx hb dX7_inOrder_18 rfl (lv_at hl 0 rfl) ?_
          refine x_get S hK h_hl 0 (by decide) rfl rfl rfl in7 0 (by decide) (xm 2 rfl) (x := .ref (a + 1)) rfl dX7_inOrder_19 ?_
          refine lv_iload_n hx hb dX7_inOrder_22 rfl (lv_at hl 2 rfl) ?_
          obtain ⟨r_5, e_6, hf⟩ := xb_some hf
          refine x_callVi (As := [.int x_3]) (rest := []) S hK (c_X0_sessionsOn l G z (a + 1) v x_3 r_5 e_6) gX7_inOrder_X0_sessionsOn rfl 1 (by decide +kernel) rfl ⟨Nat.le_of_ble_eq_true rfl, Nat.le_of_ble_eq_true rfl⟩ h_bk 0 (by decide) rfl rfl rfl h_bk hl.1 rfl (Nat.le_of_ble_eq_true rfl) dX7_inOrder_23 hL ⟨Nat.zero_le _, Nat.zero_le _⟩ (fun H1 locs hL hpost => ?_)
          subst hpost
          refine lv_istore (lv' := [(4, .int r_5), (0, .ref a), (2, .int x_2), (3, .int x_3)]) hx hb dX7_inOrder_26 hl (by decide) rfl (fun ls hl => ?_)
          refine lv_iload_n hx hb dX7_inOrder_28 rfl (lv_at hl 2 rfl) ?_
          refine lv_iload hx hb dX7_inOrder_29 (lv_at hl 0 rfl) ?_
          refine lv_icmp_ge (tgt := 44) hx hb dX7_inOrder_31 (by decide) (fun c_7 => ?_) (fun c_7 => ?_)
          · have hf := (if_pos c_7).symm.trans hf
            refine lv_iload_n hx hb dX7_inOrder_44 rfl (lv_at hl 2 rfl) ?_
            refine lv_iload hx hb dX7_inOrder_45 (lv_at hl 0 rfl) ?_
            refine lv_isub hx hb dX7_inOrder_47 ?_
            obtain ⟨x_8, ex_8, hf⟩ := xl_some hf
            refine x_top ex_8 ?_
            refine lv_istore_n (lv' := [(2, .int x_8), (4, .int r_5), (0, .ref a), (3, .int x_3)]) hx hb dX7_inOrder_48 rfl hl (by decide) rfl (fun ls hl => ?_)
            obtain ⟨x_9, ex_9, hf⟩ := xl_some hf
            refine lv_iinc (v := x_9) (lv' := [(3, .int x_9), (2, .int x_8), (4, .int r_5), (0, .ref a)]) hx hb dX7_inOrder_49 hl (k := 3) rfl (by rw [ex_9]; rfl) (by decide) rfl (fun ls hl => ?_)
            refine lv_goto (tgt := 11) hx hb dX7_inOrder_52 (by decide) ?_
            exact ih_11 x_8 x_9 _ _ hL (lv_sub hl [3, 1, 0] rfl) hf
          · have hf := (if_neg c_7).symm.trans hf
            refine lv_aload_n hx hb dX7_inOrder_34 rfl (lv_at hl 1 rfl) ?_
            refine x_get S hK h_hl 0 (by decide) rfl rfl rfl in7 0 (by decide) (xm 2 rfl) (x := .ref (a + 1)) rfl dX7_inOrder_35 ?_
            refine lv_iload_n hx hb dX7_inOrder_38 rfl (lv_at hl 3 rfl) ?_
            refine lv_iload_n hx hb dX7_inOrder_39 rfl (lv_at hl 2 rfl) ?_
            obtain ⟨r_10, e_11, hf⟩ := xb_some hf
            refine x_callVi (As := [.int x_3, .int x_2]) (rest := []) S hK (c_X0_sessionInOrder l G z (a + 1) v x_3 x_2 r_10 e_11) gX7_inOrder_X0_sessionInOrder rfl 2 (by decide +kernel) rfl ⟨Nat.le_of_ble_eq_true rfl, Nat.le_of_ble_eq_true rfl⟩ h_bk 0 (by decide) rfl rfl rfl h_bk hl.1 rfl (Nat.le_of_ble_eq_true rfl) dX7_inOrder_40 hL ⟨Nat.zero_le _, Nat.zero_le _⟩ (fun H1 locs hL hpost => ?_)
            subst hpost
            have q0 := Option.some.inj hf
            subst r0
            subst hQ
            refine x_iret (post := (fun H H1 => H1 = H)) S hr hlocks rfl ?_ hL dX7_inOrder_43
            exact rfl
    refine lp_11 _ (fun x_12 x_13 locs ls hL hl hf => ?_) 100000 p1 0 _ _ hL (lv_sub hl [2, 1, 0] rfl) hf
    refine lv_ldc (v := (-2000000004)) hx hb hown (hts _ (xm 3 rfl)) dX7_inOrder_55 ?_
    have q0 := Option.some.inj hf
    subst r0
    subst hQ
    refine x_iret (post := (fun H H1 => H1 = H)) S hr hlocks rfl ?_ hL dX7_inOrder_57
    exact rfl
  · have hf := (if_neg c_1).symm.trans hf
    refine lv_ldc (v := (-2000000001)) hx hb hown (hts _ (xm 1 rfl)) dX7_inOrder_4 ?_
    have q0 := Option.some.inj hf
    subst r0
    subst hQ
    refine x_iret (post := (fun H H1 => H1 = H)) S hr hlocks rfl ?_ hL dX7_inOrder_6
    exact rfl
set_option maxRecDepth 100000 in
set_option maxHeartbeats 4000000 in
theorem c_X7_lend (l : Launch) (G : xG) (z : Nat) (a : Nat) (dv : xV) (v : xV) (hv : xV) (kv : Nat → xV) (p1 : Int32) (p2 : Int32) (r0 : Int32) (v' : xV) (hv' : xV) (kv' : Nat → xV) (hz_bk : z ≤ (a + 1)) (hz_hs : z ≤ (a + 38)) (hf : f_X7_lend dv v hv kv p1 p2 = some (r0, v', hv', kv')) : xM l yX7_lend wsX7_lend 4 104 G z [.ref a, .int p1, .int p2] (fun H => PX G a 1 (hlE a) dv H ∧ PX G (a + 1) 37 (bkE G (a + 1)) v H ∧ PX G (a + 38) 2 (hsE G (a + 38)) hv H ∧ HU G (a + 38) kv H) (some (.int r0)) (fun H H1 => PX G (a + 1) 37 (bkE G (a + 1)) v' H1 ∧ PX G (a + 38) 2 (hsE G (a + 38)) hv' H1 ∧ HU G (a + 38) kv' H1 ∧ XF (fun q => ((a + 1) ≤ q ∧ q < (a + 1) + 37) ∨ ((a + 38) ≤ q ∧ q < (a + 38) + 2) ∨ ((a + 38) + 2 ≤ q ∧ q < (a + 38) + 150)) H H1) := by
  refine xM.of (cc := cX7_lend) (maxL := 6) (ret := (some .int)) (by decide +kernel) rfl (Nat.le_of_ble_eq_true rfl) ?_
  intro p e s m args below meth c ls Q hQ S hr hlocks hK hP hl
  obtain ⟨hx, hb, hml, hown, hts⟩ := id S
  obtain ⟨h_hl, h_bk, h_hs, h_hu⟩ := hP
  have hL : ∀ q ∈ ([] : List Loc), z ≤ q.base := fun q h => absurd h List.not_mem_nil
  have hF : XF (fun q => ((a + 1) ≤ q ∧ q < (a + 1) + 37) ∨ ((a + 38) ≤ q ∧ q < (a + 38) + 2) ∨ ((a + 38) + 2 ≤ q ∧ q < (a + 38) + 150)) s.heap s.heap := XF.rf
  have hl : lv_has ls 6 [(0, .ref a), (1, .int p1), (2, .int p2)] := hl
  have in0 : ∀ w ∈ u_ws RX0 TX0 9, w ∈ wsX7_lend := fun _ h => List.mem_cons_of_mem _ (List.mem_append_left _ (List.mem_append_right _ h))
  have in1 : ∀ w ∈ u_ws RX1 TX1 15, w ∈ wsX7_lend := fun _ h => List.mem_cons_of_mem _ (List.mem_append_left _ (List.mem_append_left _ (List.mem_append_right _ h)))
  have in3 : ∀ w ∈ u_ws RX3 TX3 3, w ∈ wsX7_lend := fun _ h => List.mem_cons_of_mem _ (List.mem_append_left _ (List.mem_append_left _ (List.mem_append_left _ (List.mem_append_right _ h))))
  have in7 : ∀ w ∈ u_ws RX7 TX7 6, w ∈ wsX7_lend := fun _ h => List.mem_cons_of_mem _ (List.mem_append_left _ (List.mem_append_left _ (List.mem_append_left _ (List.mem_append_left _ (List.mem_append_right _ h)))))
  unfold f_X7_lend at hf
  refine lv_aload_n hx hb dX7_lend_0 rfl (lv_at hl 0 rfl) ?_
  refine x_get S hK h_hl 0 (by decide) rfl rfl rfl in7 0 (by decide) (xm 1 rfl) (x := .ref (a + 1)) rfl dX7_lend_1 ?_
  refine lv_iload_n hx hb dX7_lend_4 rfl (lv_at hl 1 rfl) ?_
  obtain ⟨o_1, e_2, hf⟩ := xb_some hf
  refine x_callVi (As := [.int p1]) (rest := []) S hK (c_X0_keyAt l G z (a + 1) v p1 o_1 e_2) gX7_lend_X0_keyAt rfl 1 (by decide +kernel) rfl ⟨Nat.le_of_ble_eq_true rfl, Nat.le_of_ble_eq_true rfl⟩ h_bk 0 (by decide) rfl rfl rfl h_bk hl.1 rfl (Nat.le_of_ble_eq_true rfl) dX7_lend_5 hL ⟨Nat.zero_le _, Nat.zero_le _⟩ (fun H1 locs hL hpost => ?_)
  subst hpost
  obtain _ | i_3 := o_1
  · have hf := (xo_n _ _).symm.trans hf
    show W _ _ _ _ _ _ _ _ _ _ _ _ _ _ _ (F0 _ _ _ (.null :: _))
    refine lv_astore_nN (lv' := [(3, .null), (0, .ref a), (1, .int p1), (2, .int p2)]) hx hb dX7_lend_8 rfl hl (by decide) rfl (fun ls hl => ?_)
    refine lv_aload_n hx hb dX7_lend_9 rfl (lv_at hl 1 rfl) ?_
    refine x_get S hK h_hl 0 (by decide) rfl rfl rfl in7 0 (by decide) (xm 1 rfl) (x := .ref (a + 1)) rfl dX7_lend_10 ?_
    refine lv_iload_n hx hb dX7_lend_13 rfl (lv_at hl 3 rfl) ?_
    obtain ⟨o_4, e_5, hf⟩ := xb_some hf
    refine x_callVi (As := [.int p2]) (rest := []) S hK (c_X0_hireAt l G z (a + 1) v p2 o_4 e_5) gX7_lend_X0_hireAt rfl 1 (by decide +kernel) rfl ⟨Nat.le_of_ble_eq_true rfl, Nat.le_of_ble_eq_true rfl⟩ h_bk 0 (by decide) rfl rfl rfl h_bk hl.1 rfl (Nat.le_of_ble_eq_true rfl) dX7_lend_14 hL ⟨Nat.zero_le _, Nat.zero_le _⟩ (fun H1 locs hL hpost => ?_)
    subst hpost
    obtain _ | i_6 := o_4
    · have hf := (xo_n _ _).symm.trans hf
      show W _ _ _ _ _ _ _ _ _ _ _ _ _ _ _ (F0 _ _ _ (.null :: _))
      refine lv_astoreN (lv' := [(4, .null), (3, .null), (0, .ref a), (1, .int p1), (2, .int p2)]) hx hb dX7_lend_17 hl (by decide) rfl (fun ls hl => ?_)
      refine lv_aload_nN hx hb dX7_lend_19 rfl (lv_at hl 1 rfl) ?_
      refine lv_ifnullN (tgt := 28) hx hb dX7_lend_20 (by decide) ?_
      refine lv_ldc (v := (-2000000001)) hx hb hown (hts _ (xm 2 rfl)) dX7_lend_28 ?_
      obtain ⟨q0, qq0⟩ := Prod.mk.inj (Option.some.inj hf)
      obtain ⟨q1, qq1⟩ := Prod.mk.inj (qq0)
      obtain ⟨q2, qq2⟩ := Prod.mk.inj (qq1)
      have q3 := qq2
      subst r0
      subst v'
      subst hv'
      subst kv'
      subst hQ
      refine x_iret (post := (fun H H1 => PX G (a + 1) 37 (bkE G (a + 1)) v H1 ∧ PX G (a + 38) 2 (hsE G (a + 38)) hv H1 ∧ HU G (a + 38) kv H1 ∧ XF (fun q => ((a + 1) ≤ q ∧ q < (a + 1) + 37) ∨ ((a + 38) ≤ q ∧ q < (a + 38) + 2) ∨ ((a + 38) + 2 ≤ q ∧ q < (a + 38) + 150)) H H1)) S hr hlocks rfl ?_ hL dX7_lend_30
      exact ⟨h_bk, h_hs, h_hu, hF⟩
    · have hf := (xo_s _ _ _).symm.trans hf
      obtain ⟨hi_i_6, hf⟩ := xg_some hf
      show W _ _ _ _ _ _ _ _ _ _ _ _ _ _ _ (F0 _ _ _ (.ref ((a + 1) + (6 + 2 * i_6)) :: _))
      refine lv_astore (lv' := [(4, .ref ((a + 1) + (6 + 2 * i_6))), (3, .null), (0, .ref a), (1, .int p1), (2, .int p2)]) hx hb dX7_lend_17 hl (by decide) rfl (fun ls hl => ?_)
      refine lv_aload_nN hx hb dX7_lend_19 rfl (lv_at hl 1 rfl) ?_
      refine lv_ifnullN (tgt := 28) hx hb dX7_lend_20 (by decide) ?_
      refine lv_ldc (v := (-2000000001)) hx hb hown (hts _ (xm 2 rfl)) dX7_lend_28 ?_
      obtain ⟨q0, qq0⟩ := Prod.mk.inj (Option.some.inj hf)
      obtain ⟨q1, qq1⟩ := Prod.mk.inj (qq0)
      obtain ⟨q2, qq2⟩ := Prod.mk.inj (qq1)
      have q3 := qq2
      subst r0
      subst v'
      subst hv'
      subst kv'
      subst hQ
      refine x_iret (post := (fun H H1 => PX G (a + 1) 37 (bkE G (a + 1)) v H1 ∧ PX G (a + 38) 2 (hsE G (a + 38)) hv H1 ∧ HU G (a + 38) kv H1 ∧ XF (fun q => ((a + 1) ≤ q ∧ q < (a + 1) + 37) ∨ ((a + 38) ≤ q ∧ q < (a + 38) + 2) ∨ ((a + 38) + 2 ≤ q ∧ q < (a + 38) + 150)) H H1)) S hr hlocks rfl ?_ hL dX7_lend_30
      exact ⟨h_bk, h_hs, h_hu, hF⟩
  · have hf := (xo_s _ _ _).symm.trans hf
    obtain ⟨hi_i_3, hf⟩ := xg_some hf
    show W _ _ _ _ _ _ _ _ _ _ _ _ _ _ _ (F0 _ _ _ (.ref ((a + 1) + (31 + i_3)) :: _))
    refine lv_astore_n (lv' := [(3, .ref ((a + 1) + (31 + i_3))), (0, .ref a), (1, .int p1), (2, .int p2)]) hx hb dX7_lend_8 rfl hl (by decide) rfl (fun ls hl => ?_)
    refine lv_aload_n hx hb dX7_lend_9 rfl (lv_at hl 1 rfl) ?_
    refine x_get S hK h_hl 0 (by decide) rfl rfl rfl in7 0 (by decide) (xm 1 rfl) (x := .ref (a + 1)) rfl dX7_lend_10 ?_
    refine lv_iload_n hx hb dX7_lend_13 rfl (lv_at hl 3 rfl) ?_
    obtain ⟨o_7, e_8, hf⟩ := xb_some hf
    refine x_callVi (As := [.int p2]) (rest := []) S hK (c_X0_hireAt l G z (a + 1) v p2 o_7 e_8) gX7_lend_X0_hireAt rfl 1 (by decide +kernel) rfl ⟨Nat.le_of_ble_eq_true rfl, Nat.le_of_ble_eq_true rfl⟩ h_bk 0 (by decide) rfl rfl rfl h_bk hl.1 rfl (Nat.le_of_ble_eq_true rfl) dX7_lend_14 hL ⟨Nat.zero_le _, Nat.zero_le _⟩ (fun H1 locs hL hpost => ?_)
    subst hpost
    obtain _ | i_9 := o_7
    · have hf := (xo_n _ _).symm.trans hf
      show W _ _ _ _ _ _ _ _ _ _ _ _ _ _ _ (F0 _ _ _ (.null :: _))
      refine lv_astoreN (lv' := [(4, .null), (3, .ref ((a + 1) + (31 + i_3))), (0, .ref a), (1, .int p1), (2, .int p2)]) hx hb dX7_lend_17 hl (by decide) rfl (fun ls hl => ?_)
      refine lv_aload_n hx hb dX7_lend_19 rfl (lv_at hl 1 rfl) ?_
      refine lv_ifnull hx hb dX7_lend_20 ?_
      refine lv_aloadN hx hb dX7_lend_23 (lv_at hl 0 rfl) ?_
      refine lv_ifnonnullN hx hb dX7_lend_25 ?_
      refine lv_ldc (v := (-2000000001)) hx hb hown (hts _ (xm 2 rfl)) dX7_lend_28 ?_
      obtain ⟨q0, qq0⟩ := Prod.mk.inj (Option.some.inj hf)
      obtain ⟨q1, qq1⟩ := Prod.mk.inj (qq0)
      obtain ⟨q2, qq2⟩ := Prod.mk.inj (qq1)
      have q3 := qq2
      subst r0
      subst v'
      subst hv'
      subst kv'
      subst hQ
      refine x_iret (post := (fun H H1 => PX G (a + 1) 37 (bkE G (a + 1)) v H1 ∧ PX G (a + 38) 2 (hsE G (a + 38)) hv H1 ∧ HU G (a + 38) kv H1 ∧ XF (fun q => ((a + 1) ≤ q ∧ q < (a + 1) + 37) ∨ ((a + 38) ≤ q ∧ q < (a + 38) + 2) ∨ ((a + 38) + 2 ≤ q ∧ q < (a + 38) + 150)) H H1)) S hr hlocks rfl ?_ hL dX7_lend_30
      exact ⟨h_bk, h_hs, h_hu, hF⟩
    · have hf := (xo_s _ _ _).symm.trans hf
      obtain ⟨hi_i_9, hf⟩ := xg_some hf
      show W _ _ _ _ _ _ _ _ _ _ _ _ _ _ _ (F0 _ _ _ (.ref ((a + 1) + (6 + 2 * i_9)) :: _))
      refine lv_astore (lv' := [(4, .ref ((a + 1) + (6 + 2 * i_9))), (3, .ref ((a + 1) + (31 + i_3))), (0, .ref a), (1, .int p1), (2, .int p2)]) hx hb dX7_lend_17 hl (by decide) rfl (fun ls hl => ?_)
      refine lv_aload_n hx hb dX7_lend_19 rfl (lv_at hl 1 rfl) ?_
      refine lv_ifnull hx hb dX7_lend_20 ?_
      refine lv_aload hx hb dX7_lend_23 (lv_at hl 0 rfl) ?_
      refine lv_ifnonnull (tgt := 31) hx hb dX7_lend_25 (by decide) ?_
      refine lv_aload hx hb dX7_lend_31 (lv_at hl 0 rfl) ?_
      obtain ⟨r_10, e_11, hf⟩ := xb_some hf
      refine x_callVi (As := []) (rest := []) S hK (c_X1_lastPlannedDay l G z (a + 1) v i_9 r_10 hi_i_9 e_11) gX7_lend_X1_lastPlannedDay rfl 0 (by decide +kernel) rfl ⟨Nat.le_of_ble_eq_true rfl, Nat.le_of_ble_eq_true rfl⟩ h_bk (6 + 2 * i_9) (by omega) rfl (bkE_hire G (a + 1) i_9 hi_i_9 _) rfl h_bk hl.1 rfl (Nat.le_of_ble_eq_true rfl) dX7_lend_33 hL ⟨Nat.zero_le _, Nat.zero_le _⟩ (fun H1 locs hL hpost => ?_)
      subst hpost
      refine lv_istore (lv' := [(5, .int r_10), (4, .ref ((a + 1) + (6 + 2 * i_9))), (3, .ref ((a + 1) + (31 + i_3))), (0, .ref a), (1, .int p1), (2, .int p2)]) hx hb dX7_lend_36 hl (by decide) rfl (fun ls hl => ?_)
      refine lv_aload_n hx hb dX7_lend_38 rfl (lv_at hl 2 rfl) ?_
      refine x_get S hK h_bk (31 + i_3) (by omega) rfl (bkE_key G (a + 1) i_3 _) rfl in3 1 (by decide) (xm 3 rfl) (x := .int (v (31 + i_3) 1)) rfl dX7_lend_39 ?_
      refine lv_iconst (v := (-1)) hx hb dX7_lend_42 (by decide) ?_
      refine lv_icmp_ne (tgt := 67) hx hb dX7_lend_43 (by decide) (fun c_12 => ?_) (fun c_12 => ?_)
      · have hf := (if_neg c_12).symm.trans hf
        refine lv_ldc (v := (-2000000002)) hx hb hown (hts _ (xm 6 rfl)) dX7_lend_67 ?_
        obtain ⟨q0, qq0⟩ := Prod.mk.inj (Option.some.inj hf)
        obtain ⟨q1, qq1⟩ := Prod.mk.inj (qq0)
        obtain ⟨q2, qq2⟩ := Prod.mk.inj (qq1)
        have q3 := qq2
        subst r0
        subst v'
        subst hv'
        subst kv'
        subst hQ
        refine x_iret (post := (fun H H1 => PX G (a + 1) 37 (bkE G (a + 1)) v H1 ∧ PX G (a + 38) 2 (hsE G (a + 38)) hv H1 ∧ HU G (a + 38) kv H1 ∧ XF (fun q => ((a + 1) ≤ q ∧ q < (a + 1) + 37) ∨ ((a + 38) ≤ q ∧ q < (a + 38) + 2) ∨ ((a + 38) + 2 ≤ q ∧ q < (a + 38) + 150)) H H1)) S hr hlocks rfl ?_ hL dX7_lend_69
        exact ⟨h_bk, h_hs, h_hu, hF⟩
      · have hf := (if_pos c_12).symm.trans hf
        refine lv_iload hx hb dX7_lend_46 (lv_at hl 0 rfl) ?_
        refine lv_iconst (v := (-1)) hx hb dX7_lend_48 (by decide) ?_
        refine lv_icmp_eq (tgt := 67) hx hb dX7_lend_49 (by decide) (fun c_13 => ?_) (fun c_13 => ?_)
        · have hf := (if_pos c_13).symm.trans hf
          refine lv_ldc (v := (-2000000002)) hx hb hown (hts _ (xm 6 rfl)) dX7_lend_67 ?_
          obtain ⟨q0, qq0⟩ := Prod.mk.inj (Option.some.inj hf)
          obtain ⟨q1, qq1⟩ := Prod.mk.inj (qq0)
          obtain ⟨q2, qq2⟩ := Prod.mk.inj (qq1)
          have q3 := qq2
          subst r0
          subst v'
          subst hv'
          subst kv'
          subst hQ
          refine x_iret (post := (fun H H1 => PX G (a + 1) 37 (bkE G (a + 1)) v H1 ∧ PX G (a + 38) 2 (hsE G (a + 38)) hv H1 ∧ HU G (a + 38) kv H1 ∧ XF (fun q => ((a + 1) ≤ q ∧ q < (a + 1) + 37) ∨ ((a + 38) ≤ q ∧ q < (a + 38) + 2) ∨ ((a + 38) + 2 ≤ q ∧ q < (a + 38) + 150)) H H1)) S hr hlocks rfl ?_ hL dX7_lend_69
          exact ⟨h_bk, h_hs, h_hu, hF⟩
        · have hf := (if_neg c_13).symm.trans hf
          refine lv_aload hx hb dX7_lend_52 (lv_at hl 1 rfl) ?_
          refine x_get S hK h_bk (6 + 2 * i_9) (by omega) rfl (bkE_hire G (a + 1) i_9 hi_i_9 _) rfl in1 2 (by decide) (xm 4 rfl) (x := .int (v (6 + 2 * i_9) 2)) rfl dX7_lend_54 ?_
          refine lv_aload_n hx hb dX7_lend_57 rfl (lv_at hl 2 rfl) ?_
          refine x_get S hK h_bk (31 + i_3) (by omega) rfl (bkE_key G (a + 1) i_3 _) rfl in3 0 (by decide) (xm 5 rfl) (x := .int (v (31 + i_3) 0)) rfl dX7_lend_58 ?_
          refine lv_ishr hx hb dX7_lend_61 ?_
          refine lv_iconst (v := 1) hx hb dX7_lend_62 (by decide) ?_
          refine lv_iand hx hb dX7_lend_63 ?_
          refine lv_if_ne (tgt := 70) hx hb dX7_lend_64 (by decide) (fun c_14 => ?_) (fun c_14 => ?_)
          · have hf := (if_neg c_14).symm.trans hf
            refine lv_aload_n hx hb dX7_lend_70 rfl (lv_at hl 3 rfl) ?_
            refine x_get S hK h_hl 0 (by decide) rfl rfl rfl in7 1 (by decide) (xm 7 rfl) (x := .ref (a + 38)) rfl dX7_lend_71 ?_
            refine lv_aload_n hx hb dX7_lend_74 rfl (lv_at hl 3 rfl) ?_
            refine x_get S hK h_hl 0 (by decide) rfl rfl rfl in7 0 (by decide) (xm 1 rfl) (x := .ref (a + 1)) rfl dX7_lend_75 ?_
            obtain ⟨hv_15, kv_16, e_17, hf⟩ := xb2_some hf
            refine x_callVv (As := [.ref (a + 1)]) (rest := []) S hK (c_X2_save l G z (a + 38) (a + 1) hv kv v hv_15 kv_16 (by omega) (by omega) (by omega) e_17) gX7_lend_X2_save rfl 1 (by decide +kernel) rfl ⟨Nat.le_of_ble_eq_true rfl, Nat.le_of_ble_eq_true rfl⟩ h_hs 0 (by decide) rfl rfl rfl ⟨h_hs, h_hu, h_bk⟩ hl.1 rfl (Nat.le_of_ble_eq_true rfl) dX7_lend_78 hL ⟨Nat.zero_le _, Nat.zero_le _⟩ (fun H1 locs hL hpost => ?_)
            obtain ⟨n_hs, n_hu, hfr⟩ := hpost
            have h_hs := n_hs
            have h_hu := n_hu
            have h_hl := h_hl.kept hfr (fun q h1 h2 h3 => by (try dsimp only at h3); omega)
            have h_bk := h_bk.kept hfr (fun q h1 h2 h3 => by (try dsimp only at h3); omega)
            have hF := hF.step hfr (fun q h => by (try dsimp only at h ⊢); omega)
            refine lv_aload_n hx hb dX7_lend_81 rfl (lv_at hl 2 rfl) ?_
            refine lv_iload_n hx hb dX7_lend_82 rfl (lv_at hl 5 rfl) ?_
            obtain ⟨v_18, ev_18, hf⟩ := xl_some hf
            refine x_put S hK h_bk hz_bk hL (31 + i_3) (by omega) rfl (bkE_key G (a + 1) i_3 _) rfl in3 tyX3 tyX3_ok nmX3 1 (by decide) (xm 3 rfl) rfl (vp_nar_int _) rfl (Nat.le_of_ble_eq_true rfl) (bkE_key G (a + 1) i_3 _) ev_18 dX7_lend_83 (fun H1 locs hL h_bk hfr => ?_)
            have h_hl := h_hl.kept hfr (fun q h1 h2 h3 => by (try dsimp only at h3); omega)
            have h_hs := h_hs.kept hfr (fun q h1 h2 h3 => by (try dsimp only at h3); omega)
            have h_hu := h_hu.kept hfr (fun q h1 h2 h3 => by (try dsimp only at h3); omega)
            have hF := hF.step hfr (fun q h => by (try dsimp only at h ⊢); omega)
            refine lv_aload_n hx hb dX7_lend_86 rfl (lv_at hl 2 rfl) ?_
            refine lv_iload hx hb dX7_lend_87 (lv_at hl 0 rfl) ?_
            refine lv_aload_n hx hb dX7_lend_89 rfl (lv_at hl 3 rfl) ?_
            refine x_get S hK h_hl 0 (by decide) rfl rfl rfl in7 0 (by decide) (xm 1 rfl) (x := .ref (a + 1)) rfl dX7_lend_90 ?_
            refine x_get S hK h_bk 0 (by decide) rfl rfl rfl in0 3 (by decide) (xm 8 rfl) (x := .ref ((a + 1) + 1)) rfl dX7_lend_93 ?_
            refine lv_bipush (v := 7) hx hb dX7_lend_96 (by decide) ?_
            refine x_iald S hK h_bk 1 (by decide) rfl rfl 7 (by decide) (by decide) dX7_lend_98 ?_
            refine lv_iadd hx hb dX7_lend_99 ?_
            obtain ⟨v_19, ev_19, hf⟩ := xl_some hf
            refine x_put S hK h_bk hz_bk hL (31 + i_3) (by omega) rfl (bkE_key G (a + 1) i_3 _) rfl in3 tyX3 tyX3_ok nmX3 2 (by decide) (xm 9 rfl) rfl (vp_nar_int _) rfl (Nat.le_of_ble_eq_true rfl) (bkE_key G (a + 1) i_3 _) ev_19 dX7_lend_100 (fun H1 locs hL h_bk hfr => ?_)
            have h_hl := h_hl.kept hfr (fun q h1 h2 h3 => by (try dsimp only at h3); omega)
            have h_hs := h_hs.kept hfr (fun q h1 h2 h3 => by (try dsimp only at h3); omega)
            have h_hu := h_hu.kept hfr (fun q h1 h2 h3 => by (try dsimp only at h3); omega)
            have hF := hF.step hfr (fun q h => by (try dsimp only at h ⊢); omega)
            refine lv_aload_n hx hb dX7_lend_103 rfl (lv_at hl 2 rfl) ?_
            refine x_get S hK h_bk (31 + i_3) (by omega) rfl (bkE_key G (a + 1) i_3 _) rfl in3 2 (by decide) (xm 9 rfl) (x := .int (v_19 (31 + i_3) 2)) rfl dX7_lend_104 ?_
            obtain ⟨q0, qq0⟩ := Prod.mk.inj (Option.some.inj hf)
            obtain ⟨q1, qq1⟩ := Prod.mk.inj (qq0)
            obtain ⟨q2, qq2⟩ := Prod.mk.inj (qq1)
            have q3 := qq2
            subst r0
            subst v'
            subst hv'
            subst kv'
            subst hQ
            refine x_iret (post := (fun H H1 => PX G (a + 1) 37 (bkE G (a + 1)) v_19 H1 ∧ PX G (a + 38) 2 (hsE G (a + 38)) hv_15 H1 ∧ HU G (a + 38) kv_16 H1 ∧ XF (fun q => ((a + 1) ≤ q ∧ q < (a + 1) + 37) ∨ ((a + 38) ≤ q ∧ q < (a + 38) + 2) ∨ ((a + 38) + 2 ≤ q ∧ q < (a + 38) + 150)) H H1)) S hr hlocks rfl ?_ hL dX7_lend_107
            exact ⟨h_bk, h_hs, h_hu, hF⟩
          · have hf := (if_pos c_14).symm.trans hf
            refine lv_ldc (v := (-2000000002)) hx hb hown (hts _ (xm 6 rfl)) dX7_lend_67 ?_
            obtain ⟨q0, qq0⟩ := Prod.mk.inj (Option.some.inj hf)
            obtain ⟨q1, qq1⟩ := Prod.mk.inj (qq0)
            obtain ⟨q2, qq2⟩ := Prod.mk.inj (qq1)
            have q3 := qq2
            subst r0
            subst v'
            subst hv'
            subst kv'
            subst hQ
            refine x_iret (post := (fun H H1 => PX G (a + 1) 37 (bkE G (a + 1)) v H1 ∧ PX G (a + 38) 2 (hsE G (a + 38)) hv H1 ∧ HU G (a + 38) kv H1 ∧ XF (fun q => ((a + 1) ≤ q ∧ q < (a + 1) + 37) ∨ ((a + 38) ≤ q ∧ q < (a + 38) + 2) ∨ ((a + 38) + 2 ≤ q ∧ q < (a + 38) + 150)) H H1)) S hr hlocks rfl ?_ hL dX7_lend_69
            exact ⟨h_bk, h_hs, h_hu, hF⟩
set_option maxRecDepth 100000 in
set_option maxHeartbeats 4000000 in
theorem c_X7_pass (l : Launch) (G : xG) (z : Nat) (a : Nat) (dv : xV) (v : xV) (hv : xV) (kv : Nat → xV) (p1 : Int32) (r0 : Int32) (v' : xV) (hv' : xV) (kv' : Nat → xV) (hz_bk : z ≤ (a + 1)) (hz_hs : z ≤ (a + 38)) (hf : f_X7_pass dv v hv kv p1 = some (r0, v', hv', kv')) : xM l yX7_pass wsX7_pass 5 119 G z [.ref a, .int p1] (fun H => PX G a 1 (hlE a) dv H ∧ PX G (a + 1) 37 (bkE G (a + 1)) v H ∧ PX G (a + 38) 2 (hsE G (a + 38)) hv H ∧ HU G (a + 38) kv H) (some (.int r0)) (fun H H1 => PX G (a + 1) 37 (bkE G (a + 1)) v' H1 ∧ PX G (a + 38) 2 (hsE G (a + 38)) hv' H1 ∧ HU G (a + 38) kv' H1 ∧ XF (fun q => ((a + 1) ≤ q ∧ q < (a + 1) + 37) ∨ ((a + 38) ≤ q ∧ q < (a + 38) + 2) ∨ ((a + 38) + 2 ≤ q ∧ q < (a + 38) + 150)) H H1) := by
  refine xM.of (cc := cX7_pass) (maxL := 4) (ret := (some .int)) (by decide +kernel) rfl (Nat.le_of_ble_eq_true rfl) ?_
  intro p e s m args below meth c ls Q hQ S hr hlocks hK hP hl
  obtain ⟨hx, hb, hml, hown, hts⟩ := id S
  obtain ⟨h_hl, h_bk, h_hs, h_hu⟩ := hP
  have hL : ∀ q ∈ ([] : List Loc), z ≤ q.base := fun q h => absurd h List.not_mem_nil
  have hF : XF (fun q => ((a + 1) ≤ q ∧ q < (a + 1) + 37) ∨ ((a + 38) ≤ q ∧ q < (a + 38) + 2) ∨ ((a + 38) + 2 ≤ q ∧ q < (a + 38) + 150)) s.heap s.heap := XF.rf
  have hl : lv_has ls 4 [(0, .ref a), (1, .int p1)] := hl
  have in0 : ∀ w ∈ u_ws RX0 TX0 9, w ∈ wsX7_pass := fun _ h => List.mem_cons_of_mem _ (List.mem_append_left _ (List.mem_append_left _ (List.mem_append_left _ (List.mem_append_right _ h))))
  have in7 : ∀ w ∈ u_ws RX7 TX7 6, w ∈ wsX7_pass := fun _ h => List.mem_cons_of_mem _ (List.mem_append_left _ (List.mem_append_left _ (List.mem_append_left _ (List.mem_append_left _ (List.mem_append_right _ h)))))
  unfold f_X7_pass at hf
  refine lv_iload_n hx hb dX7_pass_0 rfl (lv_at hl 1 rfl) ?_
  refine lv_iconst (v := 1) hx hb dX7_pass_1 (by decide) ?_
  refine lv_icmp_lt (tgt := 11) hx hb dX7_pass_2 (by decide) (fun c_1 => ?_) (fun c_1 => ?_)
  · have hf := (if_pos c_1).symm.trans hf
    refine lv_ldc (v := (-2000000001)) hx hb hown (hts _ (xm 1 rfl)) dX7_pass_11 ?_
    obtain ⟨q0, qq0⟩ := Prod.mk.inj (Option.some.inj hf)
    obtain ⟨q1, qq1⟩ := Prod.mk.inj (qq0)
    obtain ⟨q2, qq2⟩ := Prod.mk.inj (qq1)
    have q3 := qq2
    subst r0
    subst v'
    subst hv'
    subst kv'
    subst hQ
    refine x_iret (post := (fun H H1 => PX G (a + 1) 37 (bkE G (a + 1)) v H1 ∧ PX G (a + 38) 2 (hsE G (a + 38)) hv H1 ∧ HU G (a + 38) kv H1 ∧ XF (fun q => ((a + 1) ≤ q ∧ q < (a + 1) + 37) ∨ ((a + 38) ≤ q ∧ q < (a + 38) + 2) ∨ ((a + 38) + 2 ≤ q ∧ q < (a + 38) + 150)) H H1)) S hr hlocks rfl ?_ hL dX7_pass_13
    exact ⟨h_bk, h_hs, h_hu, hF⟩
  · have hf := (if_neg c_1).symm.trans hf
    refine lv_iload_n hx hb dX7_pass_5 rfl (lv_at hl 1 rfl) ?_
    refine lv_bipush (v := 60) hx hb dX7_pass_6 (by decide) ?_
    refine lv_icmp_le (tgt := 14) hx hb dX7_pass_8 (by decide) (fun c_2 => ?_) (fun c_2 => ?_)
    · have hf := (if_pos c_2).symm.trans hf
      refine lv_aload_n hx hb dX7_pass_14 rfl (lv_at hl 0 rfl) ?_
      refine x_get S hK h_hl 0 (by decide) rfl rfl rfl in7 0 (by decide) (xm 2 rfl) (x := .ref (a + 1)) rfl dX7_pass_15 ?_
      refine x_get S hK h_bk 0 (by decide) rfl rfl rfl in0 0 (by decide) (xm 3 rfl) (x := .int (v 0 0)) rfl dX7_pass_18 ?_
      refine lv_iload_n hx hb dX7_pass_21 rfl (lv_at hl 1 rfl) ?_
      refine lv_iadd hx hb dX7_pass_22 ?_
      refine lv_sipush (v := 400) hx hb dX7_pass_23 (by decide) ?_
      refine lv_icmp_le (tgt := 32) hx hb dX7_pass_26 (by decide) (fun c_3 => ?_) (fun c_3 => ?_)
      · have hf := (if_pos c_3).symm.trans hf
        refine lv_aload_n hx hb dX7_pass_32 rfl (lv_at hl 0 rfl) ?_
        refine x_get S hK h_hl 0 (by decide) rfl rfl rfl in7 1 (by decide) (xm 5 rfl) (x := .ref (a + 38)) rfl dX7_pass_33 ?_
        refine lv_aload_n hx hb dX7_pass_36 rfl (lv_at hl 0 rfl) ?_
        refine x_get S hK h_hl 0 (by decide) rfl rfl rfl in7 0 (by decide) (xm 2 rfl) (x := .ref (a + 1)) rfl dX7_pass_37 ?_
        obtain ⟨hv_4, kv_5, e_6, hf⟩ := xb2_some hf
        refine x_callVv (As := [.ref (a + 1)]) (rest := []) S hK (c_X2_save l G z (a + 38) (a + 1) hv kv v hv_4 kv_5 (by omega) (by omega) (by omega) e_6) gX7_pass_X2_save rfl 1 (by decide +kernel) rfl ⟨Nat.le_of_ble_eq_true rfl, Nat.le_of_ble_eq_true rfl⟩ h_hs 0 (by decide) rfl rfl rfl ⟨h_hs, h_hu, h_bk⟩ hl.1 rfl (Nat.le_of_ble_eq_true rfl) dX7_pass_40 hL ⟨Nat.zero_le _, Nat.zero_le _⟩ (fun H1 locs hL hpost => ?_)
        obtain ⟨n_hs, n_hu, hfr⟩ := hpost
        have h_hs := n_hs
        have h_hu := n_hu
        have h_hl := h_hl.kept hfr (fun q h1 h2 h3 => by (try dsimp only at h3); omega)
        have h_bk := h_bk.kept hfr (fun q h1 h2 h3 => by (try dsimp only at h3); omega)
        have hF := hF.step hfr (fun q h => by (try dsimp only at h ⊢); omega)
        refine lv_iconst (v := 0) hx hb dX7_pass_43 (by decide) ?_
        refine lv_istore_n (lv' := [(2, .int 0), (0, .ref a), (1, .int p1)]) hx hb dX7_pass_44 rfl hl (by decide) rfl (fun ls hl => ?_)
        refine lv_iconst (v := 0) hx hb dX7_pass_45 (by decide) ?_
        refine lv_istore_n (lv' := [(3, .int 0), (2, .int 0), (0, .ref a), (1, .int p1)]) hx hb dX7_pass_46 rfl hl (by decide) rfl (fun ls hl => ?_)
        have lp_47 : ∀ (K_47 : Int32 → Int32 → xV → Option (Int32 × xV × xV × (Nat → xV))), (∀ (x_7 : Int32) (x_8 : Int32) (v_9 : xV) (H : Heap) (locs : List Loc) (ls : Array Slot), (∀ q ∈ locs, z ≤ q.base) → PX G a 1 (hlE a) dv H → PX G (a + 1) 37 (bkE G (a + 1)) v_9 H → PX G (a + 38) 2 (hsE G (a + 38)) hv_4 H → HU G (a + 38) kv_5 H → XF (fun q => ((a + 1) ≤ q ∧ q < (a + 1) + 37) ∨ ((a + 38) ≤ q ∧ q < (a + 38) + 2) ∨ ((a + 38) + 2 ≤ q ∧ q < (a + 38) + 150)) s.heap H → lv_has ls 4 [(2, .int x_7)] → K_47 x_7 x_8 v_9 = some (r0, v', hv', kv') → W p l e { frames := 5, cells := 0, slots := 0, locals := 119 } s m args below meth c H locs 0 0 Q (F0 m 68 ls [])) → ∀ (n : Nat) (x_7 : Int32) (x_8 : Int32) (v_9 : xV) (H : Heap) (locs : List Loc) (ls : Array Slot), (∀ q ∈ locs, z ≤ q.base) → PX G a 1 (hlE a) dv H → PX G (a + 1) 37 (bkE G (a + 1)) v_9 H → PX G (a + 38) 2 (hsE G (a + 38)) hv_4 H → HU G (a + 38) kv_5 H → XF (fun q => ((a + 1) ≤ q ∧ q < (a + 1) + 37) ∨ ((a + 38) ≤ q ∧ q < (a + 38) + 2) ∨ ((a + 38) + 2 ≤ q ∧ q < (a + 38) + 150)) s.heap H → lv_has ls 4 [(0, .ref a), (1, .int p1), (2, .int x_7), (3, .int x_8)] → L_X7_pass_47 K_47 p1 n x_7 x_8 v_9 = some (r0, v', hv', kv') → W p l e { frames := 5, cells := 0, slots := 0, locals := 119 } s m args below meth c H locs 0 0 Q (F0 m 47 ls []) := by
          intro K_47 hK_47 n
          induction n with
          | zero =>
            intro x_7 x_8 v_9 H locs ls hL h_hl h_bk h_hs h_hu hF hl hf
            cases hf
          | succ n ih_47 =>
            intro x_7 x_8 v_9 H locs ls hL h_hl h_bk h_hs h_hu hF hl hf
            unfold L_X7_pass_47 at hf
            refine lv_iload_n hx hb dX7_pass_47 rfl (lv_at hl 3 rfl) ?_
            refine lv_iload_n hx hb dX7_pass_48 rfl (lv_at hl 1 rfl) ?_
            refine lv_icmp_ge (tgt := 68) hx hb dX7_pass_49 (by decide) (fun c_10 => ?_) (fun c_10 => ?_)
            · have hf := (if_pos c_10).symm.trans hf
              exact hK_47 x_7 x_8 v_9 _ _ _ hL h_hl h_bk h_hs h_hu hF (lv_sub hl [2] rfl) hf
            · have hf := (if_neg c_10).symm.trans hf
              refine lv_iload_n hx hb dX7_pass_52 rfl (lv_at hl 2 rfl) ?_
              refine lv_aload_n hx hb dX7_pass_53 rfl (lv_at hl 0 rfl) ?_
              refine x_get S hK h_hl 0 (by decide) rfl rfl rfl in7 0 (by decide) (xm 2 rfl) (x := .ref (a + 1)) rfl dX7_pass_54 ?_
              obtain ⟨r_11, v_12, e_13, hf⟩ := xb2_some hf
              refine x_callVi (As := []) (rest := [.int x_7]) S hK (c_X0_passDay l G z (a + 1) v_9 r_11 v_12 (by omega) e_13) gX7_pass_X0_passDay rfl 0 (by decide +kernel) rfl ⟨Nat.le_of_ble_eq_true rfl, Nat.le_of_ble_eq_true rfl⟩ h_bk 0 (by decide) rfl rfl rfl h_bk hl.1 rfl (Nat.le_of_ble_eq_true rfl) dX7_pass_57 hL ⟨Nat.zero_le _, Nat.zero_le _⟩ (fun H1 locs hL hpost => ?_)
              obtain ⟨n_bk, hfr⟩ := hpost
              have h_bk := n_bk
              have h_hl := h_hl.kept hfr (fun q h1 h2 h3 => by (try dsimp only at h3); omega)
              have h_hs := h_hs.kept hfr (fun q h1 h2 h3 => by (try dsimp only at h3); omega)
              have h_hu := h_hu.kept hfr (fun q h1 h2 h3 => by (try dsimp only at h3); omega)
              have hF := hF.step hfr (fun q h => by (try dsimp only at h ⊢); omega)
              refine lv_iadd hx hb dX7_pass_60 ?_
              obtain ⟨x_14, ex_14, hf⟩ := xl_some hf
              refine x_top ex_14 ?_
              refine lv_istore_n (lv' := [(2, .int x_14), (0, .ref a), (1, .int p1), (3, .int x_8)]) hx hb dX7_pass_61 rfl hl (by decide) rfl (fun ls hl => ?_)
              obtain ⟨x_15, ex_15, hf⟩ := xl_some hf
              refine lv_iinc (v := x_15) (lv' := [(3, .int x_15), (2, .int x_14), (0, .ref a), (1, .int p1)]) hx hb dX7_pass_62 hl (k := 3) rfl (by rw [ex_15]; rfl) (by decide) rfl (fun ls hl => ?_)
              refine lv_goto (tgt := 47) hx hb dX7_pass_65 (by decide) ?_
              exact ih_47 x_14 x_15 v_12 _ _ _ hL h_hl h_bk h_hs h_hu hF (lv_sub hl [2, 3, 1, 0] rfl) hf
        refine lp_47 _ (fun x_16 x_17 v_18 H locs ls hL h_hl h_bk h_hs h_hu hF hl hf => ?_) 100000 0 0 v _ _ _ hL h_hl h_bk h_hs h_hu hF (lv_sub hl [2, 3, 1, 0] rfl) hf
        refine lv_iload_n hx hb dX7_pass_68 rfl (lv_at hl 0 rfl) ?_
        obtain ⟨q0, qq0⟩ := Prod.mk.inj (Option.some.inj hf)
        obtain ⟨q1, qq1⟩ := Prod.mk.inj (qq0)
        obtain ⟨q2, qq2⟩ := Prod.mk.inj (qq1)
        have q3 := qq2
        subst r0
        subst v'
        subst hv'
        subst kv'
        subst hQ
        refine x_iret (post := (fun H H1 => PX G (a + 1) 37 (bkE G (a + 1)) v_18 H1 ∧ PX G (a + 38) 2 (hsE G (a + 38)) hv_4 H1 ∧ HU G (a + 38) kv_5 H1 ∧ XF (fun q => ((a + 1) ≤ q ∧ q < (a + 1) + 37) ∨ ((a + 38) ≤ q ∧ q < (a + 38) + 2) ∨ ((a + 38) + 2 ≤ q ∧ q < (a + 38) + 150)) H H1)) S hr hlocks rfl ?_ hL dX7_pass_69
        exact ⟨h_bk, h_hs, h_hu, hF⟩
      · have hf := (if_neg c_3).symm.trans hf
        refine lv_ldc (v := (-2000000003)) hx hb hown (hts _ (xm 4 rfl)) dX7_pass_29 ?_
        obtain ⟨q0, qq0⟩ := Prod.mk.inj (Option.some.inj hf)
        obtain ⟨q1, qq1⟩ := Prod.mk.inj (qq0)
        obtain ⟨q2, qq2⟩ := Prod.mk.inj (qq1)
        have q3 := qq2
        subst r0
        subst v'
        subst hv'
        subst kv'
        subst hQ
        refine x_iret (post := (fun H H1 => PX G (a + 1) 37 (bkE G (a + 1)) v H1 ∧ PX G (a + 38) 2 (hsE G (a + 38)) hv H1 ∧ HU G (a + 38) kv H1 ∧ XF (fun q => ((a + 1) ≤ q ∧ q < (a + 1) + 37) ∨ ((a + 38) ≤ q ∧ q < (a + 38) + 2) ∨ ((a + 38) + 2 ≤ q ∧ q < (a + 38) + 150)) H H1)) S hr hlocks rfl ?_ hL dX7_pass_31
        exact ⟨h_bk, h_hs, h_hu, hF⟩
    · have hf := (if_neg c_2).symm.trans hf
      refine lv_ldc (v := (-2000000001)) hx hb hown (hts _ (xm 1 rfl)) dX7_pass_11 ?_
      obtain ⟨q0, qq0⟩ := Prod.mk.inj (Option.some.inj hf)
      obtain ⟨q1, qq1⟩ := Prod.mk.inj (qq0)
      obtain ⟨q2, qq2⟩ := Prod.mk.inj (qq1)
      have q3 := qq2
      subst r0
      subst v'
      subst hv'
      subst kv'
      subst hQ
      refine x_iret (post := (fun H H1 => PX G (a + 1) 37 (bkE G (a + 1)) v H1 ∧ PX G (a + 38) 2 (hsE G (a + 38)) hv H1 ∧ HU G (a + 38) kv H1 ∧ XF (fun q => ((a + 1) ≤ q ∧ q < (a + 1) + 37) ∨ ((a + 38) ≤ q ∧ q < (a + 38) + 2) ∨ ((a + 38) + 2 ≤ q ∧ q < (a + 38) + 150)) H H1)) S hr hlocks rfl ?_ hL dX7_pass_13
      exact ⟨h_bk, h_hs, h_hu, hF⟩
set_option maxRecDepth 100000 in
set_option maxHeartbeats 4000000 in
theorem c_X7_pay (l : Launch) (G : xG) (z : Nat) (a : Nat) (dv : xV) (v : xV) (hv : xV) (kv : Nat → xV) (p1 : Int32) (p2 : Int32) (r0 : Int32) (v' : xV) (hv' : xV) (kv' : Nat → xV) (hz_bk : z ≤ (a + 1)) (hz_hs : z ≤ (a + 38)) (hf : f_X7_pay dv v hv kv p1 p2 = some (r0, v', hv', kv')) : xM l yX7_pay wsX7_pay 4 104 G z [.ref a, .int p1, .int p2] (fun H => PX G a 1 (hlE a) dv H ∧ PX G (a + 1) 37 (bkE G (a + 1)) v H ∧ PX G (a + 38) 2 (hsE G (a + 38)) hv H ∧ HU G (a + 38) kv H) (some (.int r0)) (fun H H1 => PX G (a + 1) 37 (bkE G (a + 1)) v' H1 ∧ PX G (a + 38) 2 (hsE G (a + 38)) hv' H1 ∧ HU G (a + 38) kv' H1 ∧ XF (fun q => ((a + 1) ≤ q ∧ q < (a + 1) + 37) ∨ ((a + 38) ≤ q ∧ q < (a + 38) + 2) ∨ ((a + 38) + 2 ≤ q ∧ q < (a + 38) + 150)) H H1) := by
  refine xM.of (cc := cX7_pay) (maxL := 3) (ret := (some .int)) (by decide +kernel) rfl (Nat.le_of_ble_eq_true rfl) ?_
  intro p e s m args below meth c ls Q hQ S hr hlocks hK hP hl
  obtain ⟨hx, hb, hml, hown, hts⟩ := id S
  obtain ⟨h_hl, h_bk, h_hs, h_hu⟩ := hP
  have hL : ∀ q ∈ ([] : List Loc), z ≤ q.base := fun q h => absurd h List.not_mem_nil
  have hF : XF (fun q => ((a + 1) ≤ q ∧ q < (a + 1) + 37) ∨ ((a + 38) ≤ q ∧ q < (a + 38) + 2) ∨ ((a + 38) + 2 ≤ q ∧ q < (a + 38) + 150)) s.heap s.heap := XF.rf
  have hl : lv_has ls 3 [(0, .ref a), (1, .int p1), (2, .int p2)] := hl
  have in0 : ∀ w ∈ u_ws RX0 TX0 9, w ∈ wsX7_pay := fun _ h => List.mem_cons_of_mem _ (List.mem_append_left _ (List.mem_append_left _ (List.mem_append_left _ (List.mem_append_right _ h))))
  have in7 : ∀ w ∈ u_ws RX7 TX7 6, w ∈ wsX7_pay := fun _ h => List.mem_cons_of_mem _ (List.mem_append_left _ (List.mem_append_left _ (List.mem_append_left _ (List.mem_append_left _ (List.mem_append_right _ h)))))
  unfold f_X7_pay at hf
  refine lv_aload_n hx hb dX7_pay_0 rfl (lv_at hl 0 rfl) ?_
  refine x_get S hK h_hl 0 (by decide) rfl rfl rfl in7 0 (by decide) (xm 1 rfl) (x := .ref (a + 1)) rfl dX7_pay_1 ?_
  refine lv_iload_n hx hb dX7_pay_4 rfl (lv_at hl 1 rfl) ?_
  obtain ⟨r_1, e_2, hf⟩ := xb_some hf
  refine x_callVi (As := [.int p1]) (rest := []) S hK (c_X0_isHirer l G z (a + 1) v p1 r_1 e_2) gX7_pay_X0_isHirer rfl 1 (by decide +kernel) rfl ⟨Nat.le_of_ble_eq_true rfl, Nat.le_of_ble_eq_true rfl⟩ h_bk 0 (by decide) rfl rfl rfl h_bk hl.1 rfl (Nat.le_of_ble_eq_true rfl) dX7_pay_5 hL ⟨Nat.zero_le _, Nat.zero_le _⟩ (fun H1 locs hL hpost => ?_)
  subst hpost
  refine lv_if_eq (tgt := 22) hx hb dX7_pay_8 (by decide) (fun c_3 => ?_) (fun c_3 => ?_)
  · have hf := (if_pos c_3).symm.trans hf
    refine lv_ldc (v := (-2000000001)) hx hb hown (hts _ (xm 3 rfl)) dX7_pay_22 ?_
    obtain ⟨q0, qq0⟩ := Prod.mk.inj (Option.some.inj hf)
    obtain ⟨q1, qq1⟩ := Prod.mk.inj (qq0)
    obtain ⟨q2, qq2⟩ := Prod.mk.inj (qq1)
    have q3 := qq2
    subst r0
    subst v'
    subst hv'
    subst kv'
    subst hQ
    refine x_iret (post := (fun H H1 => PX G (a + 1) 37 (bkE G (a + 1)) v H1 ∧ PX G (a + 38) 2 (hsE G (a + 38)) hv H1 ∧ HU G (a + 38) kv H1 ∧ XF (fun q => ((a + 1) ≤ q ∧ q < (a + 1) + 37) ∨ ((a + 38) ≤ q ∧ q < (a + 38) + 2) ∨ ((a + 38) + 2 ≤ q ∧ q < (a + 38) + 150)) H H1)) S hr hlocks rfl ?_ hL dX7_pay_24
    exact ⟨h_bk, h_hs, h_hu, hF⟩
  · have hf := (if_neg c_3).symm.trans hf
    refine lv_iload_n hx hb dX7_pay_11 rfl (lv_at hl 2 rfl) ?_
    refine lv_iconst (v := 1) hx hb dX7_pay_12 (by decide) ?_
    refine lv_icmp_lt (tgt := 22) hx hb dX7_pay_13 (by decide) (fun c_4 => ?_) (fun c_4 => ?_)
    · have hf := (if_pos c_4).symm.trans hf
      refine lv_ldc (v := (-2000000001)) hx hb hown (hts _ (xm 3 rfl)) dX7_pay_22 ?_
      obtain ⟨q0, qq0⟩ := Prod.mk.inj (Option.some.inj hf)
      obtain ⟨q1, qq1⟩ := Prod.mk.inj (qq0)
      obtain ⟨q2, qq2⟩ := Prod.mk.inj (qq1)
      have q3 := qq2
      subst r0
      subst v'
      subst hv'
      subst kv'
      subst hQ
      refine x_iret (post := (fun H H1 => PX G (a + 1) 37 (bkE G (a + 1)) v H1 ∧ PX G (a + 38) 2 (hsE G (a + 38)) hv H1 ∧ HU G (a + 38) kv H1 ∧ XF (fun q => ((a + 1) ≤ q ∧ q < (a + 1) + 37) ∨ ((a + 38) ≤ q ∧ q < (a + 38) + 2) ∨ ((a + 38) + 2 ≤ q ∧ q < (a + 38) + 150)) H H1)) S hr hlocks rfl ?_ hL dX7_pay_24
      exact ⟨h_bk, h_hs, h_hu, hF⟩
    · have hf := (if_neg c_4).symm.trans hf
      refine lv_iload_n hx hb dX7_pay_16 rfl (lv_at hl 2 rfl) ?_
      refine lv_ldc (v := 1000000) hx hb hown (hts _ (xm 2 rfl)) dX7_pay_17 ?_
      refine lv_icmp_le (tgt := 25) hx hb dX7_pay_19 (by decide) (fun c_5 => ?_) (fun c_5 => ?_)
      · have hf := (if_pos c_5).symm.trans hf
        refine lv_aload_n hx hb dX7_pay_25 rfl (lv_at hl 0 rfl) ?_
        refine x_get S hK h_hl 0 (by decide) rfl rfl rfl in7 0 (by decide) (xm 1 rfl) (x := .ref (a + 1)) rfl dX7_pay_26 ?_
        refine x_get S hK h_bk 0 (by decide) rfl rfl rfl in0 6 (by decide) (xm 4 rfl) (x := .ref ((a + 1) + 4)) rfl dX7_pay_29 ?_
        refine lv_iload_n hx hb dX7_pay_32 rfl (lv_at hl 1 rfl) ?_
        obtain ⟨g_6, hf⟩ := xg_some hf
        refine x_iald S hK h_bk 4 (by decide) rfl rfl p1.toNatClampNeg rfl g_6 dX7_pay_33 ?_
        refine lv_iload_n hx hb dX7_pay_34 rfl (lv_at hl 2 rfl) ?_
        refine lv_iadd hx hb dX7_pay_35 ?_
        refine lv_ldc (v := 100000000) hx hb hown (hts _ (xm 5 rfl)) dX7_pay_36 ?_
        refine lv_icmp_le (tgt := 44) hx hb dX7_pay_38 (by decide) (fun c_7 => ?_) (fun c_7 => ?_)
        · have hf := (if_pos c_7).symm.trans hf
          refine lv_aload_n hx hb dX7_pay_44 rfl (lv_at hl 0 rfl) ?_
          refine x_get S hK h_hl 0 (by decide) rfl rfl rfl in7 1 (by decide) (xm 7 rfl) (x := .ref (a + 38)) rfl dX7_pay_45 ?_
          refine lv_aload_n hx hb dX7_pay_48 rfl (lv_at hl 0 rfl) ?_
          refine x_get S hK h_hl 0 (by decide) rfl rfl rfl in7 0 (by decide) (xm 1 rfl) (x := .ref (a + 1)) rfl dX7_pay_49 ?_
          obtain ⟨hv_8, kv_9, e_10, hf⟩ := xb2_some hf
          refine x_callVv (As := [.ref (a + 1)]) (rest := []) S hK (c_X2_save l G z (a + 38) (a + 1) hv kv v hv_8 kv_9 (by omega) (by omega) (by omega) e_10) gX7_pay_X2_save rfl 1 (by decide +kernel) rfl ⟨Nat.le_of_ble_eq_true rfl, Nat.le_of_ble_eq_true rfl⟩ h_hs 0 (by decide) rfl rfl rfl ⟨h_hs, h_hu, h_bk⟩ hl.1 rfl (Nat.le_of_ble_eq_true rfl) dX7_pay_52 hL ⟨Nat.zero_le _, Nat.zero_le _⟩ (fun H1 locs hL hpost => ?_)
          obtain ⟨n_hs, n_hu, hfr⟩ := hpost
          have h_hs := n_hs
          have h_hu := n_hu
          have h_hl := h_hl.kept hfr (fun q h1 h2 h3 => by (try dsimp only at h3); omega)
          have h_bk := h_bk.kept hfr (fun q h1 h2 h3 => by (try dsimp only at h3); omega)
          have hF := hF.step hfr (fun q h => by (try dsimp only at h ⊢); omega)
          refine lv_aload_n hx hb dX7_pay_55 rfl (lv_at hl 0 rfl) ?_
          refine x_get S hK h_hl 0 (by decide) rfl rfl rfl in7 0 (by decide) (xm 1 rfl) (x := .ref (a + 1)) rfl dX7_pay_56 ?_
          refine lv_iload_n hx hb dX7_pay_59 rfl (lv_at hl 1 rfl) ?_
          refine lv_iload_n hx hb dX7_pay_60 rfl (lv_at hl 2 rfl) ?_
          refine lv_bipush (v := 8) hx hb dX7_pay_61 (by decide) ?_
          obtain ⟨v_11, e_12, hf⟩ := xb_some hf
          refine x_callVv (As := [.int p1, .int p2, .int 8]) (rest := []) S hK (c_X0_credit l G z (a + 1) v p1 p2 8 v_11 (by omega) e_12) gX7_pay_X0_credit rfl 3 (by decide +kernel) rfl ⟨Nat.le_of_ble_eq_true rfl, Nat.le_of_ble_eq_true rfl⟩ h_bk 0 (by decide) rfl rfl rfl h_bk hl.1 rfl (Nat.le_of_ble_eq_true rfl) dX7_pay_63 hL ⟨Nat.zero_le _, Nat.zero_le _⟩ (fun H1 locs hL hpost => ?_)
          obtain ⟨n_bk, hfr⟩ := hpost
          have h_bk := n_bk
          have h_hl := h_hl.kept hfr (fun q h1 h2 h3 => by (try dsimp only at h3); omega)
          have h_hs := h_hs.kept hfr (fun q h1 h2 h3 => by (try dsimp only at h3); omega)
          have h_hu := h_hu.kept hfr (fun q h1 h2 h3 => by (try dsimp only at h3); omega)
          have hF := hF.step hfr (fun q h => by (try dsimp only at h ⊢); omega)
          refine lv_aload_n hx hb dX7_pay_66 rfl (lv_at hl 0 rfl) ?_
          refine x_get S hK h_hl 0 (by decide) rfl rfl rfl in7 0 (by decide) (xm 1 rfl) (x := .ref (a + 1)) rfl dX7_pay_67 ?_
          refine x_get S hK h_bk 0 (by decide) rfl rfl rfl in0 5 (by decide) (xm 8 rfl) (x := .ref ((a + 1) + 3)) rfl dX7_pay_70 ?_
          refine lv_iload_n hx hb dX7_pay_73 rfl (lv_at hl 1 rfl) ?_
          obtain ⟨g_13, hf⟩ := xg_some hf
          refine x_iald S hK h_bk 3 (by decide) rfl rfl p1.toNatClampNeg rfl g_13 dX7_pay_74 ?_
          refine lv_aload_n hx hb dX7_pay_75 rfl (lv_at hl 0 rfl) ?_
          refine x_get S hK h_hl 0 (by decide) rfl rfl rfl in7 0 (by decide) (xm 1 rfl) (x := .ref (a + 1)) rfl dX7_pay_76 ?_
          refine x_get S hK h_bk 0 (by decide) rfl rfl rfl in0 6 (by decide) (xm 4 rfl) (x := .ref ((a + 1) + 4)) rfl dX7_pay_79 ?_
          refine lv_iload_n hx hb dX7_pay_82 rfl (lv_at hl 1 rfl) ?_
          obtain ⟨g_14, hf⟩ := xg_some hf
          refine x_iald S hK h_bk 4 (by decide) rfl rfl p1.toNatClampNeg rfl g_14 dX7_pay_83 ?_
          refine lv_isub hx hb dX7_pay_84 ?_
          obtain ⟨q0, qq0⟩ := Prod.mk.inj (Option.some.inj hf)
          obtain ⟨q1, qq1⟩ := Prod.mk.inj (qq0)
          obtain ⟨q2, qq2⟩ := Prod.mk.inj (qq1)
          have q3 := qq2
          subst r0
          subst v'
          subst hv'
          subst kv'
          subst hQ
          refine x_iret (post := (fun H H1 => PX G (a + 1) 37 (bkE G (a + 1)) v_11 H1 ∧ PX G (a + 38) 2 (hsE G (a + 38)) hv_8 H1 ∧ HU G (a + 38) kv_9 H1 ∧ XF (fun q => ((a + 1) ≤ q ∧ q < (a + 1) + 37) ∨ ((a + 38) ≤ q ∧ q < (a + 38) + 2) ∨ ((a + 38) + 2 ≤ q ∧ q < (a + 38) + 150)) H H1)) S hr hlocks rfl ?_ hL dX7_pay_85
          exact ⟨h_bk, h_hs, h_hu, hF⟩
        · have hf := (if_neg c_7).symm.trans hf
          refine lv_ldc (v := (-2000000003)) hx hb hown (hts _ (xm 6 rfl)) dX7_pay_41 ?_
          obtain ⟨q0, qq0⟩ := Prod.mk.inj (Option.some.inj hf)
          obtain ⟨q1, qq1⟩ := Prod.mk.inj (qq0)
          obtain ⟨q2, qq2⟩ := Prod.mk.inj (qq1)
          have q3 := qq2
          subst r0
          subst v'
          subst hv'
          subst kv'
          subst hQ
          refine x_iret (post := (fun H H1 => PX G (a + 1) 37 (bkE G (a + 1)) v H1 ∧ PX G (a + 38) 2 (hsE G (a + 38)) hv H1 ∧ HU G (a + 38) kv H1 ∧ XF (fun q => ((a + 1) ≤ q ∧ q < (a + 1) + 37) ∨ ((a + 38) ≤ q ∧ q < (a + 38) + 2) ∨ ((a + 38) + 2 ≤ q ∧ q < (a + 38) + 150)) H H1)) S hr hlocks rfl ?_ hL dX7_pay_43
          exact ⟨h_bk, h_hs, h_hu, hF⟩
      · have hf := (if_neg c_5).symm.trans hf
        refine lv_ldc (v := (-2000000001)) hx hb hown (hts _ (xm 3 rfl)) dX7_pay_22 ?_
        obtain ⟨q0, qq0⟩ := Prod.mk.inj (Option.some.inj hf)
        obtain ⟨q1, qq1⟩ := Prod.mk.inj (qq0)
        obtain ⟨q2, qq2⟩ := Prod.mk.inj (qq1)
        have q3 := qq2
        subst r0
        subst v'
        subst hv'
        subst kv'
        subst hQ
        refine x_iret (post := (fun H H1 => PX G (a + 1) 37 (bkE G (a + 1)) v H1 ∧ PX G (a + 38) 2 (hsE G (a + 38)) hv H1 ∧ HU G (a + 38) kv H1 ∧ XF (fun q => ((a + 1) ≤ q ∧ q < (a + 1) + 37) ∨ ((a + 38) ≤ q ∧ q < (a + 38) + 2) ∨ ((a + 38) + 2 ≤ q ∧ q < (a + 38) + 150)) H H1)) S hr hlocks rfl ?_ hL dX7_pay_24
        exact ⟨h_bk, h_hs, h_hu, hF⟩
set_option maxRecDepth 100000 in
set_option maxHeartbeats 4000000 in
theorem c_X7_report (l : Launch) (G : xG) (z : Nat) (a : Nat) (dv : xV) (v : xV) (hv : xV) (kv : Nat → xV) (p1 : Int32) (p2 : Int32) (r0 : Int32) (v' : xV) (hv' : xV) (kv' : Nat → xV) (hz_bk : z ≤ (a + 1)) (hz_hs : z ≤ (a + 38)) (hf : f_X7_report dv v hv kv p1 p2 = some (r0, v', hv', kv')) : xM l yX7_report wsX7_report 4 104 G z [.ref a, .int p1, .int p2] (fun H => PX G a 1 (hlE a) dv H ∧ PX G (a + 1) 37 (bkE G (a + 1)) v H ∧ PX G (a + 38) 2 (hsE G (a + 38)) hv H ∧ HU G (a + 38) kv H) (some (.int r0)) (fun H H1 => PX G (a + 1) 37 (bkE G (a + 1)) v' H1 ∧ PX G (a + 38) 2 (hsE G (a + 38)) hv' H1 ∧ HU G (a + 38) kv' H1 ∧ XF (fun q => ((a + 1) ≤ q ∧ q < (a + 1) + 37) ∨ ((a + 38) ≤ q ∧ q < (a + 38) + 2) ∨ ((a + 38) + 2 ≤ q ∧ q < (a + 38) + 150)) H H1) := by
  refine xM.of (cc := cX7_report) (maxL := 6) (ret := (some .int)) (by decide +kernel) rfl (Nat.le_of_ble_eq_true rfl) ?_
  intro p e s m args below meth c ls Q hQ S hr hlocks hK hP hl
  obtain ⟨hx, hb, hml, hown, hts⟩ := id S
  obtain ⟨h_hl, h_bk, h_hs, h_hu⟩ := hP
  have hL : ∀ q ∈ ([] : List Loc), z ≤ q.base := fun q h => absurd h List.not_mem_nil
  have hF : XF (fun q => ((a + 1) ≤ q ∧ q < (a + 1) + 37) ∨ ((a + 38) ≤ q ∧ q < (a + 38) + 2) ∨ ((a + 38) + 2 ≤ q ∧ q < (a + 38) + 150)) s.heap s.heap := XF.rf
  have hl : lv_has ls 6 [(0, .ref a), (1, .int p1), (2, .int p2)] := hl
  have in1 : ∀ w ∈ u_ws RX1 TX1 15, w ∈ wsX7_report := fun _ h => List.mem_cons_of_mem _ (List.mem_append_left _ (List.mem_append_left _ (List.mem_append_left _ (List.mem_append_right _ h))))
  have in7 : ∀ w ∈ u_ws RX7 TX7 6, w ∈ wsX7_report := fun _ h => List.mem_cons_of_mem _ (List.mem_append_left _ (List.mem_append_left _ (List.mem_append_left _ (List.mem_append_left _ (List.mem_append_right _ h)))))
  unfold f_X7_report at hf
  refine lv_aload_n hx hb dX7_report_0 rfl (lv_at hl 0 rfl) ?_
  refine x_get S hK h_hl 0 (by decide) rfl rfl rfl in7 0 (by decide) (xm 1 rfl) (x := .ref (a + 1)) rfl dX7_report_1 ?_
  refine lv_iload_n hx hb dX7_report_4 rfl (lv_at hl 1 rfl) ?_
  obtain ⟨o_1, e_2, hf⟩ := xb_some hf
  refine x_callVi (As := [.int p1]) (rest := []) S hK (c_X0_hireOfSession l G z (a + 1) v p1 o_1 e_2) gX7_report_X0_hireOfSession rfl 1 (by decide +kernel) rfl ⟨Nat.le_of_ble_eq_true rfl, Nat.le_of_ble_eq_true rfl⟩ h_bk 0 (by decide) rfl rfl rfl h_bk hl.1 rfl (Nat.le_of_ble_eq_true rfl) dX7_report_5 hL ⟨Nat.zero_le _, Nat.zero_le _⟩ (fun H1 locs hL hpost => ?_)
  subst hpost
  obtain _ | i_3 := o_1
  · have hf := (xo_n _ _).symm.trans hf
    show W _ _ _ _ _ _ _ _ _ _ _ _ _ _ _ (F0 _ _ _ (.null :: _))
    refine lv_astore_nN (lv' := [(3, .null), (0, .ref a), (1, .int p1), (2, .int p2)]) hx hb dX7_report_8 rfl hl (by decide) rfl (fun ls hl => ?_)
    refine lv_aload_nN hx hb dX7_report_9 rfl (lv_at hl 0 rfl) ?_
    refine lv_ifnullN (tgt := 22) hx hb dX7_report_10 (by decide) ?_
    refine lv_ldc (v := (-2000000001)) hx hb hown (hts _ (xm 2 rfl)) dX7_report_22 ?_
    obtain ⟨q0, qq0⟩ := Prod.mk.inj (Option.some.inj hf)
    obtain ⟨q1, qq1⟩ := Prod.mk.inj (qq0)
    obtain ⟨q2, qq2⟩ := Prod.mk.inj (qq1)
    have q3 := qq2
    subst r0
    subst v'
    subst hv'
    subst kv'
    subst hQ
    refine x_iret (post := (fun H H1 => PX G (a + 1) 37 (bkE G (a + 1)) v H1 ∧ PX G (a + 38) 2 (hsE G (a + 38)) hv H1 ∧ HU G (a + 38) kv H1 ∧ XF (fun q => ((a + 1) ≤ q ∧ q < (a + 1) + 37) ∨ ((a + 38) ≤ q ∧ q < (a + 38) + 2) ∨ ((a + 38) + 2 ≤ q ∧ q < (a + 38) + 150)) H H1)) S hr hlocks rfl ?_ hL dX7_report_24
    exact ⟨h_bk, h_hs, h_hu, hF⟩
  · have hf := (xo_s _ _ _).symm.trans hf
    obtain ⟨hi_i_3, hf⟩ := xg_some hf
    show W _ _ _ _ _ _ _ _ _ _ _ _ _ _ _ (F0 _ _ _ (.ref ((a + 1) + (6 + 2 * i_3)) :: _))
    refine lv_astore_n (lv' := [(3, .ref ((a + 1) + (6 + 2 * i_3))), (0, .ref a), (1, .int p1), (2, .int p2)]) hx hb dX7_report_8 rfl hl (by decide) rfl (fun ls hl => ?_)
    refine lv_aload_n hx hb dX7_report_9 rfl (lv_at hl 0 rfl) ?_
    refine lv_ifnull hx hb dX7_report_10 ?_
    refine lv_iload_n hx hb dX7_report_13 rfl (lv_at hl 3 rfl) ?_
    refine lv_if_lt (tgt := 22) hx hb dX7_report_14 (by decide) (fun c_4 => ?_) (fun c_4 => ?_)
    · have hf := (if_pos c_4).symm.trans hf
      refine lv_ldc (v := (-2000000001)) hx hb hown (hts _ (xm 2 rfl)) dX7_report_22 ?_
      obtain ⟨q0, qq0⟩ := Prod.mk.inj (Option.some.inj hf)
      obtain ⟨q1, qq1⟩ := Prod.mk.inj (qq0)
      obtain ⟨q2, qq2⟩ := Prod.mk.inj (qq1)
      have q3 := qq2
      subst r0
      subst v'
      subst hv'
      subst kv'
      subst hQ
      refine x_iret (post := (fun H H1 => PX G (a + 1) 37 (bkE G (a + 1)) v H1 ∧ PX G (a + 38) 2 (hsE G (a + 38)) hv H1 ∧ HU G (a + 38) kv H1 ∧ XF (fun q => ((a + 1) ≤ q ∧ q < (a + 1) + 37) ∨ ((a + 38) ≤ q ∧ q < (a + 38) + 2) ∨ ((a + 38) + 2 ≤ q ∧ q < (a + 38) + 150)) H H1)) S hr hlocks rfl ?_ hL dX7_report_24
      exact ⟨h_bk, h_hs, h_hu, hF⟩
    · have hf := (if_neg c_4).symm.trans hf
      refine lv_iload_n hx hb dX7_report_17 rfl (lv_at hl 3 rfl) ?_
      refine lv_iconst (v := 3) hx hb dX7_report_18 (by decide) ?_
      refine lv_icmp_le (tgt := 25) hx hb dX7_report_19 (by decide) (fun c_5 => ?_) (fun c_5 => ?_)
      · have hf := (if_pos c_5).symm.trans hf
        refine lv_aload_n hx hb dX7_report_25 rfl (lv_at hl 0 rfl) ?_
        refine lv_iload_n hx hb dX7_report_26 rfl (lv_at hl 2 rfl) ?_
        refine lv_bipush (v := 20) hx hb dX7_report_27 (by decide) ?_
        refine lv_irem hx hb dX7_report_29 (by decide) ?_
        obtain ⟨r_6, e_7, hf⟩ := xb_some hf
        refine x_callVi (As := [.int (p1 - p1 / 20 * 20)]) (rest := []) S hK (c_X1_stateOf l G z (a + 1) v i_3 (p1 - p1 / 20 * 20) r_6 hi_i_3 e_7) gX7_report_X1_stateOf rfl 1 (by decide +kernel) rfl ⟨Nat.le_of_ble_eq_true rfl, Nat.le_of_ble_eq_true rfl⟩ h_bk (6 + 2 * i_3) (by omega) rfl (bkE_hire G (a + 1) i_3 hi_i_3 _) rfl h_bk hl.1 rfl (Nat.le_of_ble_eq_true rfl) dX7_report_30 hL ⟨Nat.zero_le _, Nat.zero_le _⟩ (fun H1 locs hL hpost => ?_)
        subst hpost
        refine lv_iconst (v := 1) hx hb dX7_report_33 (by decide) ?_
        refine lv_icmp_ne (tgt := 52) hx hb dX7_report_34 (by decide) (fun c_8 => ?_) (fun c_8 => ?_)
        · have hf := (if_neg c_8).symm.trans hf
          refine lv_ldc (v := (-2000000002)) hx hb hown (hts _ (xm 4 rfl)) dX7_report_52 ?_
          obtain ⟨q0, qq0⟩ := Prod.mk.inj (Option.some.inj hf)
          obtain ⟨q1, qq1⟩ := Prod.mk.inj (qq0)
          obtain ⟨q2, qq2⟩ := Prod.mk.inj (qq1)
          have q3 := qq2
          subst r0
          subst v'
          subst hv'
          subst kv'
          subst hQ
          refine x_iret (post := (fun H H1 => PX G (a + 1) 37 (bkE G (a + 1)) v H1 ∧ PX G (a + 38) 2 (hsE G (a + 38)) hv H1 ∧ HU G (a + 38) kv H1 ∧ XF (fun q => ((a + 1) ≤ q ∧ q < (a + 1) + 37) ∨ ((a + 38) ≤ q ∧ q < (a + 38) + 2) ∨ ((a + 38) + 2 ≤ q ∧ q < (a + 38) + 150)) H H1)) S hr hlocks rfl ?_ hL dX7_report_54
          exact ⟨h_bk, h_hs, h_hu, hF⟩
        · have hf := (if_pos c_8).symm.trans hf
          refine lv_aload_n hx hb dX7_report_37 rfl (lv_at hl 0 rfl) ?_
          refine x_get S hK h_bk (6 + 2 * i_3) (by omega) rfl (bkE_hire G (a + 1) i_3 hi_i_3 _) rfl in1 13 (by decide) (xm 3 rfl) (x := .int (v (6 + 2 * i_3) 13)) rfl dX7_report_38 ?_
          refine lv_if_ne (tgt := 52) hx hb dX7_report_41 (by decide) (fun c_9 => ?_) (fun c_9 => ?_)
          · have hf := (if_neg c_9).symm.trans hf
            refine lv_ldc (v := (-2000000002)) hx hb hown (hts _ (xm 4 rfl)) dX7_report_52 ?_
            obtain ⟨q0, qq0⟩ := Prod.mk.inj (Option.some.inj hf)
            obtain ⟨q1, qq1⟩ := Prod.mk.inj (qq0)
            obtain ⟨q2, qq2⟩ := Prod.mk.inj (qq1)
            have q3 := qq2
            subst r0
            subst v'
            subst hv'
            subst kv'
            subst hQ
            refine x_iret (post := (fun H H1 => PX G (a + 1) 37 (bkE G (a + 1)) v H1 ∧ PX G (a + 38) 2 (hsE G (a + 38)) hv H1 ∧ HU G (a + 38) kv H1 ∧ XF (fun q => ((a + 1) ≤ q ∧ q < (a + 1) + 37) ∨ ((a + 38) ≤ q ∧ q < (a + 38) + 2) ∨ ((a + 38) + 2 ≤ q ∧ q < (a + 38) + 150)) H H1)) S hr hlocks rfl ?_ hL dX7_report_54
            exact ⟨h_bk, h_hs, h_hu, hF⟩
          · have hf := (if_pos c_9).symm.trans hf
            refine lv_aload_n hx hb dX7_report_44 rfl (lv_at hl 0 rfl) ?_
            refine lv_iload_n hx hb dX7_report_45 rfl (lv_at hl 3 rfl) ?_
            obtain ⟨r_10, e_11, hf⟩ := xb_some hf
            refine x_callVi (As := [.int p2]) (rest := []) S hK (c_X1_canHaveFault l G z (a + 1) v i_3 p2 r_10 hi_i_3 e_11) gX7_report_X1_canHaveFault rfl 1 (by decide +kernel) rfl ⟨Nat.le_of_ble_eq_true rfl, Nat.le_of_ble_eq_true rfl⟩ h_bk (6 + 2 * i_3) (by omega) rfl (bkE_hire G (a + 1) i_3 hi_i_3 _) rfl h_bk hl.1 rfl (Nat.le_of_ble_eq_true rfl) dX7_report_46 hL ⟨Nat.zero_le _, Nat.zero_le _⟩ (fun H1 locs hL hpost => ?_)
            subst hpost
            refine lv_if_ne (tgt := 55) hx hb dX7_report_49 (by decide) (fun c_12 => ?_) (fun c_12 => ?_)
            · have hf := (if_neg c_12).symm.trans hf
              refine lv_aload_n hx hb dX7_report_55 rfl (lv_at hl 0 rfl) ?_
              refine x_get S hK h_bk (6 + 2 * i_3) (by omega) rfl (bkE_hire G (a + 1) i_3 hi_i_3 _) rfl in1 12 (by decide) (xm 5 rfl) (x := .int (v (6 + 2 * i_3) 12)) rfl dX7_report_56 ?_
              refine lv_bipush (v := 8) hx hb dX7_report_59 (by decide) ?_
              refine lv_icmp_lt (tgt := 67) hx hb dX7_report_61 (by decide) (fun c_13 => ?_) (fun c_13 => ?_)
              · have hf := (if_pos c_13).symm.trans hf
                refine lv_aload_n hx hb dX7_report_67 rfl (lv_at hl 1 rfl) ?_
                refine x_get S hK h_hl 0 (by decide) rfl rfl rfl in7 1 (by decide) (xm 7 rfl) (x := .ref (a + 38)) rfl dX7_report_68 ?_
                refine lv_aload_n hx hb dX7_report_71 rfl (lv_at hl 1 rfl) ?_
                refine x_get S hK h_hl 0 (by decide) rfl rfl rfl in7 0 (by decide) (xm 1 rfl) (x := .ref (a + 1)) rfl dX7_report_72 ?_
                obtain ⟨hv_14, kv_15, e_16, hf⟩ := xb2_some hf
                refine x_callVv (As := [.ref (a + 1)]) (rest := []) S hK (c_X2_save l G z (a + 38) (a + 1) hv kv v hv_14 kv_15 (by omega) (by omega) (by omega) e_16) gX7_report_X2_save rfl 1 (by decide +kernel) rfl ⟨Nat.le_of_ble_eq_true rfl, Nat.le_of_ble_eq_true rfl⟩ h_hs 0 (by decide) rfl rfl rfl ⟨h_hs, h_hu, h_bk⟩ hl.1 rfl (Nat.le_of_ble_eq_true rfl) dX7_report_75 hL ⟨Nat.zero_le _, Nat.zero_le _⟩ (fun H1 locs hL hpost => ?_)
                obtain ⟨n_hs, n_hu, hfr⟩ := hpost
                have h_hs := n_hs
                have h_hu := n_hu
                have h_hl := h_hl.kept hfr (fun q h1 h2 h3 => by (try dsimp only at h3); omega)
                have h_bk := h_bk.kept hfr (fun q h1 h2 h3 => by (try dsimp only at h3); omega)
                have hF := hF.step hfr (fun q h => by (try dsimp only at h ⊢); omega)
                refine lv_aload_n hx hb dX7_report_78 rfl (lv_at hl 0 rfl) ?_
                refine lv_iload_n hx hb dX7_report_79 rfl (lv_at hl 3 rfl) ?_
                obtain ⟨r_17, e_18, hf⟩ := xb_some hf
                refine x_callVi (As := [.int p2]) (rest := []) S hK (c_X1_costOfFault l G z (a + 1) v i_3 p2 r_17 hi_i_3 e_18) gX7_report_X1_costOfFault rfl 1 (by decide +kernel) rfl ⟨Nat.le_of_ble_eq_true rfl, Nat.le_of_ble_eq_true rfl⟩ h_bk (6 + 2 * i_3) (by omega) rfl (bkE_hire G (a + 1) i_3 hi_i_3 _) rfl h_bk hl.1 rfl (Nat.le_of_ble_eq_true rfl) dX7_report_80 hL ⟨Nat.zero_le _, Nat.zero_le _⟩ (fun H1 locs hL hpost => ?_)
                subst hpost
                refine lv_istore (lv' := [(4, .int r_17), (3, .ref ((a + 1) + (6 + 2 * i_3))), (0, .ref a), (1, .int p1), (2, .int p2)]) hx hb dX7_report_83 hl (by decide) rfl (fun ls hl => ?_)
                refine lv_aload_n hx hb dX7_report_85 rfl (lv_at hl 2 rfl) ?_
                refine x_get S hK h_hl 0 (by decide) rfl rfl rfl in7 0 (by decide) (xm 1 rfl) (x := .ref (a + 1)) rfl dX7_report_86 ?_
                refine lv_aload_n hx hb dX7_report_89 rfl (lv_at hl 1 rfl) ?_
                refine lv_iload hx hb dX7_report_90 (lv_at hl 0 rfl) ?_
                refine lv_iconst (v := 4) hx hb dX7_report_92 (by decide) ?_
                obtain ⟨r_19, v_20, e_21, hf⟩ := xb2_some hf
                refine x_callVi (As := [.ref ((a + 1) + (6 + 2 * i_3)), .int r_17, .int 4]) (rest := []) S hK (c_X0_takeFromDeposit l G z (a + 1) v i_3 r_17 4 r_19 v_20 (by omega) hi_i_3 e_21) gX7_report_X0_takeFromDeposit rfl 3 (by decide +kernel) rfl ⟨Nat.le_of_ble_eq_true rfl, Nat.le_of_ble_eq_true rfl⟩ h_bk 0 (by decide) rfl rfl rfl h_bk hl.1 rfl (Nat.le_of_ble_eq_true rfl) dX7_report_93 hL ⟨Nat.zero_le _, Nat.zero_le _⟩ (fun H1 locs hL hpost => ?_)
                obtain ⟨n_bk, hfr⟩ := hpost
                have h_bk := n_bk
                have h_hl := h_hl.kept hfr (fun q h1 h2 h3 => by (try dsimp only at h3); omega)
                have h_hs := h_hs.kept hfr (fun q h1 h2 h3 => by (try dsimp only at h3); omega)
                have h_hu := h_hu.kept hfr (fun q h1 h2 h3 => by (try dsimp only at h3); omega)
                have hF := hF.step hfr (fun q h => by (try dsimp only at h ⊢); omega)
                refine lv_istore (lv' := [(5, .int r_19), (4, .int r_17), (3, .ref ((a + 1) + (6 + 2 * i_3))), (0, .ref a), (1, .int p1), (2, .int p2)]) hx hb dX7_report_96 hl (by decide) rfl (fun ls hl => ?_)
                refine lv_aload_n hx hb dX7_report_98 rfl (lv_at hl 2 rfl) ?_
                refine lv_iload_n hx hb dX7_report_99 rfl (lv_at hl 5 rfl) ?_
                refine lv_iload_n hx hb dX7_report_100 rfl (lv_at hl 4 rfl) ?_
                refine lv_iload hx hb dX7_report_101 (lv_at hl 1 rfl) ?_
                refine lv_iload hx hb dX7_report_103 (lv_at hl 0 rfl) ?_
                obtain ⟨v_22, e_23, hf⟩ := xb_some hf
                refine x_callVv (As := [.int p2, .int p1, .int r_17, .int r_19]) (rest := []) S hK (c_X1_addFault l G z (a + 1) v_20 i_3 p2 p1 r_17 r_19 v_22 (by omega) hi_i_3 e_23) gX7_report_X1_addFault rfl 4 (by decide +kernel) rfl ⟨Nat.le_of_ble_eq_true rfl, Nat.le_of_ble_eq_true rfl⟩ h_bk (6 + 2 * i_3) (by omega) rfl (bkE_hire G (a + 1) i_3 hi_i_3 _) rfl h_bk hl.1 rfl (Nat.le_of_ble_eq_true rfl) dX7_report_105 hL ⟨Nat.zero_le _, Nat.zero_le _⟩ (fun H1 locs hL hpost => ?_)
                obtain ⟨n_bk, hfr⟩ := hpost
                have h_bk := n_bk
                have h_hl := h_hl.kept hfr (fun q h1 h2 h3 => by (try dsimp only at h3); omega)
                have h_hs := h_hs.kept hfr (fun q h1 h2 h3 => by (try dsimp only at h3); omega)
                have h_hu := h_hu.kept hfr (fun q h1 h2 h3 => by (try dsimp only at h3); omega)
                have hF := hF.step hfr (fun q h => by (try dsimp only at h ⊢); omega)
                refine lv_iload hx hb dX7_report_108 (lv_at hl 1 rfl) ?_
                obtain ⟨q0, qq0⟩ := Prod.mk.inj (Option.some.inj hf)
                obtain ⟨q1, qq1⟩ := Prod.mk.inj (qq0)
                obtain ⟨q2, qq2⟩ := Prod.mk.inj (qq1)
                have q3 := qq2
                subst r0
                subst v'
                subst hv'
                subst kv'
                subst hQ
                refine x_iret (post := (fun H H1 => PX G (a + 1) 37 (bkE G (a + 1)) v_22 H1 ∧ PX G (a + 38) 2 (hsE G (a + 38)) hv_14 H1 ∧ HU G (a + 38) kv_15 H1 ∧ XF (fun q => ((a + 1) ≤ q ∧ q < (a + 1) + 37) ∨ ((a + 38) ≤ q ∧ q < (a + 38) + 2) ∨ ((a + 38) + 2 ≤ q ∧ q < (a + 38) + 150)) H H1)) S hr hlocks rfl ?_ hL dX7_report_110
                exact ⟨h_bk, h_hs, h_hu, hF⟩
              · have hf := (if_neg c_13).symm.trans hf
                refine lv_ldc (v := (-2000000003)) hx hb hown (hts _ (xm 6 rfl)) dX7_report_64 ?_
                obtain ⟨q0, qq0⟩ := Prod.mk.inj (Option.some.inj hf)
                obtain ⟨q1, qq1⟩ := Prod.mk.inj (qq0)
                obtain ⟨q2, qq2⟩ := Prod.mk.inj (qq1)
                have q3 := qq2
                subst r0
                subst v'
                subst hv'
                subst kv'
                subst hQ
                refine x_iret (post := (fun H H1 => PX G (a + 1) 37 (bkE G (a + 1)) v H1 ∧ PX G (a + 38) 2 (hsE G (a + 38)) hv H1 ∧ HU G (a + 38) kv H1 ∧ XF (fun q => ((a + 1) ≤ q ∧ q < (a + 1) + 37) ∨ ((a + 38) ≤ q ∧ q < (a + 38) + 2) ∨ ((a + 38) + 2 ≤ q ∧ q < (a + 38) + 150)) H H1)) S hr hlocks rfl ?_ hL dX7_report_66
                exact ⟨h_bk, h_hs, h_hu, hF⟩
            · have hf := (if_pos c_12).symm.trans hf
              refine lv_ldc (v := (-2000000002)) hx hb hown (hts _ (xm 4 rfl)) dX7_report_52 ?_
              obtain ⟨q0, qq0⟩ := Prod.mk.inj (Option.some.inj hf)
              obtain ⟨q1, qq1⟩ := Prod.mk.inj (qq0)
              obtain ⟨q2, qq2⟩ := Prod.mk.inj (qq1)
              have q3 := qq2
              subst r0
              subst v'
              subst hv'
              subst kv'
              subst hQ
              refine x_iret (post := (fun H H1 => PX G (a + 1) 37 (bkE G (a + 1)) v H1 ∧ PX G (a + 38) 2 (hsE G (a + 38)) hv H1 ∧ HU G (a + 38) kv H1 ∧ XF (fun q => ((a + 1) ≤ q ∧ q < (a + 1) + 37) ∨ ((a + 38) ≤ q ∧ q < (a + 38) + 2) ∨ ((a + 38) + 2 ≤ q ∧ q < (a + 38) + 150)) H H1)) S hr hlocks rfl ?_ hL dX7_report_54
              exact ⟨h_bk, h_hs, h_hu, hF⟩
      · have hf := (if_neg c_5).symm.trans hf
        refine lv_ldc (v := (-2000000001)) hx hb hown (hts _ (xm 2 rfl)) dX7_report_22 ?_
        obtain ⟨q0, qq0⟩ := Prod.mk.inj (Option.some.inj hf)
        obtain ⟨q1, qq1⟩ := Prod.mk.inj (qq0)
        obtain ⟨q2, qq2⟩ := Prod.mk.inj (qq1)
        have q3 := qq2
        subst r0
        subst v'
        subst hv'
        subst kv'
        subst hQ
        refine x_iret (post := (fun H H1 => PX G (a + 1) 37 (bkE G (a + 1)) v H1 ∧ PX G (a + 38) 2 (hsE G (a + 38)) hv H1 ∧ HU G (a + 38) kv H1 ∧ XF (fun q => ((a + 1) ≤ q ∧ q < (a + 1) + 37) ∨ ((a + 38) ≤ q ∧ q < (a + 38) + 2) ∨ ((a + 38) + 2 ≤ q ∧ q < (a + 38) + 150)) H H1)) S hr hlocks rfl ?_ hL dX7_report_24
        exact ⟨h_bk, h_hs, h_hu, hF⟩
set_option maxRecDepth 100000 in
set_option maxHeartbeats 4000000 in
theorem c_X7_session (l : Launch) (G : xG) (z : Nat) (a : Nat) (dv : xV) (v : xV) (p1 : Int32) (p2 : Int32) (r0 : Int32)  (hf : f_X7_session dv v p1 p2 = some r0) : xM l yX7_session wsX7_session 2 44 G z [.ref a, .int p1, .int p2] (fun H => PX G a 1 (hlE a) dv H ∧ PX G (a + 1) 37 (bkE G (a + 1)) v H) (some (.int r0)) (fun H H1 => H1 = H) := by
  refine xM.of (cc := cX7_session) (maxL := 5) (ret := (some .int)) (by decide +kernel) rfl (Nat.le_of_ble_eq_true rfl) ?_
  intro p e s m args below meth c ls Q hQ S hr hlocks hK hP hl
  obtain ⟨hx, hb, hml, hown, hts⟩ := id S
  obtain ⟨h_hl, h_bk⟩ := hP
  have hL : ∀ q ∈ ([] : List Loc), z ≤ q.base := fun q h => absurd h List.not_mem_nil
  have hl : lv_has ls 5 [(0, .ref a), (1, .int p1), (2, .int p2)] := hl
  have in0 : ∀ w ∈ u_ws RX0 TX0 9, w ∈ wsX7_session := fun _ h => List.mem_cons_of_mem _ (List.mem_append_left _ (List.mem_append_right _ h))
  have in7 : ∀ w ∈ u_ws RX7 TX7 6, w ∈ wsX7_session := fun _ h => List.mem_cons_of_mem _ (List.mem_append_left _ (List.mem_append_left _ (List.mem_append_right _ h)))
  unfold f_X7_session at hf
  refine lv_aload_n hx hb dX7_session_0 rfl (lv_at hl 0 rfl) ?_
  refine x_get S hK h_hl 0 (by decide) rfl rfl rfl in7 0 (by decide) (xm 1 rfl) (x := .ref (a + 1)) rfl dX7_session_1 ?_
  refine lv_iload_n hx hb dX7_session_4 rfl (lv_at hl 1 rfl) ?_
  obtain ⟨o_1, e_2, hf⟩ := xb_some hf
  refine x_callVi (As := [.int p1]) (rest := []) S hK (c_X0_hireOfSession l G z (a + 1) v p1 o_1 e_2) gX7_session_X0_hireOfSession rfl 1 (by decide +kernel) rfl ⟨Nat.le_of_ble_eq_true rfl, Nat.le_of_ble_eq_true rfl⟩ h_bk 0 (by decide) rfl rfl rfl h_bk hl.1 rfl (Nat.le_of_ble_eq_true rfl) dX7_session_5 hL ⟨Nat.zero_le _, Nat.zero_le _⟩ (fun H1 locs hL hpost => ?_)
  subst hpost
  obtain _ | i_3 := o_1
  · have hf := (xo_n _ _).symm.trans hf
    show W _ _ _ _ _ _ _ _ _ _ _ _ _ _ _ (F0 _ _ _ (.null :: _))
    refine lv_astore_nN (lv' := [(3, .null), (0, .ref a), (1, .int p1), (2, .int p2)]) hx hb dX7_session_8 rfl hl (by decide) rfl (fun ls hl => ?_)
    refine lv_aload_nN hx hb dX7_session_9 rfl (lv_at hl 0 rfl) ?_
    refine lv_ifnonnullN hx hb dX7_session_10 ?_
    refine lv_ldc (v := (-2000000001)) hx hb hown (hts _ (xm 2 rfl)) dX7_session_13 ?_
    have q0 := Option.some.inj hf
    subst r0
    subst hQ
    refine x_iret (post := (fun H H1 => H1 = H)) S hr hlocks rfl ?_ hL dX7_session_15
    exact rfl
  · have hf := (xo_s _ _ _).symm.trans hf
    obtain ⟨hi_i_3, hf⟩ := xg_some hf
    show W _ _ _ _ _ _ _ _ _ _ _ _ _ _ _ (F0 _ _ _ (.ref ((a + 1) + (6 + 2 * i_3)) :: _))
    refine lv_astore_n (lv' := [(3, .ref ((a + 1) + (6 + 2 * i_3))), (0, .ref a), (1, .int p1), (2, .int p2)]) hx hb dX7_session_8 rfl hl (by decide) rfl (fun ls hl => ?_)
    refine lv_aload_n hx hb dX7_session_9 rfl (lv_at hl 0 rfl) ?_
    refine lv_ifnonnull (tgt := 16) hx hb dX7_session_10 (by decide) ?_
    refine lv_iload_n hx hb dX7_session_16 rfl (lv_at hl 2 rfl) ?_
    refine lv_bipush (v := 20) hx hb dX7_session_17 (by decide) ?_
    refine lv_irem hx hb dX7_session_19 (by decide) ?_
    obtain ⟨x_4, ex_4, hf⟩ := xl_some hf
    refine x_top ex_4 ?_
    refine lv_istore (lv' := [(4, .int x_4), (3, .ref ((a + 1) + (6 + 2 * i_3))), (0, .ref a), (1, .int p1), (2, .int p2)]) hx hb dX7_session_20 hl (by decide) rfl (fun ls hl => ?_)
    refine lv_iload_n hx hb dX7_session_22 rfl (lv_at hl 4 rfl) ?_
    by_cases c_5 : p2 = 0
    · have hf := (if_pos c_5).symm.trans hf
      refine x_tin (tgt := 52) (off := 29) S 0 c_5 dX7_session_23 (by decide) (by decide) (by decide) (by decide) ?_
      refine lv_aload_n hx hb dX7_session_52 rfl (lv_at hl 1 rfl) ?_
      refine lv_iload hx hb dX7_session_53 (lv_at hl 0 rfl) ?_
      obtain ⟨r_6, e_7, hf⟩ := xb_some hf
      refine x_callVi (As := [.int x_4]) (rest := []) S hK (c_X1_dayOf l G z (a + 1) v i_3 x_4 r_6 hi_i_3 e_7) gX7_session_X1_dayOf rfl 1 (by decide +kernel) rfl ⟨Nat.le_of_ble_eq_true rfl, Nat.le_of_ble_eq_true rfl⟩ h_bk (6 + 2 * i_3) (by omega) rfl (bkE_hire G (a + 1) i_3 hi_i_3 _) rfl h_bk hl.1 rfl (Nat.le_of_ble_eq_true rfl) dX7_session_55 hL ⟨Nat.zero_le _, Nat.zero_le _⟩ (fun H1 locs hL hpost => ?_)
      subst hpost
      have q0 := Option.some.inj hf
      subst r0
      subst hQ
      refine x_iret (post := (fun H H1 => H1 = H)) S hr hlocks rfl ?_ hL dX7_session_58
      exact rfl
    have hf := (if_neg c_5).symm.trans hf
    by_cases c_8 : p2 = 1
    · have hf := (if_pos c_8).symm.trans hf
      refine x_tin (tgt := 59) (off := 36) S 1 c_8 dX7_session_23 (by decide) (by decide) (by decide) (by decide) ?_
      refine lv_aload_n hx hb dX7_session_59 rfl (lv_at hl 1 rfl) ?_
      refine lv_iload hx hb dX7_session_60 (lv_at hl 0 rfl) ?_
      obtain ⟨r_9, e_10, hf⟩ := xb_some hf
      refine x_callVi (As := [.int x_4]) (rest := []) S hK (c_X1_stateOf l G z (a + 1) v i_3 x_4 r_9 hi_i_3 e_10) gX7_session_X1_stateOf rfl 1 (by decide +kernel) rfl ⟨Nat.le_of_ble_eq_true rfl, Nat.le_of_ble_eq_true rfl⟩ h_bk (6 + 2 * i_3) (by omega) rfl (bkE_hire G (a + 1) i_3 hi_i_3 _) rfl h_bk hl.1 rfl (Nat.le_of_ble_eq_true rfl) dX7_session_62 hL ⟨Nat.zero_le _, Nat.zero_le _⟩ (fun H1 locs hL hpost => ?_)
      subst hpost
      have q0 := Option.some.inj hf
      subst r0
      subst hQ
      refine x_iret (post := (fun H H1 => H1 = H)) S hr hlocks rfl ?_ hL dX7_session_65
      exact rfl
    have hf := (if_neg c_8).symm.trans hf
    by_cases c_11 : p2 = 2
    · have hf := (if_pos c_11).symm.trans hf
      refine x_tin (tgt := 66) (off := 43) S 2 c_11 dX7_session_23 (by decide) (by decide) (by decide) (by decide) ?_
      refine lv_aload_n hx hb dX7_session_66 rfl (lv_at hl 1 rfl) ?_
      refine lv_iload hx hb dX7_session_67 (lv_at hl 0 rfl) ?_
      obtain ⟨r_12, e_13, hf⟩ := xb_some hf
      refine x_callVi (As := [.int x_4]) (rest := []) S hK (c_X1_shareOf l G z (a + 1) v i_3 x_4 r_12 hi_i_3 e_13) gX7_session_X1_shareOf rfl 1 (by decide +kernel) rfl ⟨Nat.le_of_ble_eq_true rfl, Nat.le_of_ble_eq_true rfl⟩ h_bk (6 + 2 * i_3) (by omega) rfl (bkE_hire G (a + 1) i_3 hi_i_3 _) rfl h_bk hl.1 rfl (Nat.le_of_ble_eq_true rfl) dX7_session_69 hL ⟨Nat.zero_le _, Nat.zero_le _⟩ (fun H1 locs hL hpost => ?_)
      subst hpost
      have q0 := Option.some.inj hf
      subst r0
      subst hQ
      refine x_iret (post := (fun H H1 => H1 = H)) S hr hlocks rfl ?_ hL dX7_session_72
      exact rfl
    have hf := (if_neg c_11).symm.trans hf
    by_cases c_14 : p2 = 3
    · have hf := (if_pos c_14).symm.trans hf
      refine x_tin (tgt := 73) (off := 50) S 3 c_14 dX7_session_23 (by decide) (by decide) (by decide) (by decide) ?_
      refine lv_aload_n hx hb dX7_session_73 rfl (lv_at hl 1 rfl) ?_
      refine lv_iload hx hb dX7_session_74 (lv_at hl 0 rfl) ?_
      obtain ⟨r_15, e_16, hf⟩ := xb_some hf
      refine x_callVi (As := [.int x_4]) (rest := []) S hK (c_X1_stateOf l G z (a + 1) v i_3 x_4 r_15 hi_i_3 e_16) gX7_session_X1_stateOf rfl 1 (by decide +kernel) rfl ⟨Nat.le_of_ble_eq_true rfl, Nat.le_of_ble_eq_true rfl⟩ h_bk (6 + 2 * i_3) (by omega) rfl (bkE_hire G (a + 1) i_3 hi_i_3 _) rfl h_bk hl.1 rfl (Nat.le_of_ble_eq_true rfl) dX7_session_76 hL ⟨Nat.zero_le _, Nat.zero_le _⟩ (fun H1 locs hL hpost => ?_)
      subst hpost
      refine lv_if_ne (tgt := 98) hx hb dX7_session_79 (by decide) (fun c_17 => ?_) (fun c_17 => ?_)
      · have hf := (if_neg c_17).symm.trans hf
        refine lv_ldc (v := (-2000000004)) hx hb hown (hts _ (xm 4 rfl)) dX7_session_98 ?_
        have q0 := Option.some.inj hf
        subst r0
        subst hQ
        refine x_iret (post := (fun H H1 => H1 = H)) S hr hlocks rfl ?_ hL dX7_session_100
        exact rfl
      · have hf := (if_pos c_17).symm.trans hf
        refine lv_aload_n hx hb dX7_session_82 rfl (lv_at hl 1 rfl) ?_
        refine lv_iload hx hb dX7_session_83 (lv_at hl 0 rfl) ?_
        refine lv_aload_n hx hb dX7_session_85 rfl (lv_at hl 2 rfl) ?_
        refine x_get S hK h_hl 0 (by decide) rfl rfl rfl in7 0 (by decide) (xm 1 rfl) (x := .ref (a + 1)) rfl dX7_session_86 ?_
        refine x_get S hK h_bk 0 (by decide) rfl rfl rfl in0 0 (by decide) (xm 3 rfl) (x := .int (v 0 0)) rfl dX7_session_89 ?_
        obtain ⟨r_18, e_19, hf⟩ := xb_some hf
        refine x_callVi (As := [.int x_4, .int (v 0 0)]) (rest := []) S hK (c_X1_refundOf l G z (a + 1) v i_3 x_4 (v 0 0) r_18 hi_i_3 e_19) gX7_session_X1_refundOf rfl 2 (by decide +kernel) rfl ⟨Nat.le_of_ble_eq_true rfl, Nat.le_of_ble_eq_true rfl⟩ h_bk (6 + 2 * i_3) (by omega) rfl (bkE_hire G (a + 1) i_3 hi_i_3 _) rfl h_bk hl.1 rfl (Nat.le_of_ble_eq_true rfl) dX7_session_92 hL ⟨Nat.zero_le _, Nat.zero_le _⟩ (fun H1 locs hL hpost => ?_)
        subst hpost
        refine lv_goto (tgt := 100) hx hb dX7_session_95 (by decide) ?_
        have q0 := Option.some.inj hf
        subst r0
        subst hQ
        refine x_iret (post := (fun H H1 => H1 = H)) S hr hlocks rfl ?_ hL dX7_session_100
        exact rfl
    have hf := (if_neg c_14).symm.trans hf
    have tc_5 : p2.toInt ≠ 0 := fun h9 => c_5 (xti (h9.trans (by decide)))
    have tc_8 : p2.toInt ≠ 1 := fun h9 => c_8 (xti (h9.trans (by decide)))
    have tc_11 : p2.toInt ≠ 2 := fun h9 => c_11 (xti (h9.trans (by decide)))
    have tc_14 : p2.toInt ≠ 3 := fun h9 => c_14 (xti (h9.trans (by decide)))
    refine lv_tableOut (tgt := 101) hx hb dX7_session_23 (by omega) (by decide) ?_
    refine lv_ldc (v := (-2000000001)) hx hb hown (hts _ (xm 2 rfl)) dX7_session_101 ?_
    have q0 := Option.some.inj hf
    subst r0
    subst hQ
    refine x_iret (post := (fun H H1 => H1 = H)) S hr hlocks rfl ?_ hL dX7_session_103
    exact rfl
set_option maxRecDepth 100000 in
set_option maxHeartbeats 4000000 in
theorem c_X7_settle (l : Launch) (G : xG) (z : Nat) (a : Nat) (dv : xV) (v : xV) (hv : xV) (kv : Nat → xV) (p1 : Int32) (r0 : Int32) (v' : xV) (hv' : xV) (kv' : Nat → xV) (hz_bk : z ≤ (a + 1)) (hz_hs : z ≤ (a + 38)) (hf : f_X7_settle dv v hv kv p1 = some (r0, v', hv', kv')) : xM l yX7_settle wsX7_settle 4 104 G z [.ref a, .int p1] (fun H => PX G a 1 (hlE a) dv H ∧ PX G (a + 1) 37 (bkE G (a + 1)) v H ∧ PX G (a + 38) 2 (hsE G (a + 38)) hv H ∧ HU G (a + 38) kv H) (some (.int r0)) (fun H H1 => PX G (a + 1) 37 (bkE G (a + 1)) v' H1 ∧ PX G (a + 38) 2 (hsE G (a + 38)) hv' H1 ∧ HU G (a + 38) kv' H1 ∧ XF (fun q => ((a + 1) ≤ q ∧ q < (a + 1) + 37) ∨ ((a + 38) ≤ q ∧ q < (a + 38) + 2) ∨ ((a + 38) + 2 ≤ q ∧ q < (a + 38) + 150)) H H1) := by
  refine xM.of (cc := cX7_settle) (maxL := 3) (ret := (some .int)) (by decide +kernel) rfl (Nat.le_of_ble_eq_true rfl) ?_
  intro p e s m args below meth c ls Q hQ S hr hlocks hK hP hl
  obtain ⟨hx, hb, hml, hown, hts⟩ := id S
  obtain ⟨h_hl, h_bk, h_hs, h_hu⟩ := hP
  have hL : ∀ q ∈ ([] : List Loc), z ≤ q.base := fun q h => absurd h List.not_mem_nil
  have hF : XF (fun q => ((a + 1) ≤ q ∧ q < (a + 1) + 37) ∨ ((a + 38) ≤ q ∧ q < (a + 38) + 2) ∨ ((a + 38) + 2 ≤ q ∧ q < (a + 38) + 150)) s.heap s.heap := XF.rf
  have hl : lv_has ls 3 [(0, .ref a), (1, .int p1)] := hl
  have in1 : ∀ w ∈ u_ws RX1 TX1 15, w ∈ wsX7_settle := fun _ h => List.mem_cons_of_mem _ (List.mem_append_left _ (List.mem_append_left _ (List.mem_append_left _ (List.mem_append_right _ h))))
  have in7 : ∀ w ∈ u_ws RX7 TX7 6, w ∈ wsX7_settle := fun _ h => List.mem_cons_of_mem _ (List.mem_append_left _ (List.mem_append_left _ (List.mem_append_left _ (List.mem_append_left _ (List.mem_append_right _ h)))))
  unfold f_X7_settle at hf
  refine lv_aload_n hx hb dX7_settle_0 rfl (lv_at hl 0 rfl) ?_
  refine x_get S hK h_hl 0 (by decide) rfl rfl rfl in7 0 (by decide) (xm 1 rfl) (x := .ref (a + 1)) rfl dX7_settle_1 ?_
  refine lv_iload_n hx hb dX7_settle_4 rfl (lv_at hl 1 rfl) ?_
  obtain ⟨o_1, e_2, hf⟩ := xb_some hf
  refine x_callVi (As := [.int p1]) (rest := []) S hK (c_X0_hireAt l G z (a + 1) v p1 o_1 e_2) gX7_settle_X0_hireAt rfl 1 (by decide +kernel) rfl ⟨Nat.le_of_ble_eq_true rfl, Nat.le_of_ble_eq_true rfl⟩ h_bk 0 (by decide) rfl rfl rfl h_bk hl.1 rfl (Nat.le_of_ble_eq_true rfl) dX7_settle_5 hL ⟨Nat.zero_le _, Nat.zero_le _⟩ (fun H1 locs hL hpost => ?_)
  subst hpost
  obtain _ | i_3 := o_1
  · have hf := (xo_n _ _).symm.trans hf
    show W _ _ _ _ _ _ _ _ _ _ _ _ _ _ _ (F0 _ _ _ (.null :: _))
    refine lv_astore_nN (lv' := [(2, .null), (0, .ref a), (1, .int p1)]) hx hb dX7_settle_8 rfl hl (by decide) rfl (fun ls hl => ?_)
    refine lv_aload_nN hx hb dX7_settle_9 rfl (lv_at hl 0 rfl) ?_
    refine lv_ifnonnullN hx hb dX7_settle_10 ?_
    refine lv_ldc (v := (-2000000001)) hx hb hown (hts _ (xm 2 rfl)) dX7_settle_13 ?_
    obtain ⟨q0, qq0⟩ := Prod.mk.inj (Option.some.inj hf)
    obtain ⟨q1, qq1⟩ := Prod.mk.inj (qq0)
    obtain ⟨q2, qq2⟩ := Prod.mk.inj (qq1)
    have q3 := qq2
    subst r0
    subst v'
    subst hv'
    subst kv'
    subst hQ
    refine x_iret (post := (fun H H1 => PX G (a + 1) 37 (bkE G (a + 1)) v H1 ∧ PX G (a + 38) 2 (hsE G (a + 38)) hv H1 ∧ HU G (a + 38) kv H1 ∧ XF (fun q => ((a + 1) ≤ q ∧ q < (a + 1) + 37) ∨ ((a + 38) ≤ q ∧ q < (a + 38) + 2) ∨ ((a + 38) + 2 ≤ q ∧ q < (a + 38) + 150)) H H1)) S hr hlocks rfl ?_ hL dX7_settle_15
    exact ⟨h_bk, h_hs, h_hu, hF⟩
  · have hf := (xo_s _ _ _).symm.trans hf
    obtain ⟨hi_i_3, hf⟩ := xg_some hf
    show W _ _ _ _ _ _ _ _ _ _ _ _ _ _ _ (F0 _ _ _ (.ref ((a + 1) + (6 + 2 * i_3)) :: _))
    refine lv_astore_n (lv' := [(2, .ref ((a + 1) + (6 + 2 * i_3))), (0, .ref a), (1, .int p1)]) hx hb dX7_settle_8 rfl hl (by decide) rfl (fun ls hl => ?_)
    refine lv_aload_n hx hb dX7_settle_9 rfl (lv_at hl 0 rfl) ?_
    refine lv_ifnonnull (tgt := 16) hx hb dX7_settle_10 (by decide) ?_
    refine lv_aload_n hx hb dX7_settle_16 rfl (lv_at hl 0 rfl) ?_
    refine x_get S hK h_bk (6 + 2 * i_3) (by omega) rfl (bkE_hire G (a + 1) i_3 hi_i_3 _) rfl in1 13 (by decide) (xm 3 rfl) (x := .int (v (6 + 2 * i_3) 13)) rfl dX7_settle_17 ?_
    refine lv_if_ne (tgt := 41) hx hb dX7_settle_20 (by decide) (fun c_4 => ?_) (fun c_4 => ?_)
    · have hf := (if_neg c_4).symm.trans hf
      refine lv_ldc (v := (-2000000002)) hx hb hown (hts _ (xm 4 rfl)) dX7_settle_41 ?_
      obtain ⟨q0, qq0⟩ := Prod.mk.inj (Option.some.inj hf)
      obtain ⟨q1, qq1⟩ := Prod.mk.inj (qq0)
      obtain ⟨q2, qq2⟩ := Prod.mk.inj (qq1)
      have q3 := qq2
      subst r0
      subst v'
      subst hv'
      subst kv'
      subst hQ
      refine x_iret (post := (fun H H1 => PX G (a + 1) 37 (bkE G (a + 1)) v H1 ∧ PX G (a + 38) 2 (hsE G (a + 38)) hv H1 ∧ HU G (a + 38) kv H1 ∧ XF (fun q => ((a + 1) ≤ q ∧ q < (a + 1) + 37) ∨ ((a + 38) ≤ q ∧ q < (a + 38) + 2) ∨ ((a + 38) + 2 ≤ q ∧ q < (a + 38) + 150)) H H1)) S hr hlocks rfl ?_ hL dX7_settle_43
      exact ⟨h_bk, h_hs, h_hu, hF⟩
    · have hf := (if_pos c_4).symm.trans hf
      refine lv_aload_n hx hb dX7_settle_23 rfl (lv_at hl 0 rfl) ?_
      obtain ⟨r_5, e_6, hf⟩ := xb_some hf
      refine x_callVi (As := []) (rest := []) S hK (c_X1_plannedSessions l G z (a + 1) v i_3 r_5 hi_i_3 e_6) gX7_settle_X1_plannedSessions rfl 0 (by decide +kernel) rfl ⟨Nat.le_of_ble_eq_true rfl, Nat.le_of_ble_eq_true rfl⟩ h_bk (6 + 2 * i_3) (by omega) rfl (bkE_hire G (a + 1) i_3 hi_i_3 _) rfl h_bk hl.1 rfl (Nat.le_of_ble_eq_true rfl) dX7_settle_24 hL ⟨Nat.zero_le _, Nat.zero_le _⟩ (fun H1 locs hL hpost => ?_)
      subst hpost
      refine lv_if_gt (tgt := 41) hx hb dX7_settle_27 (by decide) (fun c_7 => ?_) (fun c_7 => ?_)
      · have hf := (if_pos c_7).symm.trans hf
        refine lv_ldc (v := (-2000000002)) hx hb hown (hts _ (xm 4 rfl)) dX7_settle_41 ?_
        obtain ⟨q0, qq0⟩ := Prod.mk.inj (Option.some.inj hf)
        obtain ⟨q1, qq1⟩ := Prod.mk.inj (qq0)
        obtain ⟨q2, qq2⟩ := Prod.mk.inj (qq1)
        have q3 := qq2
        subst r0
        subst v'
        subst hv'
        subst kv'
        subst hQ
        refine x_iret (post := (fun H H1 => PX G (a + 1) 37 (bkE G (a + 1)) v H1 ∧ PX G (a + 38) 2 (hsE G (a + 38)) hv H1 ∧ HU G (a + 38) kv H1 ∧ XF (fun q => ((a + 1) ≤ q ∧ q < (a + 1) + 37) ∨ ((a + 38) ≤ q ∧ q < (a + 38) + 2) ∨ ((a + 38) + 2 ≤ q ∧ q < (a + 38) + 150)) H H1)) S hr hlocks rfl ?_ hL dX7_settle_43
        exact ⟨h_bk, h_hs, h_hu, hF⟩
      · have hf := (if_neg c_7).symm.trans hf
        refine lv_aload_n hx hb dX7_settle_30 rfl (lv_at hl 1 rfl) ?_
        refine x_get S hK h_hl 0 (by decide) rfl rfl rfl in7 0 (by decide) (xm 1 rfl) (x := .ref (a + 1)) rfl dX7_settle_31 ?_
        refine lv_iload_n hx hb dX7_settle_34 rfl (lv_at hl 2 rfl) ?_
        obtain ⟨r_8, e_9, hf⟩ := xb_some hf
        refine x_callVi (As := [.int p1]) (rest := []) S hK (c_X0_keysFor l G z (a + 1) v p1 r_8 e_9) gX7_settle_X0_keysFor rfl 1 (by decide +kernel) rfl ⟨Nat.le_of_ble_eq_true rfl, Nat.le_of_ble_eq_true rfl⟩ h_bk 0 (by decide) rfl rfl rfl h_bk hl.1 rfl (Nat.le_of_ble_eq_true rfl) dX7_settle_35 hL ⟨Nat.zero_le _, Nat.zero_le _⟩ (fun H1 locs hL hpost => ?_)
        subst hpost
        refine lv_if_le (tgt := 44) hx hb dX7_settle_38 (by decide) (fun c_10 => ?_) (fun c_10 => ?_)
        · have hf := (if_pos c_10).symm.trans hf
          refine lv_aload_n hx hb dX7_settle_44 rfl (lv_at hl 1 rfl) ?_
          refine x_get S hK h_hl 0 (by decide) rfl rfl rfl in7 1 (by decide) (xm 5 rfl) (x := .ref (a + 38)) rfl dX7_settle_45 ?_
          refine lv_aload_n hx hb dX7_settle_48 rfl (lv_at hl 1 rfl) ?_
          refine x_get S hK h_hl 0 (by decide) rfl rfl rfl in7 0 (by decide) (xm 1 rfl) (x := .ref (a + 1)) rfl dX7_settle_49 ?_
          obtain ⟨hv_11, kv_12, e_13, hf⟩ := xb2_some hf
          refine x_callVv (As := [.ref (a + 1)]) (rest := []) S hK (c_X2_save l G z (a + 38) (a + 1) hv kv v hv_11 kv_12 (by omega) (by omega) (by omega) e_13) gX7_settle_X2_save rfl 1 (by decide +kernel) rfl ⟨Nat.le_of_ble_eq_true rfl, Nat.le_of_ble_eq_true rfl⟩ h_hs 0 (by decide) rfl rfl rfl ⟨h_hs, h_hu, h_bk⟩ hl.1 rfl (Nat.le_of_ble_eq_true rfl) dX7_settle_52 hL ⟨Nat.zero_le _, Nat.zero_le _⟩ (fun H1 locs hL hpost => ?_)
          obtain ⟨n_hs, n_hu, hfr⟩ := hpost
          have h_hs := n_hs
          have h_hu := n_hu
          have h_hl := h_hl.kept hfr (fun q h1 h2 h3 => by (try dsimp only at h3); omega)
          have h_bk := h_bk.kept hfr (fun q h1 h2 h3 => by (try dsimp only at h3); omega)
          have hF := hF.step hfr (fun q h => by (try dsimp only at h ⊢); omega)
          refine lv_aload_n hx hb dX7_settle_55 rfl (lv_at hl 1 rfl) ?_
          refine x_get S hK h_hl 0 (by decide) rfl rfl rfl in7 0 (by decide) (xm 1 rfl) (x := .ref (a + 1)) rfl dX7_settle_56 ?_
          refine lv_aload_n hx hb dX7_settle_59 rfl (lv_at hl 0 rfl) ?_
          obtain ⟨r_14, v_15, e_16, hf⟩ := xb2_some hf
          refine x_callVi (As := [.ref ((a + 1) + (6 + 2 * i_3))]) (rest := []) S hK (c_X0_giveDepositBack l G z (a + 1) v i_3 r_14 v_15 (by omega) hi_i_3 e_16) gX7_settle_X0_giveDepositBack rfl 1 (by decide +kernel) rfl ⟨Nat.le_of_ble_eq_true rfl, Nat.le_of_ble_eq_true rfl⟩ h_bk 0 (by decide) rfl rfl rfl h_bk hl.1 rfl (Nat.le_of_ble_eq_true rfl) dX7_settle_60 hL ⟨Nat.zero_le _, Nat.zero_le _⟩ (fun H1 locs hL hpost => ?_)
          obtain ⟨n_bk, hfr⟩ := hpost
          have h_bk := n_bk
          have h_hl := h_hl.kept hfr (fun q h1 h2 h3 => by (try dsimp only at h3); omega)
          have h_hs := h_hs.kept hfr (fun q h1 h2 h3 => by (try dsimp only at h3); omega)
          have h_hu := h_hu.kept hfr (fun q h1 h2 h3 => by (try dsimp only at h3); omega)
          have hF := hF.step hfr (fun q h => by (try dsimp only at h ⊢); omega)
          obtain ⟨q0, qq0⟩ := Prod.mk.inj (Option.some.inj hf)
          obtain ⟨q1, qq1⟩ := Prod.mk.inj (qq0)
          obtain ⟨q2, qq2⟩ := Prod.mk.inj (qq1)
          have q3 := qq2
          subst r0
          subst v'
          subst hv'
          subst kv'
          subst hQ
          refine x_iret (post := (fun H H1 => PX G (a + 1) 37 (bkE G (a + 1)) v_15 H1 ∧ PX G (a + 38) 2 (hsE G (a + 38)) hv_11 H1 ∧ HU G (a + 38) kv_12 H1 ∧ XF (fun q => ((a + 1) ≤ q ∧ q < (a + 1) + 37) ∨ ((a + 38) ≤ q ∧ q < (a + 38) + 2) ∨ ((a + 38) + 2 ≤ q ∧ q < (a + 38) + 150)) H H1)) S hr hlocks rfl ?_ hL dX7_settle_63
          exact ⟨h_bk, h_hs, h_hu, hF⟩
        · have hf := (if_neg c_10).symm.trans hf
          refine lv_ldc (v := (-2000000002)) hx hb hown (hts _ (xm 4 rfl)) dX7_settle_41 ?_
          obtain ⟨q0, qq0⟩ := Prod.mk.inj (Option.some.inj hf)
          obtain ⟨q1, qq1⟩ := Prod.mk.inj (qq0)
          obtain ⟨q2, qq2⟩ := Prod.mk.inj (qq1)
          have q3 := qq2
          subst r0
          subst v'
          subst hv'
          subst kv'
          subst hQ
          refine x_iret (post := (fun H H1 => PX G (a + 1) 37 (bkE G (a + 1)) v H1 ∧ PX G (a + 38) 2 (hsE G (a + 38)) hv H1 ∧ HU G (a + 38) kv H1 ∧ XF (fun q => ((a + 1) ≤ q ∧ q < (a + 1) + 37) ∨ ((a + 38) ≤ q ∧ q < (a + 38) + 2) ∨ ((a + 38) + 2 ≤ q ∧ q < (a + 38) + 150)) H H1)) S hr hlocks rfl ?_ hL dX7_settle_43
          exact ⟨h_bk, h_hs, h_hu, hF⟩
set_option maxRecDepth 100000 in
set_option maxHeartbeats 4000000 in
theorem c_X7_undo (l : Launch) (G : xG) (z : Nat) (a : Nat) (dv : xV) (v : xV) (hv : xV) (kv : Nat → xV) (r0 : Int32) (v' : xV) (hv' : xV) (hz_bk : z ≤ (a + 1)) (hz_hs : z ≤ (a + 38)) (hf : f_X7_undo dv v hv kv = some (r0, v', hv')) : xM l yX7_undo wsX7_undo 4 104 G z [.ref a] (fun H => PX G a 1 (hlE a) dv H ∧ PX G (a + 1) 37 (bkE G (a + 1)) v H ∧ PX G (a + 38) 2 (hsE G (a + 38)) hv H ∧ HU G (a + 38) kv H) (some (.int r0)) (fun H H1 => PX G (a + 1) 37 (bkE G (a + 1)) v' H1 ∧ PX G (a + 38) 2 (hsE G (a + 38)) hv' H1 ∧ XF (fun q => ((a + 1) ≤ q ∧ q < (a + 1) + 37) ∨ ((a + 38) ≤ q ∧ q < (a + 38) + 2)) H H1) := by
  refine xM.of (cc := cX7_undo) (maxL := 1) (ret := (some .int)) (by decide +kernel) rfl (Nat.le_of_ble_eq_true rfl) ?_
  intro p e s m args below meth c ls Q hQ S hr hlocks hK hP hl
  obtain ⟨hx, hb, hml, hown, hts⟩ := id S
  obtain ⟨h_hl, h_bk, h_hs, h_hu⟩ := hP
  have hL : ∀ q ∈ ([] : List Loc), z ≤ q.base := fun q h => absurd h List.not_mem_nil
  have hF : XF (fun q => ((a + 1) ≤ q ∧ q < (a + 1) + 37) ∨ ((a + 38) ≤ q ∧ q < (a + 38) + 2)) s.heap s.heap := XF.rf
  have hl : lv_has ls 1 [(0, .ref a)] := hl
  have in2 : ∀ w ∈ u_ws RX2 TX2 2, w ∈ wsX7_undo := fun _ h => List.mem_cons_of_mem _ (List.mem_append_left _ (List.mem_append_left _ (List.mem_append_left _ (List.mem_append_right _ h))))
  have in7 : ∀ w ∈ u_ws RX7 TX7 6, w ∈ wsX7_undo := fun _ h => List.mem_cons_of_mem _ (List.mem_append_left _ (List.mem_append_left _ (List.mem_append_left _ (List.mem_append_left _ (List.mem_append_right _ h)))))
  unfold f_X7_undo at hf
  refine lv_aload_n hx hb dX7_undo_0 rfl (lv_at hl 0 rfl) ?_
  refine x_get S hK h_hl 0 (by decide) rfl rfl rfl in7 1 (by decide) (xm 1 rfl) (x := .ref (a + 38)) rfl dX7_undo_1 ?_
  refine x_get S hK h_hs 0 (by decide) rfl rfl rfl in2 1 (by decide) (xm 2 rfl) (x := .int (hv 0 1)) rfl dX7_undo_4 ?_
  refine lv_iconst (v := 1) hx hb dX7_undo_7 (by decide) ?_
  refine lv_icmp_ge (tgt := 14) hx hb dX7_undo_8 (by decide) (fun c_1 => ?_) (fun c_1 => ?_)
  · have hf := (if_pos c_1).symm.trans hf
    refine lv_aload_n hx hb dX7_undo_14 rfl (lv_at hl 0 rfl) ?_
    refine x_get S hK h_hl 0 (by decide) rfl rfl rfl in7 1 (by decide) (xm 1 rfl) (x := .ref (a + 38)) rfl dX7_undo_15 ?_
    refine lv_aload_n hx hb dX7_undo_18 rfl (lv_at hl 0 rfl) ?_
    refine x_get S hK h_hl 0 (by decide) rfl rfl rfl in7 0 (by decide) (xm 4 rfl) (x := .ref (a + 1)) rfl dX7_undo_19 ?_
    obtain ⟨hv_2, v_3, e_4, hf⟩ := xb2_some hf
    refine x_callVv (As := [.ref (a + 1)]) (rest := []) S hK (c_X2_restore l G z (a + 38) (a + 1) hv kv v hv_2 v_3 (by omega) (by omega) (by omega) (by omega) e_4) gX7_undo_X2_restore rfl 1 (by decide +kernel) rfl ⟨Nat.le_of_ble_eq_true rfl, Nat.le_of_ble_eq_true rfl⟩ h_hs 0 (by decide) rfl rfl rfl ⟨h_hs, h_hu, h_bk⟩ hl.1 rfl (Nat.le_of_ble_eq_true rfl) dX7_undo_22 hL ⟨Nat.zero_le _, Nat.zero_le _⟩ (fun H1 locs hL hpost => ?_)
    obtain ⟨n_hs, n_bk, hfr⟩ := hpost
    have h_hs := n_hs
    have h_bk := n_bk
    have h_hl := h_hl.kept hfr (fun q h1 h2 h3 => by (try dsimp only at h3); omega)
    have h_hu := h_hu.kept hfr (fun q h1 h2 h3 => by (try dsimp only at h3); omega)
    have hF := hF.step hfr (fun q h => by (try dsimp only at h ⊢); omega)
    refine lv_aload_n hx hb dX7_undo_25 rfl (lv_at hl 0 rfl) ?_
    refine x_get S hK h_hl 0 (by decide) rfl rfl rfl in7 1 (by decide) (xm 1 rfl) (x := .ref (a + 38)) rfl dX7_undo_26 ?_
    refine x_get S hK h_hs 0 (by decide) rfl rfl rfl in2 1 (by decide) (xm 2 rfl) (x := .int (hv_2 0 1)) rfl dX7_undo_29 ?_
    obtain ⟨q0, qq0⟩ := Prod.mk.inj (Option.some.inj hf)
    obtain ⟨q1, qq1⟩ := Prod.mk.inj (qq0)
    have q2 := qq1
    subst r0
    subst v'
    subst hv'
    subst hQ
    refine x_iret (post := (fun H H1 => PX G (a + 1) 37 (bkE G (a + 1)) v_3 H1 ∧ PX G (a + 38) 2 (hsE G (a + 38)) hv_2 H1 ∧ XF (fun q => ((a + 1) ≤ q ∧ q < (a + 1) + 37) ∨ ((a + 38) ≤ q ∧ q < (a + 38) + 2)) H H1)) S hr hlocks rfl ?_ hL dX7_undo_32
    exact ⟨h_bk, h_hs, hF⟩
  · have hf := (if_neg c_1).symm.trans hf
    refine lv_ldc (v := (-2000000002)) hx hb hown (hts _ (xm 3 rfl)) dX7_undo_11 ?_
    obtain ⟨q0, qq0⟩ := Prod.mk.inj (Option.some.inj hf)
    obtain ⟨q1, qq1⟩ := Prod.mk.inj (qq0)
    have q2 := qq1
    subst r0
    subst v'
    subst hv'
    subst hQ
    refine x_iret (post := (fun H H1 => PX G (a + 1) 37 (bkE G (a + 1)) v H1 ∧ PX G (a + 38) 2 (hsE G (a + 38)) hv H1 ∧ XF (fun q => ((a + 1) ≤ q ∧ q < (a + 1) + 37) ∨ ((a + 38) ≤ q ∧ q < (a + 38) + 2)) H H1)) S hr hlocks rfl ?_ hL dX7_undo_13
    exact ⟨h_bk, h_hs, hF⟩
