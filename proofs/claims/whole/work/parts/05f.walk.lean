/-! ===== the methods, walked (written by program) ===== -/
set_option maxRecDepth 100000 in
set_option maxHeartbeats 4000000 in
theorem c_X8_of (l : Launch) (G : xG) (z : Nat) (o : Nat) (M : xV) (p1 : Int32) (p2 : Int32) (r0 : Int32)  (hf : f_X8_of M p1 p2 = some r0) : xM l yX8_of wsX8_of 1 21 G z [.ref o, .int p1, .int p2] (fun H => PX G o 5 (mdE G o) M H) (some (.int r0)) (fun H H1 => H1 = H) := by
  refine xM.of (cc := cX8_of) (maxL := 3) (ret := (some .int)) (by decide +kernel) rfl (Nat.le_of_ble_eq_true rfl) ?_
  intro p e s m args below meth c ls Q hQ S hr hlocks hK hP hl
  obtain ⟨hx, hb, hml, hown, hts⟩ := id S
  have h_md := hP
  have hL : ∀ q ∈ ([] : List Loc), z ≤ q.base := fun q h => absurd h List.not_mem_nil
  have hl : lv_has ls 3 [(0, .ref o), (1, .int p1), (2, .int p2)] := hl
  have in8 : ∀ w ∈ u_ws RX8 TX8 18, w ∈ wsX8_of := fun _ h => List.mem_cons_of_mem _ (List.mem_append_right _ h)
  unfold f_X8_of at hf
  refine lv_aload_n hx hb dX8_of_0 rfl (lv_at hl 0 rfl) ?_
  refine x_get S hK h_md 0 (by decide) rfl rfl rfl in8 0 (by decide) (xm 1 rfl) (x := .ref (o + 1)) rfl dX8_of_1 ?_
  refine lv_iload_n hx hb dX8_of_4 rfl (lv_at hl 1 rfl) ?_
  refine lv_iload_n hx hb dX8_of_5 rfl (lv_at hl 2 rfl) ?_
  obtain ⟨r_1, e_2, hf⟩ := xb_some hf
  refine x_callTi (As := [.int p1, .int p2]) (rest := [.ref (o + 1)]) S hK (c_X8_at l G z p1 p2 r_1 e_2) gX8_of_X8_at rfl 2 (by decide +kernel) rfl ⟨Nat.le_of_ble_eq_true rfl, Nat.le_of_ble_eq_true rfl⟩ rfl hl.1 rfl (Nat.le_of_ble_eq_true rfl) dX8_of_6 hL ⟨Nat.zero_le _, Nat.zero_le _⟩ (fun H1 locs hL hpost => ?_)
  subst hpost
  obtain ⟨g_3, hf⟩ := xg_some hf
  refine x_iald S hK h_md 1 (by decide) rfl rfl r_1.toNatClampNeg rfl g_3 dX8_of_9 ?_
  have q0 := Option.some.inj hf
  subst r0
  subst hQ
  refine x_iret (post := (fun H H1 => H1 = H)) S hr hlocks rfl ?_ hL dX8_of_10
  exact rfl
set_option maxRecDepth 100000 in
set_option maxHeartbeats 4000000 in
theorem c_X8_isSession (l : Launch) (G : xG) (z : Nat) (o : Nat) (M : xV) (p1 : Int32) (r0 : Int32)  (hf : f_X8_isSession M p1 = some r0) : xM l yX8_isSession wsX8_isSession 2 46 G z [.ref o, .int p1] (fun H => PX G o 5 (mdE G o) M H) (some (.int r0)) (fun H H1 => H1 = H) := by
  refine xM.of (cc := cX8_isSession) (maxL := 2) (ret := (some .boolean)) (by decide +kernel) rfl (Nat.le_of_ble_eq_true rfl) ?_
  intro p e s m args below meth c ls Q hQ S hr hlocks hK hP hl
  obtain ⟨hx, hb, hml, hown, hts⟩ := id S
  have h_md := hP
  have hL : ∀ q ∈ ([] : List Loc), z ≤ q.base := fun q h => absurd h List.not_mem_nil
  have hl : lv_has ls 2 [(0, .ref o), (1, .int p1)] := hl
  unfold f_X8_isSession at hf
  refine lv_iload_n hx hb dX8_isSession_0 rfl (lv_at hl 1 rfl) ?_
  refine lv_if_lt (tgt := 35) hx hb dX8_isSession_1 (by decide) (fun c_1 => ?_) (fun c_1 => ?_)
  · have hf := (if_pos c_1).symm.trans hf
    refine lv_iconst (v := 0) hx hb dX8_isSession_35 (by decide) ?_
    have q0 := Option.some.inj hf
    subst r0
    subst hQ
    refine x_zret (post := (fun H H1 => H1 = H)) S hr hlocks (by decide) rfl ?_ hL dX8_isSession_36
    exact rfl
  · have hf := (if_neg c_1).symm.trans hf
    refine lv_aload_n hx hb dX8_isSession_4 rfl (lv_at hl 0 rfl) ?_
    refine lv_iload_n hx hb dX8_isSession_5 rfl (lv_at hl 1 rfl) ?_
    refine lv_bipush (v := 20) hx hb dX8_isSession_6 (by decide) ?_
    refine lv_idiv hx hb dX8_isSession_8 (by decide) ?_
    obtain ⟨r_2, e_3, hf⟩ := xb_some hf
    refine x_callVi (As := [.int (p1 / 20)]) (rest := []) S hK (c_X8_isHire l G z o M (p1 / 20) r_2 e_3) gX8_isSession_X8_isHire rfl 1 (by decide +kernel) rfl ⟨Nat.le_of_ble_eq_true rfl, Nat.le_of_ble_eq_true rfl⟩ h_md 0 (by decide) rfl rfl rfl h_md hl.1 rfl (Nat.le_of_ble_eq_true rfl) dX8_isSession_9 hL ⟨Nat.zero_le _, Nat.zero_le _⟩ (fun H1 locs hL hpost => ?_)
    subst hpost
    refine lv_if_eq (tgt := 35) hx hb dX8_isSession_12 (by decide) (fun c_4 => ?_) (fun c_4 => ?_)
    · have hf := (if_pos c_4).symm.trans hf
      refine lv_iconst (v := 0) hx hb dX8_isSession_35 (by decide) ?_
      have q0 := Option.some.inj hf
      subst r0
      subst hQ
      refine x_zret (post := (fun H H1 => H1 = H)) S hr hlocks (by decide) rfl ?_ hL dX8_isSession_36
      exact rfl
    · have hf := (if_neg c_4).symm.trans hf
      refine lv_iload_n hx hb dX8_isSession_15 rfl (lv_at hl 1 rfl) ?_
      refine lv_bipush (v := 20) hx hb dX8_isSession_16 (by decide) ?_
      refine lv_irem hx hb dX8_isSession_18 (by decide) ?_
      refine lv_aload_n hx hb dX8_isSession_19 rfl (lv_at hl 0 rfl) ?_
      refine lv_iload_n hx hb dX8_isSession_20 rfl (lv_at hl 1 rfl) ?_
      refine lv_bipush (v := 20) hx hb dX8_isSession_21 (by decide) ?_
      refine lv_idiv hx hb dX8_isSession_23 (by decide) ?_
      refine lv_iconst (v := 4) hx hb dX8_isSession_24 (by decide) ?_
      obtain ⟨r_5, e_6, hf⟩ := xb_some hf
      refine x_callVi (As := [.int (p1 / 20), .int 4]) (rest := [.int (p1 - p1 / 20 * 20)]) S hK (c_X8_of l G z o M (p1 / 20) 4 r_5 e_6) gX8_isSession_X8_of rfl 2 (by decide +kernel) rfl ⟨Nat.le_of_ble_eq_true rfl, Nat.le_of_ble_eq_true rfl⟩ h_md 0 (by decide) rfl rfl rfl h_md hl.1 rfl (Nat.le_of_ble_eq_true rfl) dX8_isSession_25 hL ⟨Nat.zero_le _, Nat.zero_le _⟩ (fun H1 locs hL hpost => ?_)
      subst hpost
      refine lv_icmp_ge (tgt := 35) hx hb dX8_isSession_28 (by decide) (fun c_7 => ?_) (fun c_7 => ?_)
      · have hf := (if_pos c_7).symm.trans hf
        refine lv_iconst (v := 0) hx hb dX8_isSession_35 (by decide) ?_
        have q0 := Option.some.inj hf
        subst r0
        subst hQ
        refine x_zret (post := (fun H H1 => H1 = H)) S hr hlocks (by decide) rfl ?_ hL dX8_isSession_36
        exact rfl
      · have hf := (if_neg c_7).symm.trans hf
        refine lv_iconst (v := 1) hx hb dX8_isSession_31 (by decide) ?_
        refine lv_goto (tgt := 36) hx hb dX8_isSession_32 (by decide) ?_
        have q0 := Option.some.inj hf
        subst r0
        subst hQ
        refine x_zret (post := (fun H H1 => H1 = H)) S hr hlocks (by decide) rfl ?_ hL dX8_isSession_36
        exact rfl
set_option maxRecDepth 100000 in
set_option maxHeartbeats 4000000 in
theorem c_X8_pays (l : Launch) (G : xG) (z : Nat) (o : Nat) (M : xV) (p1 : Int32) (p2 : Int32) (M' : xV) (hz_md : z ≤ o) (hf : f_X8_pays M p1 p2 = some M') : xM l yX8_pays wsX8_pays 0 0 G z [.ref o, .int p1, .int p2] (fun H => PX G o 5 (mdE G o) M H) none (fun H H1 => PX G o 5 (mdE G o) M' H1 ∧ XF (fun q => (o ≤ q ∧ q < o + 5)) H H1) := by
  refine xM.of (cc := cX8_pays) (maxL := 3) (ret := none) (by decide +kernel) rfl (Nat.le_of_ble_eq_true rfl) ?_
  intro p e s m args below meth c ls Q hQ S hr hlocks hK hP hl
  obtain ⟨hx, hb, hml, hown, hts⟩ := id S
  have h_md := hP
  have hL : ∀ q ∈ ([] : List Loc), z ≤ q.base := fun q h => absurd h List.not_mem_nil
  have hF : XF (fun q => (o ≤ q ∧ q < o + 5)) s.heap s.heap := XF.rf
  have hl : lv_has ls 3 [(0, .ref o), (1, .int p1), (2, .int p2)] := hl
  have in8 : ∀ w ∈ u_ws RX8 TX8 18, w ∈ wsX8_pays := fun _ h => List.mem_cons_of_mem _ (List.mem_append_right _ h)
  unfold f_X8_pays at hf
  refine lv_aload_n hx hb dX8_pays_0 rfl (lv_at hl 0 rfl) ?_
  refine x_get S hK h_md 0 (by decide) rfl rfl rfl in8 0 (by decide) (xm 1 rfl) (x := .ref (o + 1)) rfl dX8_pays_1 ?_
  refine lv_bipush (v := 20) hx hb dX8_pays_4 (by decide) ?_
  refine lv_iconst (v := 2) hx hb dX8_pays_6 (by decide) ?_
  refine lv_iload_n hx hb dX8_pays_7 rfl (lv_at hl 1 rfl) ?_
  refine lv_imul hx hb dX8_pays_8 ?_
  refine lv_iadd hx hb dX8_pays_9 ?_
  refine lv_iconst (v := 1) hx hb dX8_pays_10 (by decide) ?_
  refine lv_iadd hx hb dX8_pays_11 ?_
  refine lv_dup2_11 hx hb dX8_pays_12 rfl rfl ?_
  obtain ⟨g_1, hf⟩ := xg_some hf
  refine x_iald S hK h_md 1 (by decide) rfl rfl ((20 + (2 * p1)) + 1).toNatClampNeg rfl g_1 dX8_pays_13 ?_
  refine lv_iload_n hx hb dX8_pays_14 rfl (lv_at hl 2 rfl) ?_
  refine lv_iadd hx hb dX8_pays_15 ?_
  obtain ⟨g_2, hf⟩ := xg_some hf
  obtain ⟨M_3, eM_3, hf⟩ := xl_some hf
  refine x_iast S hK h_md hz_md hL 1 (by decide) rfl rfl ((20 + (2 * p1)) + 1).toNatClampNeg rfl g_2 rfl eM_3 dX8_pays_16 (fun H1 locs hL h_md hfr => ?_)
  have hF := hF.step hfr (fun q h => by (try dsimp only at h ⊢); omega)
  have q0 := Option.some.inj hf
  subst M'
  subst hQ
  refine x_vret (post := (fun H H1 => PX G o 5 (mdE G o) M_3 H1 ∧ XF (fun q => (o ≤ q ∧ q < o + 5)) H H1)) S hr hlocks rfl ?_ hL dX8_pays_17
  exact ⟨h_md, hF⟩
set_option maxRecDepth 100000 in
set_option maxHeartbeats 4000000 in
theorem c_X8_dayOf (l : Launch) (G : xG) (z : Nat) (o : Nat) (M : xV) (p1 : Int32) (r0 : Int32)  (hf : f_X8_dayOf M p1 = some r0) : xM l yX8_dayOf wsX8_dayOf 2 43 G z [.ref o, .int p1] (fun H => PX G o 5 (mdE G o) M H) (some (.int r0)) (fun H H1 => H1 = H) := by
  refine xM.of (cc := cX8_dayOf) (maxL := 3) (ret := (some .int)) (by decide +kernel) rfl (Nat.le_of_ble_eq_true rfl) ?_
  intro p e s m args below meth c ls Q hQ S hr hlocks hK hP hl
  obtain ⟨hx, hb, hml, hown, hts⟩ := id S
  have h_md := hP
  have hL : ∀ q ∈ ([] : List Loc), z ≤ q.base := fun q h => absurd h List.not_mem_nil
  have hl : lv_has ls 3 [(0, .ref o), (1, .int p1)] := hl
  unfold f_X8_dayOf at hf
  refine lv_iload_n hx hb dX8_dayOf_0 rfl (lv_at hl 1 rfl) ?_
  refine lv_bipush (v := 20) hx hb dX8_dayOf_1 (by decide) ?_
  refine lv_idiv hx hb dX8_dayOf_3 (by decide) ?_
  obtain ⟨x_1, ex_1, hf⟩ := xl_some hf
  refine x_top ex_1 ?_
  refine lv_istore_n (lv' := [(2, .int x_1), (0, .ref o), (1, .int p1)]) hx hb dX8_dayOf_4 rfl hl (by decide) rfl (fun ls hl => ?_)
  refine lv_aload_n hx hb dX8_dayOf_5 rfl (lv_at hl 1 rfl) ?_
  refine lv_iload_n hx hb dX8_dayOf_6 rfl (lv_at hl 0 rfl) ?_
  refine lv_iconst (v := 5) hx hb dX8_dayOf_7 (by decide) ?_
  obtain ⟨r_2, e_3, hf⟩ := xb_some hf
  refine x_callVi (As := [.int x_1, .int 5]) (rest := []) S hK (c_X8_of l G z o M x_1 5 r_2 e_3) gX8_dayOf_X8_of rfl 2 (by decide +kernel) rfl ⟨Nat.le_of_ble_eq_true rfl, Nat.le_of_ble_eq_true rfl⟩ h_md 0 (by decide) rfl rfl rfl h_md hl.1 rfl (Nat.le_of_ble_eq_true rfl) dX8_dayOf_8 hL ⟨Nat.zero_le _, Nat.zero_le _⟩ (fun H1 locs hL hpost => ?_)
  subst hpost
  refine lv_iload_n hx hb dX8_dayOf_11 rfl (lv_at hl 2 rfl) ?_
  refine lv_bipush (v := 20) hx hb dX8_dayOf_12 (by decide) ?_
  refine lv_irem hx hb dX8_dayOf_14 (by decide) ?_
  refine lv_aload_n hx hb dX8_dayOf_15 rfl (lv_at hl 1 rfl) ?_
  refine lv_iload_n hx hb dX8_dayOf_16 rfl (lv_at hl 0 rfl) ?_
  refine lv_bipush (v := 6) hx hb dX8_dayOf_17 (by decide) ?_
  obtain ⟨r_4, e_5, hf⟩ := xb_some hf
  refine x_callVi (As := [.int x_1, .int 6]) (rest := [.int (p1 - p1 / 20 * 20), .int r_2]) S hK (c_X8_of l G z o M x_1 6 r_4 e_5) gX8_dayOf_X8_of rfl 2 (by decide +kernel) rfl ⟨Nat.le_of_ble_eq_true rfl, Nat.le_of_ble_eq_true rfl⟩ h_md 0 (by decide) rfl rfl rfl h_md hl.1 rfl (Nat.le_of_ble_eq_true rfl) dX8_dayOf_19 hL ⟨Nat.zero_le _, Nat.zero_le _⟩ (fun H1 locs hL hpost => ?_)
  subst hpost
  refine lv_imul hx hb dX8_dayOf_22 ?_
  refine lv_iadd hx hb dX8_dayOf_23 ?_
  have q0 := Option.some.inj hf
  subst r0
  subst hQ
  refine x_iret (post := (fun H H1 => H1 = H)) S hr hlocks rfl ?_ hL dX8_dayOf_24
  exact rfl
set_option maxRecDepth 100000 in
set_option maxHeartbeats 4000000 in
theorem c_X8_shareOf (l : Launch) (G : xG) (z : Nat) (o : Nat) (M : xV) (p1 : Int32) (r0 : Int32)  (hf : f_X8_shareOf M p1 = some r0) : xM l yX8_shareOf wsX8_shareOf 2 43 G z [.ref o, .int p1] (fun H => PX G o 5 (mdE G o) M H) (some (.int r0)) (fun H H1 => H1 = H) := by
  refine xM.of (cc := cX8_shareOf) (maxL := 5) (ret := (some .int)) (by decide +kernel) rfl (Nat.le_of_ble_eq_true rfl) ?_
  intro p e s m args below meth c ls Q hQ S hr hlocks hK hP hl
  obtain ⟨hx, hb, hml, hown, hts⟩ := id S
  have h_md := hP
  have hL : ∀ q ∈ ([] : List Loc), z ≤ q.base := fun q h => absurd h List.not_mem_nil
  have hl : lv_has ls 5 [(0, .ref o), (1, .int p1)] := hl
  unfold f_X8_shareOf at hf
  refine lv_iload_n hx hb dX8_shareOf_0 rfl (lv_at hl 1 rfl) ?_
  refine lv_bipush (v := 20) hx hb dX8_shareOf_1 (by decide) ?_
  refine lv_idiv hx hb dX8_shareOf_3 (by decide) ?_
  obtain ⟨x_1, ex_1, hf⟩ := xl_some hf
  refine x_top ex_1 ?_
  refine lv_istore_n (lv' := [(2, .int x_1), (0, .ref o), (1, .int p1)]) hx hb dX8_shareOf_4 rfl hl (by decide) rfl (fun ls hl => ?_)
  refine lv_aload_n hx hb dX8_shareOf_5 rfl (lv_at hl 1 rfl) ?_
  refine lv_iload_n hx hb dX8_shareOf_6 rfl (lv_at hl 0 rfl) ?_
  refine lv_bipush (v := 7) hx hb dX8_shareOf_7 (by decide) ?_
  obtain ⟨r_2, e_3, hf⟩ := xb_some hf
  refine x_callVi (As := [.int x_1, .int 7]) (rest := []) S hK (c_X8_of l G z o M x_1 7 r_2 e_3) gX8_shareOf_X8_of rfl 2 (by decide +kernel) rfl ⟨Nat.le_of_ble_eq_true rfl, Nat.le_of_ble_eq_true rfl⟩ h_md 0 (by decide) rfl rfl rfl h_md hl.1 rfl (Nat.le_of_ble_eq_true rfl) dX8_shareOf_9 hL ⟨Nat.zero_le _, Nat.zero_le _⟩ (fun H1 locs hL hpost => ?_)
  subst hpost
  refine lv_istore_n (lv' := [(3, .int r_2), (2, .int x_1), (0, .ref o), (1, .int p1)]) hx hb dX8_shareOf_12 rfl hl (by decide) rfl (fun ls hl => ?_)
  refine lv_aload_n hx hb dX8_shareOf_13 rfl (lv_at hl 2 rfl) ?_
  refine lv_iload_n hx hb dX8_shareOf_14 rfl (lv_at hl 1 rfl) ?_
  refine lv_iconst (v := 4) hx hb dX8_shareOf_15 (by decide) ?_
  obtain ⟨r_4, e_5, hf⟩ := xb_some hf
  refine x_callVi (As := [.int x_1, .int 4]) (rest := []) S hK (c_X8_of l G z o M x_1 4 r_4 e_5) gX8_shareOf_X8_of rfl 2 (by decide +kernel) rfl ⟨Nat.le_of_ble_eq_true rfl, Nat.le_of_ble_eq_true rfl⟩ h_md 0 (by decide) rfl rfl rfl h_md hl.1 rfl (Nat.le_of_ble_eq_true rfl) dX8_shareOf_16 hL ⟨Nat.zero_le _, Nat.zero_le _⟩ (fun H1 locs hL hpost => ?_)
  subst hpost
  refine lv_istore (lv' := [(4, .int r_4), (3, .int r_2), (2, .int x_1), (0, .ref o), (1, .int p1)]) hx hb dX8_shareOf_19 hl (by decide) rfl (fun ls hl => ?_)
  refine lv_iload_n hx hb dX8_shareOf_21 rfl (lv_at hl 1 rfl) ?_
  refine lv_iload hx hb dX8_shareOf_22 (lv_at hl 0 rfl) ?_
  obtain ⟨g_6, hf⟩ := xg_some hf
  refine lv_idiv hx hb dX8_shareOf_24 g_6 ?_
  refine lv_iload_n hx hb dX8_shareOf_25 rfl (lv_at hl 4 rfl) ?_
  refine lv_bipush (v := 20) hx hb dX8_shareOf_26 (by decide) ?_
  refine lv_irem hx hb dX8_shareOf_28 (by decide) ?_
  refine lv_iload_n hx hb dX8_shareOf_29 rfl (lv_at hl 1 rfl) ?_
  refine lv_iload hx hb dX8_shareOf_30 (lv_at hl 0 rfl) ?_
  obtain ⟨g_7, hf⟩ := xg_some hf
  refine lv_irem hx hb dX8_shareOf_32 g_7 ?_
  refine lv_icmp_ge (tgt := 40) hx hb dX8_shareOf_33 (by decide) (fun c_8 => ?_) (fun c_8 => ?_)
  · have hf := (if_pos c_8).symm.trans hf
    refine lv_iconst (v := 0) hx hb dX8_shareOf_40 (by decide) ?_
    refine lv_iadd hx hb dX8_shareOf_41 ?_
    have q0 := Option.some.inj hf
    subst r0
    subst hQ
    refine x_iret (post := (fun H H1 => H1 = H)) S hr hlocks rfl ?_ hL dX8_shareOf_42
    exact rfl
  · have hf := (if_neg c_8).symm.trans hf
    refine lv_iconst (v := 1) hx hb dX8_shareOf_36 (by decide) ?_
    refine lv_goto (tgt := 41) hx hb dX8_shareOf_37 (by decide) ?_
    refine lv_iadd hx hb dX8_shareOf_41 ?_
    have q0 := Option.some.inj hf
    subst r0
    subst hQ
    refine x_iret (post := (fun H H1 => H1 = H)) S hr hlocks rfl ?_ hL dX8_shareOf_42
    exact rfl
set_option maxRecDepth 100000 in
set_option maxHeartbeats 4000000 in
theorem c_X8_refundOf (l : Launch) (G : xG) (z : Nat) (o : Nat) (M : xV) (p1 : Int32) (r0 : Int32)  (hf : f_X8_refundOf M p1 = some r0) : xM l yX8_refundOf wsX8_refundOf 3 67 G z [.ref o, .int p1] (fun H => PX G o 5 (mdE G o) M H) (some (.int r0)) (fun H H1 => H1 = H) := by
  refine xM.of (cc := cX8_refundOf) (maxL := 3) (ret := (some .int)) (by decide +kernel) rfl (Nat.le_of_ble_eq_true rfl) ?_
  intro p e s m args below meth c ls Q hQ S hr hlocks hK hP hl
  obtain ⟨hx, hb, hml, hown, hts⟩ := id S
  have h_md := hP
  have hL : ∀ q ∈ ([] : List Loc), z ≤ q.base := fun q h => absurd h List.not_mem_nil
  have hl : lv_has ls 3 [(0, .ref o), (1, .int p1)] := hl
  have in8 : ∀ w ∈ u_ws RX8 TX8 18, w ∈ wsX8_refundOf := fun _ h => List.mem_cons_of_mem _ (List.mem_append_right _ h)
  unfold f_X8_refundOf at hf
  refine lv_aload_n hx hb dX8_refundOf_0 rfl (lv_at hl 0 rfl) ?_
  refine lv_iload_n hx hb dX8_refundOf_1 rfl (lv_at hl 1 rfl) ?_
  obtain ⟨r_1, e_2, hf⟩ := xb_some hf
  refine x_callVi (As := [.int p1]) (rest := []) S hK (c_X8_dayOf l G z o M p1 r_1 e_2) gX8_refundOf_X8_dayOf rfl 1 (by decide +kernel) rfl ⟨Nat.le_of_ble_eq_true rfl, Nat.le_of_ble_eq_true rfl⟩ h_md 0 (by decide) rfl rfl rfl h_md hl.1 rfl (Nat.le_of_ble_eq_true rfl) dX8_refundOf_2 hL ⟨Nat.zero_le _, Nat.zero_le _⟩ (fun H1 locs hL hpost => ?_)
  subst hpost
  refine lv_aload_n hx hb dX8_refundOf_5 rfl (lv_at hl 0 rfl) ?_
  refine x_get S hK h_md 0 (by decide) rfl rfl rfl in8 0 (by decide) (xm 1 rfl) (x := .ref (o + 1)) rfl dX8_refundOf_6 ?_
  refine lv_iconst (v := 0) hx hb dX8_refundOf_9 (by decide) ?_
  refine x_iald S hK h_md 1 (by decide) rfl rfl 0 (by decide) (by decide) dX8_refundOf_10 ?_
  refine lv_isub hx hb dX8_refundOf_11 ?_
  obtain ⟨x_3, ex_3, hf⟩ := xl_some hf
  refine x_top ex_3 ?_
  refine lv_istore_n (lv' := [(2, .int x_3), (0, .ref o), (1, .int p1)]) hx hb dX8_refundOf_12 rfl hl (by decide) rfl (fun ls hl => ?_)
  refine lv_iload_n hx hb dX8_refundOf_13 rfl (lv_at hl 0 rfl) ?_
  refine lv_bipush (v := 14) hx hb dX8_refundOf_14 (by decide) ?_
  refine lv_icmp_lt (tgt := 27) hx hb dX8_refundOf_16 (by decide) (fun c_4 => ?_) (fun c_4 => ?_)
  · have hf := (if_pos c_4).symm.trans hf
    refine lv_iload_n hx hb dX8_refundOf_27 rfl (lv_at hl 0 rfl) ?_
    refine lv_bipush (v := 7) hx hb dX8_refundOf_28 (by decide) ?_
    refine lv_icmp_lt (tgt := 43) hx hb dX8_refundOf_30 (by decide) (fun c_5 => ?_) (fun c_5 => ?_)
    · have hf := (if_pos c_5).symm.trans hf
      refine lv_iconst (v := 0) hx hb dX8_refundOf_43 (by decide) ?_
      have q0 := Option.some.inj hf
      subst r0
      subst hQ
      refine x_iret (post := (fun H H1 => H1 = H)) S hr hlocks rfl ?_ hL dX8_refundOf_44
      exact rfl
    · have hf := (if_neg c_5).symm.trans hf
      refine lv_aload_n hx hb dX8_refundOf_33 rfl (lv_at hl 1 rfl) ?_
      refine lv_iload_n hx hb dX8_refundOf_34 rfl (lv_at hl 2 rfl) ?_
      obtain ⟨r_6, e_7, hf⟩ := xb_some hf
      refine x_callVi (As := [.int p1]) (rest := []) S hK (c_X8_shareOf l G z o M p1 r_6 e_7) gX8_refundOf_X8_shareOf rfl 1 (by decide +kernel) rfl ⟨Nat.le_of_ble_eq_true rfl, Nat.le_of_ble_eq_true rfl⟩ h_md 0 (by decide) rfl rfl rfl h_md hl.1 rfl (Nat.le_of_ble_eq_true rfl) dX8_refundOf_35 hL ⟨Nat.zero_le _, Nat.zero_le _⟩ (fun H1 locs hL hpost => ?_)
      subst hpost
      refine lv_iconst (v := 2) hx hb dX8_refundOf_38 (by decide) ?_
      refine lv_idiv hx hb dX8_refundOf_39 (by decide) ?_
      refine lv_goto (tgt := 44) hx hb dX8_refundOf_40 (by decide) ?_
      have q0 := Option.some.inj hf
      subst r0
      subst hQ
      refine x_iret (post := (fun H H1 => H1 = H)) S hr hlocks rfl ?_ hL dX8_refundOf_44
      exact rfl
  · have hf := (if_neg c_4).symm.trans hf
    refine lv_aload_n hx hb dX8_refundOf_19 rfl (lv_at hl 1 rfl) ?_
    refine lv_iload_n hx hb dX8_refundOf_20 rfl (lv_at hl 2 rfl) ?_
    obtain ⟨r_8, e_9, hf⟩ := xb_some hf
    refine x_callVi (As := [.int p1]) (rest := []) S hK (c_X8_shareOf l G z o M p1 r_8 e_9) gX8_refundOf_X8_shareOf rfl 1 (by decide +kernel) rfl ⟨Nat.le_of_ble_eq_true rfl, Nat.le_of_ble_eq_true rfl⟩ h_md 0 (by decide) rfl rfl rfl h_md hl.1 rfl (Nat.le_of_ble_eq_true rfl) dX8_refundOf_21 hL ⟨Nat.zero_le _, Nat.zero_le _⟩ (fun H1 locs hL hpost => ?_)
    subst hpost
    refine lv_goto (tgt := 44) hx hb dX8_refundOf_24 (by decide) ?_
    have q0 := Option.some.inj hf
    subst r0
    subst hQ
    refine x_iret (post := (fun H H1 => H1 = H)) S hr hlocks rfl ?_ hL dX8_refundOf_44
    exact rfl
set_option maxRecDepth 100000 in
set_option maxHeartbeats 4000000 in
theorem c_X8_stateOf (l : Launch) (G : xG) (z : Nat) (o : Nat) (M : xV) (p1 : Int32) (r0 : Int32)  (hf : f_X8_stateOf M p1 = some r0) : xM l yX8_stateOf wsX8_stateOf 2 43 G z [.ref o, .int p1] (fun H => PX G o 5 (mdE G o) M H) (some (.int r0)) (fun H H1 => H1 = H) := by
  refine xM.of (cc := cX8_stateOf) (maxL := 2) (ret := (some .int)) (by decide +kernel) rfl (Nat.le_of_ble_eq_true rfl) ?_
  intro p e s m args below meth c ls Q hQ S hr hlocks hK hP hl
  obtain ⟨hx, hb, hml, hown, hts⟩ := id S
  have h_md := hP
  have hL : ∀ q ∈ ([] : List Loc), z ≤ q.base := fun q h => absurd h List.not_mem_nil
  have hl : lv_has ls 2 [(0, .ref o), (1, .int p1)] := hl
  unfold f_X8_stateOf at hf
  refine lv_aload_n hx hb dX8_stateOf_0 rfl (lv_at hl 0 rfl) ?_
  refine lv_iload_n hx hb dX8_stateOf_1 rfl (lv_at hl 1 rfl) ?_
  refine lv_bipush (v := 20) hx hb dX8_stateOf_2 (by decide) ?_
  refine lv_idiv hx hb dX8_stateOf_4 (by decide) ?_
  refine lv_bipush (v := 12) hx hb dX8_stateOf_5 (by decide) ?_
  refine lv_iload_n hx hb dX8_stateOf_7 rfl (lv_at hl 1 rfl) ?_
  refine lv_bipush (v := 20) hx hb dX8_stateOf_8 (by decide) ?_
  refine lv_irem hx hb dX8_stateOf_10 (by decide) ?_
  refine lv_iadd hx hb dX8_stateOf_11 ?_
  obtain ⟨r_1, e_2, hf⟩ := xb_some hf
  refine x_callVi (As := [.int (p1 / 20), .int (12 + (p1 - p1 / 20 * 20))]) (rest := []) S hK (c_X8_of l G z o M (p1 / 20) (12 + (p1 - p1 / 20 * 20)) r_1 e_2) gX8_stateOf_X8_of rfl 2 (by decide +kernel) rfl ⟨Nat.le_of_ble_eq_true rfl, Nat.le_of_ble_eq_true rfl⟩ h_md 0 (by decide) rfl rfl rfl h_md hl.1 rfl (Nat.le_of_ble_eq_true rfl) dX8_stateOf_12 hL ⟨Nat.zero_le _, Nat.zero_le _⟩ (fun H1 locs hL hpost => ?_)
  subst hpost
  have q0 := Option.some.inj hf
  subst r0
  subst hQ
  refine x_iret (post := (fun H H1 => H1 = H)) S hr hlocks rfl ?_ hL dX8_stateOf_15
  exact rfl
set_option maxRecDepth 100000 in
set_option maxHeartbeats 4000000 in
theorem c_X8_cancel (l : Launch) (G : xG) (z : Nat) (o : Nat) (M : xV) (p1 : Int32) (r0 : Int32) (M' : xV) (hz_md : z ≤ o) (hf : f_X8_cancel M p1 = some (r0, M')) : xM l yX8_cancel wsX8_cancel 4 89 G z [.ref o, .int p1] (fun H => PX G o 5 (mdE G o) M H) (some (.int r0)) (fun H H1 => PX G o 5 (mdE G o) M' H1 ∧ XF (fun q => (o ≤ q ∧ q < o + 5)) H H1) := by
  refine xM.of (cc := cX8_cancel) (maxL := 4) (ret := (some .int)) (by decide +kernel) rfl (Nat.le_of_ble_eq_true rfl) ?_
  intro p e s m args below meth c ls Q hQ S hr hlocks hK hP hl
  obtain ⟨hx, hb, hml, hown, hts⟩ := id S
  have h_md := hP
  have hL : ∀ q ∈ ([] : List Loc), z ≤ q.base := fun q h => absurd h List.not_mem_nil
  have hF : XF (fun q => (o ≤ q ∧ q < o + 5)) s.heap s.heap := XF.rf
  have hl : lv_has ls 4 [(0, .ref o), (1, .int p1)] := hl
  have in8 : ∀ w ∈ u_ws RX8 TX8 18, w ∈ wsX8_cancel := fun _ h => List.mem_cons_of_mem _ (List.mem_append_right _ h)
  unfold f_X8_cancel at hf
  refine lv_aload_n hx hb dX8_cancel_0 rfl (lv_at hl 0 rfl) ?_
  refine lv_iload_n hx hb dX8_cancel_1 rfl (lv_at hl 1 rfl) ?_
  obtain ⟨r_1, e_2, hf⟩ := xb_some hf
  refine x_callVi (As := [.int p1]) (rest := []) S hK (c_X8_isSession l G z o M p1 r_1 e_2) gX8_cancel_X8_isSession rfl 1 (by decide +kernel) rfl ⟨Nat.le_of_ble_eq_true rfl, Nat.le_of_ble_eq_true rfl⟩ h_md 0 (by decide) rfl rfl rfl h_md hl.1 rfl (Nat.le_of_ble_eq_true rfl) dX8_cancel_2 hL ⟨Nat.zero_le _, Nat.zero_le _⟩ (fun H1 locs hL hpost => ?_)
  subst hpost
  refine lv_if_ne (tgt := 11) hx hb dX8_cancel_5 (by decide) (fun c_3 => ?_) (fun c_3 => ?_)
  · have hf := (if_neg c_3).symm.trans hf
    refine lv_aload_n hx hb dX8_cancel_11 rfl (lv_at hl 0 rfl) ?_
    refine lv_iload_n hx hb dX8_cancel_12 rfl (lv_at hl 1 rfl) ?_
    obtain ⟨r_4, e_5, hf⟩ := xb_some hf
    refine x_callVi (As := [.int p1]) (rest := []) S hK (c_X8_stateOf l G z o M p1 r_4 e_5) gX8_cancel_X8_stateOf rfl 1 (by decide +kernel) rfl ⟨Nat.le_of_ble_eq_true rfl, Nat.le_of_ble_eq_true rfl⟩ h_md 0 (by decide) rfl rfl rfl h_md hl.1 rfl (Nat.le_of_ble_eq_true rfl) dX8_cancel_13 hL ⟨Nat.zero_le _, Nat.zero_le _⟩ (fun H1 locs hL hpost => ?_)
    subst hpost
    refine lv_if_eq (tgt := 22) hx hb dX8_cancel_16 (by decide) (fun c_6 => ?_) (fun c_6 => ?_)
    · have hf := (if_pos c_6).symm.trans hf
      refine lv_aload_n hx hb dX8_cancel_22 rfl (lv_at hl 0 rfl) ?_
      obtain ⟨M_7, e_8, hf⟩ := xb_some hf
      refine x_callVv (As := []) (rest := []) S hK (c_X8_save l G z o M M_7 (by omega) e_8) gX8_cancel_X8_save rfl 0 (by decide +kernel) rfl ⟨Nat.le_of_ble_eq_true rfl, Nat.le_of_ble_eq_true rfl⟩ h_md 0 (by decide) rfl rfl rfl h_md hl.1 rfl (Nat.le_of_ble_eq_true rfl) dX8_cancel_23 hL ⟨Nat.zero_le _, Nat.zero_le _⟩ (fun H1 locs hL hpost => ?_)
      obtain ⟨n_md, hfr⟩ := hpost
      have h_md := n_md
      have hF := hF.step hfr (fun q h => by (try dsimp only at h ⊢); omega)
      refine lv_aload_n hx hb dX8_cancel_26 rfl (lv_at hl 0 rfl) ?_
      refine lv_iload_n hx hb dX8_cancel_27 rfl (lv_at hl 1 rfl) ?_
      obtain ⟨r_9, e_10, hf⟩ := xb_some hf
      refine x_callVi (As := [.int p1]) (rest := []) S hK (c_X8_refundOf l G z o M_7 p1 r_9 e_10) gX8_cancel_X8_refundOf rfl 1 (by decide +kernel) rfl ⟨Nat.le_of_ble_eq_true rfl, Nat.le_of_ble_eq_true rfl⟩ h_md 0 (by decide) rfl rfl rfl h_md hl.1 rfl (Nat.le_of_ble_eq_true rfl) dX8_cancel_28 hL ⟨Nat.zero_le _, Nat.zero_le _⟩ (fun H1 locs hL hpost => ?_)
      subst hpost
      refine lv_istore_n (lv' := [(2, .int r_9), (0, .ref o), (1, .int p1)]) hx hb dX8_cancel_31 rfl hl (by decide) rfl (fun ls hl => ?_)
      refine lv_iload_n hx hb dX8_cancel_32 rfl (lv_at hl 2 rfl) ?_
      refine lv_bipush (v := 20) hx hb dX8_cancel_33 (by decide) ?_
      refine lv_idiv hx hb dX8_cancel_35 (by decide) ?_
      obtain ⟨x_11, ex_11, hf⟩ := xl_some hf
      refine x_top ex_11 ?_
      refine lv_istore_n (lv' := [(3, .int x_11), (2, .int r_9), (0, .ref o), (1, .int p1)]) hx hb dX8_cancel_36 rfl hl (by decide) rfl (fun ls hl => ?_)
      refine lv_aload_n hx hb dX8_cancel_37 rfl (lv_at hl 2 rfl) ?_
      refine x_get S hK h_md 0 (by decide) rfl rfl rfl in8 0 (by decide) (xm 3 rfl) (x := .ref (o + 1)) rfl dX8_cancel_38 ?_
      refine lv_iload_n hx hb dX8_cancel_41 rfl (lv_at hl 0 rfl) ?_
      refine lv_bipush (v := 12) hx hb dX8_cancel_42 (by decide) ?_
      refine lv_iload_n hx hb dX8_cancel_44 rfl (lv_at hl 3 rfl) ?_
      refine lv_bipush (v := 20) hx hb dX8_cancel_45 (by decide) ?_
      refine lv_irem hx hb dX8_cancel_47 (by decide) ?_
      refine lv_iadd hx hb dX8_cancel_48 ?_
      obtain ⟨r_12, e_13, hf⟩ := xb_some hf
      refine x_callTi (As := [.int x_11, .int (12 + (p1 - p1 / 20 * 20))]) (rest := [.ref (o + 1)]) S hK (c_X8_at l G z x_11 (12 + (p1 - p1 / 20 * 20)) r_12 e_13) gX8_cancel_X8_at rfl 2 (by decide +kernel) rfl ⟨Nat.le_of_ble_eq_true rfl, Nat.le_of_ble_eq_true rfl⟩ rfl hl.1 rfl (Nat.le_of_ble_eq_true rfl) dX8_cancel_49 hL ⟨Nat.zero_le _, Nat.zero_le _⟩ (fun H1 locs hL hpost => ?_)
      subst hpost
      refine lv_iconst (v := 2) hx hb dX8_cancel_52 (by decide) ?_
      obtain ⟨g_14, hf⟩ := xg_some hf
      obtain ⟨M_15, eM_15, hf⟩ := xl_some hf
      refine x_iast S hK h_md hz_md hL 1 (by decide) rfl rfl r_12.toNatClampNeg rfl g_14 rfl eM_15 dX8_cancel_53 (fun H1 locs hL h_md hfr => ?_)
      have hF := hF.step hfr (fun q h => by (try dsimp only at h ⊢); omega)
      refine lv_aload_n hx hb dX8_cancel_54 rfl (lv_at hl 2 rfl) ?_
      refine lv_aload_n hx hb dX8_cancel_55 rfl (lv_at hl 2 rfl) ?_
      refine lv_iload_n hx hb dX8_cancel_56 rfl (lv_at hl 0 rfl) ?_
      refine lv_iconst (v := 0) hx hb dX8_cancel_57 (by decide) ?_
      obtain ⟨r_16, e_17, hf⟩ := xb_some hf
      refine x_callVi (As := [.int x_11, .int 0]) (rest := [.ref o]) S hK (c_X8_of l G z o M_15 x_11 0 r_16 e_17) gX8_cancel_X8_of rfl 2 (by decide +kernel) rfl ⟨Nat.le_of_ble_eq_true rfl, Nat.le_of_ble_eq_true rfl⟩ h_md 0 (by decide) rfl rfl rfl h_md hl.1 rfl (Nat.le_of_ble_eq_true rfl) dX8_cancel_58 hL ⟨Nat.zero_le _, Nat.zero_le _⟩ (fun H1 locs hL hpost => ?_)
      subst hpost
      refine lv_iload_n hx hb dX8_cancel_61 rfl (lv_at hl 1 rfl) ?_
      obtain ⟨M_18, e_19, hf⟩ := xb_some hf
      refine x_callVv (As := [.int r_16, .int r_9]) (rest := []) S hK (c_X8_pays l G z o M_15 r_16 r_9 M_18 (by omega) e_19) gX8_cancel_X8_pays rfl 2 (by decide +kernel) rfl ⟨Nat.le_of_ble_eq_true rfl, Nat.le_of_ble_eq_true rfl⟩ h_md 0 (by decide) rfl rfl rfl h_md hl.1 rfl (Nat.le_of_ble_eq_true rfl) dX8_cancel_62 hL ⟨Nat.zero_le _, Nat.zero_le _⟩ (fun H1 locs hL hpost => ?_)
      obtain ⟨n_md, hfr⟩ := hpost
      have h_md := n_md
      have hF := hF.step hfr (fun q h => by (try dsimp only at h ⊢); omega)
      refine lv_aload_n hx hb dX8_cancel_65 rfl (lv_at hl 2 rfl) ?_
      refine x_get S hK h_md 0 (by decide) rfl rfl rfl in8 0 (by decide) (xm 3 rfl) (x := .ref (o + 1)) rfl dX8_cancel_66 ?_
      refine lv_bipush (v := 12) hx hb dX8_cancel_69 (by decide) ?_
      refine lv_dup2_11 hx hb dX8_cancel_71 rfl rfl ?_
      refine x_iald S hK h_md 1 (by decide) rfl rfl 12 (by decide) (by decide) dX8_cancel_72 ?_
      refine lv_iload_n hx hb dX8_cancel_73 rfl (lv_at hl 1 rfl) ?_
      refine lv_iadd hx hb dX8_cancel_74 ?_
      obtain ⟨M_20, eM_20, hf⟩ := xl_some hf
      refine x_iast S hK h_md hz_md hL 1 (by decide) rfl rfl 12 (by decide) (by decide) rfl eM_20 dX8_cancel_75 (fun H1 locs hL h_md hfr => ?_)
      have hF := hF.step hfr (fun q h => by (try dsimp only at h ⊢); omega)
      refine lv_iload_n hx hb dX8_cancel_76 rfl (lv_at hl 1 rfl) ?_
      obtain ⟨q0, qq0⟩ := Prod.mk.inj (Option.some.inj hf)
      have q1 := qq0
      subst r0
      subst M'
      subst hQ
      refine x_iret (post := (fun H H1 => PX G o 5 (mdE G o) M_20 H1 ∧ XF (fun q => (o ≤ q ∧ q < o + 5)) H H1)) S hr hlocks rfl ?_ hL dX8_cancel_77
      exact ⟨h_md, hF⟩
    · have hf := (if_neg c_6).symm.trans hf
      refine lv_ldc (v := (-2000000002)) hx hb hown (hts _ (xm 2 rfl)) dX8_cancel_19 ?_
      obtain ⟨q0, qq0⟩ := Prod.mk.inj (Option.some.inj hf)
      have q1 := qq0
      subst r0
      subst M'
      subst hQ
      refine x_iret (post := (fun H H1 => PX G o 5 (mdE G o) M H1 ∧ XF (fun q => (o ≤ q ∧ q < o + 5)) H H1)) S hr hlocks rfl ?_ hL dX8_cancel_21
      exact ⟨h_md, hF⟩
  · have hf := (if_pos c_3).symm.trans hf
    refine lv_ldc (v := (-2000000001)) hx hb hown (hts _ (xm 1 rfl)) dX8_cancel_8 ?_
    obtain ⟨q0, qq0⟩ := Prod.mk.inj (Option.some.inj hf)
    have q1 := qq0
    subst r0
    subst M'
    subst hQ
    refine x_iret (post := (fun H H1 => PX G o 5 (mdE G o) M H1 ∧ XF (fun q => (o ≤ q ∧ q < o + 5)) H H1)) S hr hlocks rfl ?_ hL dX8_cancel_10
    exact ⟨h_md, hF⟩
set_option maxRecDepth 100000 in
set_option maxHeartbeats 4000000 in
theorem c_X8_charges (l : Launch) (G : xG) (z : Nat) (o : Nat) (M : xV) (p1 : Int32) (p2 : Int32) (M' : xV) (hz_md : z ≤ o) (hf : f_X8_charges M p1 p2 = some M') : xM l yX8_charges wsX8_charges 0 0 G z [.ref o, .int p1, .int p2] (fun H => PX G o 5 (mdE G o) M H) none (fun H H1 => PX G o 5 (mdE G o) M' H1 ∧ XF (fun q => (o ≤ q ∧ q < o + 5)) H H1) := by
  refine xM.of (cc := cX8_charges) (maxL := 3) (ret := none) (by decide +kernel) rfl (Nat.le_of_ble_eq_true rfl) ?_
  intro p e s m args below meth c ls Q hQ S hr hlocks hK hP hl
  obtain ⟨hx, hb, hml, hown, hts⟩ := id S
  have h_md := hP
  have hL : ∀ q ∈ ([] : List Loc), z ≤ q.base := fun q h => absurd h List.not_mem_nil
  have hF : XF (fun q => (o ≤ q ∧ q < o + 5)) s.heap s.heap := XF.rf
  have hl : lv_has ls 3 [(0, .ref o), (1, .int p1), (2, .int p2)] := hl
  have in8 : ∀ w ∈ u_ws RX8 TX8 18, w ∈ wsX8_charges := fun _ h => List.mem_cons_of_mem _ (List.mem_append_right _ h)
  unfold f_X8_charges at hf
  refine lv_aload_n hx hb dX8_charges_0 rfl (lv_at hl 0 rfl) ?_
  refine x_get S hK h_md 0 (by decide) rfl rfl rfl in8 0 (by decide) (xm 1 rfl) (x := .ref (o + 1)) rfl dX8_charges_1 ?_
  refine lv_bipush (v := 20) hx hb dX8_charges_4 (by decide) ?_
  refine lv_iconst (v := 2) hx hb dX8_charges_6 (by decide) ?_
  refine lv_iload_n hx hb dX8_charges_7 rfl (lv_at hl 1 rfl) ?_
  refine lv_imul hx hb dX8_charges_8 ?_
  refine lv_iadd hx hb dX8_charges_9 ?_
  refine lv_dup2_11 hx hb dX8_charges_10 rfl rfl ?_
  obtain ⟨g_1, hf⟩ := xg_some hf
  refine x_iald S hK h_md 1 (by decide) rfl rfl (20 + (2 * p1)).toNatClampNeg rfl g_1 dX8_charges_11 ?_
  refine lv_iload_n hx hb dX8_charges_12 rfl (lv_at hl 2 rfl) ?_
  refine lv_iadd hx hb dX8_charges_13 ?_
  obtain ⟨g_2, hf⟩ := xg_some hf
  obtain ⟨M_3, eM_3, hf⟩ := xl_some hf
  refine x_iast S hK h_md hz_md hL 1 (by decide) rfl rfl (20 + (2 * p1)).toNatClampNeg rfl g_2 rfl eM_3 dX8_charges_14 (fun H1 locs hL h_md hfr => ?_)
  have hF := hF.step hfr (fun q h => by (try dsimp only at h ⊢); omega)
  have q0 := Option.some.inj hf
  subst M'
  subst hQ
  refine x_vret (post := (fun H H1 => PX G o 5 (mdE G o) M_3 H1 ∧ XF (fun q => (o ≤ q ∧ q < o + 5)) H H1)) S hr hlocks rfl ?_ hL dX8_charges_15
  exact ⟨h_md, hF⟩
set_option maxRecDepth 100000 in
set_option maxHeartbeats 4000000 in
theorem c_X8_clash (l : Launch) (G : xG) (z : Nat) (o : Nat) (M : xV) (r0 : Int32)  (hf : f_X8_clash M = some r0) : xM l yX8_clash wsX8_clash 0 0 G z [.ref o] (fun H => PX G o 5 (mdE G o) M H) (some (.int r0)) (fun H H1 => H1 = H) := by
  refine xM.of (cc := cX8_clash) (maxL := 1) (ret := (some .int)) (by decide +kernel) rfl (Nat.le_of_ble_eq_true rfl) ?_
  intro p e s m args below meth c ls Q hQ S hr hlocks hK hP hl
  obtain ⟨hx, hb, hml, hown, hts⟩ := id S
  have h_md := hP
  have hL : ∀ q ∈ ([] : List Loc), z ≤ q.base := fun q h => absurd h List.not_mem_nil
  have hl : lv_has ls 1 [(0, .ref o)] := hl
  have in8 : ∀ w ∈ u_ws RX8 TX8 18, w ∈ wsX8_clash := fun _ h => List.mem_cons_of_mem _ (List.mem_append_right _ h)
  unfold f_X8_clash at hf
  refine lv_aload_n hx hb dX8_clash_0 rfl (lv_at hl 0 rfl) ?_
  refine x_get S hK h_md 0 (by decide) rfl rfl rfl in8 4 (by decide) (xm 1 rfl) (x := .int (M 0 4)) rfl dX8_clash_1 ?_
  have q0 := Option.some.inj hf
  subst r0
  subst hQ
  refine x_iret (post := (fun H H1 => H1 = H)) S hr hlocks rfl ?_ hL dX8_clash_4
  exact rfl
set_option maxRecDepth 100000 in
set_option maxHeartbeats 4000000 in
theorem c_X8_clashes (l : Launch) (G : xG) (z : Nat) (o : Nat) (M : xV) (p1 : Int32) (p2 : Int32) (p3 : Int32) (p4 : Int32) (p5 : Int32) (p6 : Int32) (r0 : Int32)  (hf : f_X8_clashes M p1 p2 p3 p4 p5 p6 = some r0) : xM l yX8_clashes wsX8_clashes 3 65 G z [.ref o, .int p1, .int p2, .int p3, .int p4, .int p5, .int p6] (fun H => PX G o 5 (mdE G o) M H) (some (.int r0)) (fun H H1 => H1 = H) := by
  refine xM.of (cc := cX8_clashes) (maxL := 10) (ret := (some .boolean)) (by decide +kernel) rfl (Nat.le_of_ble_eq_true rfl) ?_
  intro p e s m args below meth c ls Q hQ S hr hlocks hK hP hl
  obtain ⟨hx, hb, hml, hown, hts⟩ := id S
  have h_md := hP
  have hL : ∀ q ∈ ([] : List Loc), z ≤ q.base := fun q h => absurd h List.not_mem_nil
  have hl : lv_has ls 10 [(0, .ref o), (1, .int p1), (2, .int p2), (3, .int p3), (4, .int p4), (5, .int p5), (6, .int p6)] := hl
  have in8 : ∀ w ∈ u_ws RX8 TX8 18, w ∈ wsX8_clashes := fun _ h => List.mem_cons_of_mem _ (List.mem_append_right _ h)
  unfold f_X8_clashes at hf
  refine lv_iload_n hx hb dX8_clashes_0 rfl (lv_at hl 1 rfl) ?_
  refine lv_bipush (v := 20) hx hb dX8_clashes_1 (by decide) ?_
  refine lv_idiv hx hb dX8_clashes_3 (by decide) ?_
  obtain ⟨x_1, ex_1, hf⟩ := xl_some hf
  refine x_top ex_1 ?_
  refine lv_istore (lv' := [(7, .int x_1), (0, .ref o), (1, .int p1), (2, .int p2), (3, .int p3), (4, .int p4), (5, .int p5), (6, .int p6)]) hx hb dX8_clashes_4 hl (by decide) rfl (fun ls hl => ?_)
  refine lv_aload_n hx hb dX8_clashes_6 rfl (lv_at hl 1 rfl) ?_
  refine lv_iload hx hb dX8_clashes_7 (lv_at hl 0 rfl) ?_
  refine lv_iconst (v := 0) hx hb dX8_clashes_9 (by decide) ?_
  obtain ⟨r_2, e_3, hf⟩ := xb_some hf
  refine x_callVi (As := [.int x_1, .int 0]) (rest := []) S hK (c_X8_of l G z o M x_1 0 r_2 e_3) gX8_clashes_X8_of rfl 2 (by decide +kernel) rfl ⟨Nat.le_of_ble_eq_true rfl, Nat.le_of_ble_eq_true rfl⟩ h_md 0 (by decide) rfl rfl rfl h_md hl.1 rfl (Nat.le_of_ble_eq_true rfl) dX8_clashes_10 hL ⟨Nat.zero_le _, Nat.zero_le _⟩ (fun H1 locs hL hpost => ?_)
  subst hpost
  refine lv_iload_n hx hb dX8_clashes_13 rfl (lv_at hl 3 rfl) ?_
  refine lv_icmp_ne (tgt := 21) hx hb dX8_clashes_14 (by decide) (fun c_4 => ?_) (fun c_4 => ?_)
  · have hf := (if_neg c_4).symm.trans hf
    refine lv_aload_n hx hb dX8_clashes_21 rfl (lv_at hl 1 rfl) ?_
    refine x_get S hK h_md 0 (by decide) rfl rfl rfl in8 0 (by decide) (xm 1 rfl) (x := .ref (o + 1)) rfl dX8_clashes_22 ?_
    refine lv_iconst (v := 5) hx hb dX8_clashes_25 (by decide) ?_
    refine x_iald S hK h_md 1 (by decide) rfl rfl 5 (by decide) (by decide) dX8_clashes_26 ?_
    obtain ⟨x_5, ex_5, hf⟩ := xl_some hf
    refine x_top ex_5 ?_
    refine lv_istore (lv' := [(8, .int x_5), (7, .int x_1), (0, .ref o), (1, .int p1), (2, .int p2), (3, .int p3), (4, .int p4), (5, .int p5), (6, .int p6)]) hx hb dX8_clashes_27 hl (by decide) rfl (fun ls hl => ?_)
    refine lv_aload_n hx hb dX8_clashes_29 rfl (lv_at hl 2 rfl) ?_
    refine lv_iload_n hx hb dX8_clashes_30 rfl (lv_at hl 3 rfl) ?_
    obtain ⟨r_6, e_7, hf⟩ := xb_some hf
    refine x_callVi (As := [.int p1]) (rest := []) S hK (c_X8_stateOf l G z o M p1 r_6 e_7) gX8_clashes_X8_stateOf rfl 1 (by decide +kernel) rfl ⟨Nat.le_of_ble_eq_true rfl, Nat.le_of_ble_eq_true rfl⟩ h_md 0 (by decide) rfl rfl rfl h_md hl.1 rfl (Nat.le_of_ble_eq_true rfl) dX8_clashes_31 hL ⟨Nat.zero_le _, Nat.zero_le _⟩ (fun H1 locs hL hpost => ?_)
    subst hpost
    refine lv_iconst (v := 2) hx hb dX8_clashes_34 (by decide) ?_
    refine lv_icmp_eq (tgt := 64) hx hb dX8_clashes_35 (by decide) (fun c_8 => ?_) (fun c_8 => ?_)
    · have hf := (if_pos c_8).symm.trans hf
      refine lv_iconst (v := 0) hx hb dX8_clashes_64 (by decide) ?_
      refine lv_istore (lv' := [(9, .int 0), (8, .int x_5), (7, .int x_1), (0, .ref o), (1, .int p1), (2, .int p2), (3, .int p3), (4, .int p4), (5, .int p5), (6, .int p6)]) hx hb dX8_clashes_65 hl (by decide) rfl (fun ls hl => ?_)
      refine lv_iload hx hb dX8_clashes_67 (lv_at hl 0 rfl) ?_
      refine lv_if_eq (tgt := 106) hx hb dX8_clashes_69 (by decide) (fun _ => ?_) (fun h9 => absurd h9 (by decide))
      refine lv_iconst (v := 0) hx hb dX8_clashes_106 (by decide) ?_
      have q0 := Option.some.inj hf
      subst r0
      subst hQ
      refine x_zret (post := (fun H H1 => H1 = H)) S hr hlocks (by decide) rfl ?_ hL dX8_clashes_107
      exact rfl
    · have hf := (if_neg c_8).symm.trans hf
      refine lv_aload_n hx hb dX8_clashes_38 rfl (lv_at hl 2 rfl) ?_
      refine lv_iload_n hx hb dX8_clashes_39 rfl (lv_at hl 3 rfl) ?_
      obtain ⟨r_9, e_10, hf⟩ := xb_some hf
      refine x_callVi (As := [.int p1]) (rest := []) S hK (c_X8_dayOf l G z o M p1 r_9 e_10) gX8_clashes_X8_dayOf rfl 1 (by decide +kernel) rfl ⟨Nat.le_of_ble_eq_true rfl, Nat.le_of_ble_eq_true rfl⟩ h_md 0 (by decide) rfl rfl rfl h_md hl.1 rfl (Nat.le_of_ble_eq_true rfl) dX8_clashes_40 hL ⟨Nat.zero_le _, Nat.zero_le _⟩ (fun H1 locs hL hpost => ?_)
      subst hpost
      refine lv_iload hx hb dX8_clashes_43 (lv_at hl 6 rfl) ?_
      refine lv_icmp_ne (tgt := 64) hx hb dX8_clashes_45 (by decide) (fun c_11 => ?_) (fun c_11 => ?_)
      · have hf := (if_neg c_11).symm.trans hf
        refine lv_iconst (v := 0) hx hb dX8_clashes_64 (by decide) ?_
        refine lv_istore (lv' := [(9, .int 0), (8, .int x_5), (7, .int x_1), (0, .ref o), (1, .int p1), (2, .int p2), (3, .int p3), (4, .int p4), (5, .int p5), (6, .int p6)]) hx hb dX8_clashes_65 hl (by decide) rfl (fun ls hl => ?_)
        refine lv_iload hx hb dX8_clashes_67 (lv_at hl 0 rfl) ?_
        refine lv_if_eq (tgt := 106) hx hb dX8_clashes_69 (by decide) (fun _ => ?_) (fun h9 => absurd h9 (by decide))
        refine lv_iconst (v := 0) hx hb dX8_clashes_106 (by decide) ?_
        have q0 := Option.some.inj hf
        subst r0
        subst hQ
        refine x_zret (post := (fun H H1 => H1 = H)) S hr hlocks (by decide) rfl ?_ hL dX8_clashes_107
        exact rfl
      · have hf := (if_pos c_11).symm.trans hf
        refine lv_aload_n hx hb dX8_clashes_48 rfl (lv_at hl 2 rfl) ?_
        refine lv_iload hx hb dX8_clashes_49 (lv_at hl 1 rfl) ?_
        refine lv_iconst (v := 1) hx hb dX8_clashes_51 (by decide) ?_
        obtain ⟨r_12, e_13, hf⟩ := xb_some hf
        refine x_callVi (As := [.int x_1, .int 1]) (rest := []) S hK (c_X8_of l G z o M x_1 1 r_12 e_13) gX8_clashes_X8_of rfl 2 (by decide +kernel) rfl ⟨Nat.le_of_ble_eq_true rfl, Nat.le_of_ble_eq_true rfl⟩ h_md 0 (by decide) rfl rfl rfl h_md hl.1 rfl (Nat.le_of_ble_eq_true rfl) dX8_clashes_52 hL ⟨Nat.zero_le _, Nat.zero_le _⟩ (fun H1 locs hL hpost => ?_)
        subst hpost
        refine lv_iload_n hx hb dX8_clashes_55 rfl (lv_at hl 5 rfl) ?_
        refine lv_iand hx hb dX8_clashes_56 ?_
        refine lv_if_eq (tgt := 64) hx hb dX8_clashes_57 (by decide) (fun c_14 => ?_) (fun c_14 => ?_)
        · have hf := (if_pos c_14).symm.trans hf
          refine lv_iconst (v := 0) hx hb dX8_clashes_64 (by decide) ?_
          refine lv_istore (lv' := [(9, .int 0), (8, .int x_5), (7, .int x_1), (0, .ref o), (1, .int p1), (2, .int p2), (3, .int p3), (4, .int p4), (5, .int p5), (6, .int p6)]) hx hb dX8_clashes_65 hl (by decide) rfl (fun ls hl => ?_)
          refine lv_iload hx hb dX8_clashes_67 (lv_at hl 0 rfl) ?_
          refine lv_if_eq (tgt := 106) hx hb dX8_clashes_69 (by decide) (fun _ => ?_) (fun h9 => absurd h9 (by decide))
          refine lv_iconst (v := 0) hx hb dX8_clashes_106 (by decide) ?_
          have q0 := Option.some.inj hf
          subst r0
          subst hQ
          refine x_zret (post := (fun H H1 => H1 = H)) S hr hlocks (by decide) rfl ?_ hL dX8_clashes_107
          exact rfl
        · have hf := (if_neg c_14).symm.trans hf
          refine lv_iconst (v := 1) hx hb dX8_clashes_60 (by decide) ?_
          refine lv_goto (tgt := 65) hx hb dX8_clashes_61 (by decide) ?_
          refine lv_istore (lv' := [(9, .int 1), (8, .int x_5), (7, .int x_1), (0, .ref o), (1, .int p1), (2, .int p2), (3, .int p3), (4, .int p4), (5, .int p5), (6, .int p6)]) hx hb dX8_clashes_65 hl (by decide) rfl (fun ls hl => ?_)
          refine lv_iload hx hb dX8_clashes_67 (lv_at hl 0 rfl) ?_
          refine lv_if_eq (tgt := 106) hx hb dX8_clashes_69 (by decide) (fun h9 => absurd h9 (by decide)) (fun _ => ?_)
          refine lv_iload hx hb dX8_clashes_72 (lv_at hl 8 rfl) ?_
          refine lv_aload_n hx hb dX8_clashes_74 rfl (lv_at hl 3 rfl) ?_
          refine lv_iload hx hb dX8_clashes_75 (lv_at hl 2 rfl) ?_
          refine lv_iconst (v := 3) hx hb dX8_clashes_77 (by decide) ?_
          obtain ⟨r_15, e_16, hf⟩ := xb_some hf
          refine x_callVi (As := [.int x_1, .int 3]) (rest := [.int p5]) S hK (c_X8_of l G z o M x_1 3 r_15 e_16) gX8_clashes_X8_of rfl 2 (by decide +kernel) rfl ⟨Nat.le_of_ble_eq_true rfl, Nat.le_of_ble_eq_true rfl⟩ h_md 0 (by decide) rfl rfl rfl h_md hl.1 rfl (Nat.le_of_ble_eq_true rfl) dX8_clashes_78 hL ⟨Nat.zero_le _, Nat.zero_le _⟩ (fun H1 locs hL hpost => ?_)
          subst hpost
          refine lv_iload hx hb dX8_clashes_81 (lv_at hl 1 rfl) ?_
          refine lv_iadd hx hb dX8_clashes_83 ?_
          refine lv_icmp_ge (tgt := 106) hx hb dX8_clashes_84 (by decide) (fun c_17 => ?_) (fun c_17 => ?_)
          · have hf := (if_pos c_17).symm.trans hf
            refine lv_iconst (v := 0) hx hb dX8_clashes_106 (by decide) ?_
            have q0 := Option.some.inj hf
            subst r0
            subst hQ
            refine x_zret (post := (fun H H1 => H1 = H)) S hr hlocks (by decide) rfl ?_ hL dX8_clashes_107
            exact rfl
          · have hf := (if_neg c_17).symm.trans hf
            refine lv_aload_n hx hb dX8_clashes_87 rfl (lv_at hl 3 rfl) ?_
            refine lv_iload hx hb dX8_clashes_88 (lv_at hl 2 rfl) ?_
            refine lv_iconst (v := 2) hx hb dX8_clashes_90 (by decide) ?_
            obtain ⟨r_18, e_19, hf⟩ := xb_some hf
            refine x_callVi (As := [.int x_1, .int 2]) (rest := []) S hK (c_X8_of l G z o M x_1 2 r_18 e_19) gX8_clashes_X8_of rfl 2 (by decide +kernel) rfl ⟨Nat.le_of_ble_eq_true rfl, Nat.le_of_ble_eq_true rfl⟩ h_md 0 (by decide) rfl rfl rfl h_md hl.1 rfl (Nat.le_of_ble_eq_true rfl) dX8_clashes_91 hL ⟨Nat.zero_le _, Nat.zero_le _⟩ (fun H1 locs hL hpost => ?_)
            subst hpost
            refine lv_iload hx hb dX8_clashes_94 (lv_at hl 9 rfl) ?_
            refine lv_iload hx hb dX8_clashes_96 (lv_at hl 1 rfl) ?_
            refine lv_iadd hx hb dX8_clashes_98 ?_
            refine lv_icmp_ge (tgt := 106) hx hb dX8_clashes_99 (by decide) (fun c_20 => ?_) (fun c_20 => ?_)
            · have hf := (if_pos c_20).symm.trans hf
              refine lv_iconst (v := 0) hx hb dX8_clashes_106 (by decide) ?_
              have q0 := Option.some.inj hf
              subst r0
              subst hQ
              refine x_zret (post := (fun H H1 => H1 = H)) S hr hlocks (by decide) rfl ?_ hL dX8_clashes_107
              exact rfl
            · have hf := (if_neg c_20).symm.trans hf
              refine lv_iconst (v := 1) hx hb dX8_clashes_102 (by decide) ?_
              refine lv_goto (tgt := 107) hx hb dX8_clashes_103 (by decide) ?_
              have q0 := Option.some.inj hf
              subst r0
              subst hQ
              refine x_zret (post := (fun H H1 => H1 = H)) S hr hlocks (by decide) rfl ?_ hL dX8_clashes_107
              exact rfl
  · have hf := (if_pos c_4).symm.trans hf
    refine lv_iconst (v := 0) hx hb dX8_clashes_17 (by decide) ?_
    refine lv_goto (tgt := 27) hx hb dX8_clashes_18 (by decide) ?_
    refine lv_istore (lv' := [(8, .int 0), (7, .int x_1), (0, .ref o), (1, .int p1), (2, .int p2), (3, .int p3), (4, .int p4), (5, .int p5), (6, .int p6)]) hx hb dX8_clashes_27 hl (by decide) rfl (fun ls hl => ?_)
    refine lv_aload_n hx hb dX8_clashes_29 rfl (lv_at hl 2 rfl) ?_
    refine lv_iload_n hx hb dX8_clashes_30 rfl (lv_at hl 3 rfl) ?_
    obtain ⟨r_21, e_22, hf⟩ := xb_some hf
    refine x_callVi (As := [.int p1]) (rest := []) S hK (c_X8_stateOf l G z o M p1 r_21 e_22) gX8_clashes_X8_stateOf rfl 1 (by decide +kernel) rfl ⟨Nat.le_of_ble_eq_true rfl, Nat.le_of_ble_eq_true rfl⟩ h_md 0 (by decide) rfl rfl rfl h_md hl.1 rfl (Nat.le_of_ble_eq_true rfl) dX8_clashes_31 hL ⟨Nat.zero_le _, Nat.zero_le _⟩ (fun H1 locs hL hpost => ?_)
    subst hpost
    refine lv_iconst (v := 2) hx hb dX8_clashes_34 (by decide) ?_
    refine lv_icmp_eq (tgt := 64) hx hb dX8_clashes_35 (by decide) (fun c_23 => ?_) (fun c_23 => ?_)
    · have hf := (if_pos c_23).symm.trans hf
      refine lv_iconst (v := 0) hx hb dX8_clashes_64 (by decide) ?_
      refine lv_istore (lv' := [(9, .int 0), (8, .int 0), (7, .int x_1), (0, .ref o), (1, .int p1), (2, .int p2), (3, .int p3), (4, .int p4), (5, .int p5), (6, .int p6)]) hx hb dX8_clashes_65 hl (by decide) rfl (fun ls hl => ?_)
      refine lv_iload hx hb dX8_clashes_67 (lv_at hl 0 rfl) ?_
      refine lv_if_eq (tgt := 106) hx hb dX8_clashes_69 (by decide) (fun _ => ?_) (fun h9 => absurd h9 (by decide))
      refine lv_iconst (v := 0) hx hb dX8_clashes_106 (by decide) ?_
      have q0 := Option.some.inj hf
      subst r0
      subst hQ
      refine x_zret (post := (fun H H1 => H1 = H)) S hr hlocks (by decide) rfl ?_ hL dX8_clashes_107
      exact rfl
    · have hf := (if_neg c_23).symm.trans hf
      refine lv_aload_n hx hb dX8_clashes_38 rfl (lv_at hl 2 rfl) ?_
      refine lv_iload_n hx hb dX8_clashes_39 rfl (lv_at hl 3 rfl) ?_
      obtain ⟨r_24, e_25, hf⟩ := xb_some hf
      refine x_callVi (As := [.int p1]) (rest := []) S hK (c_X8_dayOf l G z o M p1 r_24 e_25) gX8_clashes_X8_dayOf rfl 1 (by decide +kernel) rfl ⟨Nat.le_of_ble_eq_true rfl, Nat.le_of_ble_eq_true rfl⟩ h_md 0 (by decide) rfl rfl rfl h_md hl.1 rfl (Nat.le_of_ble_eq_true rfl) dX8_clashes_40 hL ⟨Nat.zero_le _, Nat.zero_le _⟩ (fun H1 locs hL hpost => ?_)
      subst hpost
      refine lv_iload hx hb dX8_clashes_43 (lv_at hl 6 rfl) ?_
      refine lv_icmp_ne (tgt := 64) hx hb dX8_clashes_45 (by decide) (fun c_26 => ?_) (fun c_26 => ?_)
      · have hf := (if_neg c_26).symm.trans hf
        refine lv_iconst (v := 0) hx hb dX8_clashes_64 (by decide) ?_
        refine lv_istore (lv' := [(9, .int 0), (8, .int 0), (7, .int x_1), (0, .ref o), (1, .int p1), (2, .int p2), (3, .int p3), (4, .int p4), (5, .int p5), (6, .int p6)]) hx hb dX8_clashes_65 hl (by decide) rfl (fun ls hl => ?_)
        refine lv_iload hx hb dX8_clashes_67 (lv_at hl 0 rfl) ?_
        refine lv_if_eq (tgt := 106) hx hb dX8_clashes_69 (by decide) (fun _ => ?_) (fun h9 => absurd h9 (by decide))
        refine lv_iconst (v := 0) hx hb dX8_clashes_106 (by decide) ?_
        have q0 := Option.some.inj hf
        subst r0
        subst hQ
        refine x_zret (post := (fun H H1 => H1 = H)) S hr hlocks (by decide) rfl ?_ hL dX8_clashes_107
        exact rfl
      · have hf := (if_pos c_26).symm.trans hf
        refine lv_aload_n hx hb dX8_clashes_48 rfl (lv_at hl 2 rfl) ?_
        refine lv_iload hx hb dX8_clashes_49 (lv_at hl 1 rfl) ?_
        refine lv_iconst (v := 1) hx hb dX8_clashes_51 (by decide) ?_
        obtain ⟨r_27, e_28, hf⟩ := xb_some hf
        refine x_callVi (As := [.int x_1, .int 1]) (rest := []) S hK (c_X8_of l G z o M x_1 1 r_27 e_28) gX8_clashes_X8_of rfl 2 (by decide +kernel) rfl ⟨Nat.le_of_ble_eq_true rfl, Nat.le_of_ble_eq_true rfl⟩ h_md 0 (by decide) rfl rfl rfl h_md hl.1 rfl (Nat.le_of_ble_eq_true rfl) dX8_clashes_52 hL ⟨Nat.zero_le _, Nat.zero_le _⟩ (fun H1 locs hL hpost => ?_)
        subst hpost
        refine lv_iload_n hx hb dX8_clashes_55 rfl (lv_at hl 5 rfl) ?_
        refine lv_iand hx hb dX8_clashes_56 ?_
        refine lv_if_eq (tgt := 64) hx hb dX8_clashes_57 (by decide) (fun c_29 => ?_) (fun c_29 => ?_)
        · have hf := (if_pos c_29).symm.trans hf
          refine lv_iconst (v := 0) hx hb dX8_clashes_64 (by decide) ?_
          refine lv_istore (lv' := [(9, .int 0), (8, .int 0), (7, .int x_1), (0, .ref o), (1, .int p1), (2, .int p2), (3, .int p3), (4, .int p4), (5, .int p5), (6, .int p6)]) hx hb dX8_clashes_65 hl (by decide) rfl (fun ls hl => ?_)
          refine lv_iload hx hb dX8_clashes_67 (lv_at hl 0 rfl) ?_
          refine lv_if_eq (tgt := 106) hx hb dX8_clashes_69 (by decide) (fun _ => ?_) (fun h9 => absurd h9 (by decide))
          refine lv_iconst (v := 0) hx hb dX8_clashes_106 (by decide) ?_
          have q0 := Option.some.inj hf
          subst r0
          subst hQ
          refine x_zret (post := (fun H H1 => H1 = H)) S hr hlocks (by decide) rfl ?_ hL dX8_clashes_107
          exact rfl
        · have hf := (if_neg c_29).symm.trans hf
          refine lv_iconst (v := 1) hx hb dX8_clashes_60 (by decide) ?_
          refine lv_goto (tgt := 65) hx hb dX8_clashes_61 (by decide) ?_
          refine lv_istore (lv' := [(9, .int 1), (8, .int 0), (7, .int x_1), (0, .ref o), (1, .int p1), (2, .int p2), (3, .int p3), (4, .int p4), (5, .int p5), (6, .int p6)]) hx hb dX8_clashes_65 hl (by decide) rfl (fun ls hl => ?_)
          refine lv_iload hx hb dX8_clashes_67 (lv_at hl 0 rfl) ?_
          refine lv_if_eq (tgt := 106) hx hb dX8_clashes_69 (by decide) (fun h9 => absurd h9 (by decide)) (fun _ => ?_)
          refine lv_iload hx hb dX8_clashes_72 (lv_at hl 8 rfl) ?_
          refine lv_aload_n hx hb dX8_clashes_74 rfl (lv_at hl 3 rfl) ?_
          refine lv_iload hx hb dX8_clashes_75 (lv_at hl 2 rfl) ?_
          refine lv_iconst (v := 3) hx hb dX8_clashes_77 (by decide) ?_
          obtain ⟨r_30, e_31, hf⟩ := xb_some hf
          refine x_callVi (As := [.int x_1, .int 3]) (rest := [.int p5]) S hK (c_X8_of l G z o M x_1 3 r_30 e_31) gX8_clashes_X8_of rfl 2 (by decide +kernel) rfl ⟨Nat.le_of_ble_eq_true rfl, Nat.le_of_ble_eq_true rfl⟩ h_md 0 (by decide) rfl rfl rfl h_md hl.1 rfl (Nat.le_of_ble_eq_true rfl) dX8_clashes_78 hL ⟨Nat.zero_le _, Nat.zero_le _⟩ (fun H1 locs hL hpost => ?_)
          subst hpost
          refine lv_iload hx hb dX8_clashes_81 (lv_at hl 1 rfl) ?_
          refine lv_iadd hx hb dX8_clashes_83 ?_
          refine lv_icmp_ge (tgt := 106) hx hb dX8_clashes_84 (by decide) (fun c_32 => ?_) (fun c_32 => ?_)
          · have hf := (if_pos c_32).symm.trans hf
            refine lv_iconst (v := 0) hx hb dX8_clashes_106 (by decide) ?_
            have q0 := Option.some.inj hf
            subst r0
            subst hQ
            refine x_zret (post := (fun H H1 => H1 = H)) S hr hlocks (by decide) rfl ?_ hL dX8_clashes_107
            exact rfl
          · have hf := (if_neg c_32).symm.trans hf
            refine lv_aload_n hx hb dX8_clashes_87 rfl (lv_at hl 3 rfl) ?_
            refine lv_iload hx hb dX8_clashes_88 (lv_at hl 2 rfl) ?_
            refine lv_iconst (v := 2) hx hb dX8_clashes_90 (by decide) ?_
            obtain ⟨r_33, e_34, hf⟩ := xb_some hf
            refine x_callVi (As := [.int x_1, .int 2]) (rest := []) S hK (c_X8_of l G z o M x_1 2 r_33 e_34) gX8_clashes_X8_of rfl 2 (by decide +kernel) rfl ⟨Nat.le_of_ble_eq_true rfl, Nat.le_of_ble_eq_true rfl⟩ h_md 0 (by decide) rfl rfl rfl h_md hl.1 rfl (Nat.le_of_ble_eq_true rfl) dX8_clashes_91 hL ⟨Nat.zero_le _, Nat.zero_le _⟩ (fun H1 locs hL hpost => ?_)
            subst hpost
            refine lv_iload hx hb dX8_clashes_94 (lv_at hl 9 rfl) ?_
            refine lv_iload hx hb dX8_clashes_96 (lv_at hl 1 rfl) ?_
            refine lv_iadd hx hb dX8_clashes_98 ?_
            refine lv_icmp_ge (tgt := 106) hx hb dX8_clashes_99 (by decide) (fun c_35 => ?_) (fun c_35 => ?_)
            · have hf := (if_pos c_35).symm.trans hf
              refine lv_iconst (v := 0) hx hb dX8_clashes_106 (by decide) ?_
              have q0 := Option.some.inj hf
              subst r0
              subst hQ
              refine x_zret (post := (fun H H1 => H1 = H)) S hr hlocks (by decide) rfl ?_ hL dX8_clashes_107
              exact rfl
            · have hf := (if_neg c_35).symm.trans hf
              refine lv_iconst (v := 1) hx hb dX8_clashes_102 (by decide) ?_
              refine lv_goto (tgt := 107) hx hb dX8_clashes_103 (by decide) ?_
              have q0 := Option.some.inj hf
              subst r0
              subst hQ
              refine x_zret (post := (fun H H1 => H1 = H)) S hr hlocks (by decide) rfl ?_ hL dX8_clashes_107
              exact rfl
set_option maxRecDepth 100000 in
set_option maxHeartbeats 4000000 in
theorem c_X8_clashOn (l : Launch) (G : xG) (z : Nat) (o : Nat) (M : xV) (p1 : Int32) (p2 : Int32) (p3 : Int32) (p4 : Int32) (p5 : Int32) (r0 : Int32)  (hf : f_X8_clashOn M p1 p2 p3 p4 p5 = some r0) : xM l yX8_clashOn wsX8_clashOn 4 94 G z [.ref o, .int p1, .int p2, .int p3, .int p4, .int p5] (fun H => PX G o 5 (mdE G o) M H) (some (.int r0)) (fun H H1 => H1 = H) := by
  refine xM.of (cc := cX8_clashOn) (maxL := 10) (ret := (some .int)) (by decide +kernel) rfl (Nat.le_of_ble_eq_true rfl) ?_
  intro p e s m args below meth c ls Q hQ S hr hlocks hK hP hl
  obtain ⟨hx, hb, hml, hown, hts⟩ := id S
  have h_md := hP
  have hL : ∀ q ∈ ([] : List Loc), z ≤ q.base := fun q h => absurd h List.not_mem_nil
  have hl : lv_has ls 10 [(0, .ref o), (1, .int p1), (2, .int p2), (3, .int p3), (4, .int p4), (5, .int p5)] := hl
  have in8 : ∀ w ∈ u_ws RX8 TX8 18, w ∈ wsX8_clashOn := fun _ h => List.mem_cons_of_mem _ (List.mem_append_right _ h)
  unfold f_X8_clashOn at hf
  refine lv_iconst (v := (-1)) hx hb dX8_clashOn_0 (by decide) ?_
  refine lv_istore (lv' := [(6, .int (-1)), (0, .ref o), (1, .int p1), (2, .int p2), (3, .int p3), (4, .int p4), (5, .int p5)]) hx hb dX8_clashOn_1 hl (by decide) rfl (fun ls hl => ?_)
  refine lv_iconst (v := 0) hx hb dX8_clashOn_3 (by decide) ?_
  refine lv_istore (lv' := [(7, .int 0), (6, .int (-1)), (0, .ref o), (1, .int p1), (2, .int p2), (3, .int p3), (4, .int p4), (5, .int p5)]) hx hb dX8_clashOn_4 hl (by decide) rfl (fun ls hl => ?_)
  have lp_6 : ∀ (K_6 : Int32 → Int32 → Option Int32), (∀ (x_1 : Int32) (x_2 : Int32) (locs : List Loc) (ls : Array Slot), (∀ q ∈ locs, z ≤ q.base) → lv_has ls 10 [(6, .int x_1)] → K_6 x_1 x_2 = some r0 → W p l e { frames := 4, cells := 0, slots := 0, locals := 94 } s m args below meth c s.heap locs 0 0 Q (F0 m 106 ls [])) → ∀ (n : Nat) (x_1 : Int32) (x_2 : Int32) (locs : List Loc) (ls : Array Slot), (∀ q ∈ locs, z ≤ q.base) → lv_has ls 10 [(0, .ref o), (1, .int p1), (2, .int p2), (3, .int p3), (4, .int p4), (5, .int p5), (6, .int x_1), (7, .int x_2)] → L_X8_clashOn_6 K_6 M p1 p2 p3 p4 p5 n x_1 x_2 = some r0 → W p l e { frames := 4, cells := 0, slots := 0, locals := 94 } s m args below meth c s.heap locs 0 0 Q (F0 m 6 ls []) := by
    intro K_6 hK_6 n
    induction n with
    | zero =>
      intro x_1 x_2 locs ls hL hl hf
      cases hf
    | succ n ih_6 =>
      intro x_1 x_2 locs ls hL hl hf
      unfold L_X8_clashOn_6 at hf
      refine lv_iload hx hb dX8_clashOn_6 (lv_at hl 7 rfl) ?_
      refine lv_aload_n hx hb dX8_clashOn_8 rfl (lv_at hl 0 rfl) ?_
      refine x_get S hK h_md 0 (by decide) rfl rfl rfl in8 0 (by decide) (xm 1 rfl) (x := .ref (o + 1)) rfl dX8_clashOn_9 ?_
      refine lv_bipush (v := 10) hx hb dX8_clashOn_12 (by decide) ?_
      refine x_iald S hK h_md 1 (by decide) rfl rfl 10 (by decide) (by decide) dX8_clashOn_14 ?_
      refine lv_icmp_ge (tgt := 106) hx hb dX8_clashOn_15 (by decide) (fun c_3 => ?_) (fun c_3 => ?_)
      · have hf := (if_pos c_3).symm.trans hf
        exact hK_6 x_1 x_2 _ _ hL (lv_sub hl [6] rfl) hf
      · have hf := (if_neg c_3).symm.trans hf
        refine lv_iconst (v := 0) hx hb dX8_clashOn_18 (by decide) ?_
        refine lv_istore (lv' := [(8, .int 0), (0, .ref o), (1, .int p1), (2, .int p2), (3, .int p3), (4, .int p4), (5, .int p5), (6, .int x_1), (7, .int x_2)]) hx hb dX8_clashOn_19 hl (by decide) rfl (fun ls hl => ?_)
        have lp_21 : ∀ (K_21 : Int32 → Int32 → Option Int32), (∀ (x_4 : Int32) (x_5 : Int32) (locs : List Loc) (ls : Array Slot), (∀ q ∈ locs, z ≤ q.base) → lv_has ls 10 [(0, .ref o), (1, .int p1), (2, .int p2), (3, .int p3), (4, .int p4), (5, .int p5), (6, .int x_4), (7, .int x_2)] → K_21 x_4 x_5 = some r0 → W p l e { frames := 4, cells := 0, slots := 0, locals := 94 } s m args below meth c s.heap locs 0 0 Q (F0 m 100 ls [])) → ∀ (n : Nat) (x_4 : Int32) (x_5 : Int32) (locs : List Loc) (ls : Array Slot), (∀ q ∈ locs, z ≤ q.base) → lv_has ls 10 [(0, .ref o), (1, .int p1), (2, .int p2), (3, .int p3), (4, .int p4), (5, .int p5), (6, .int x_4), (7, .int x_2), (8, .int x_5)] → L_X8_clashOn_21 K_21 M p1 p2 p3 p4 p5 x_2 n x_4 x_5 = some r0 → W p l e { frames := 4, cells := 0, slots := 0, locals := 94 } s m args below meth c s.heap locs 0 0 Q (F0 m 21 ls []) := by
          intro K_21 hK_21 n
          induction n with
          | zero =>
            intro x_4 x_5 locs ls hL hl hf
            cases hf
          | succ n ih_21 =>
            intro x_4 x_5 locs ls hL hl hf
            unfold L_X8_clashOn_21 at hf
            refine lv_iload hx hb dX8_clashOn_21 (lv_at hl 8 rfl) ?_
            refine lv_aload_n hx hb dX8_clashOn_23 rfl (lv_at hl 0 rfl) ?_
            refine lv_iload hx hb dX8_clashOn_24 (lv_at hl 7 rfl) ?_
            refine lv_iconst (v := 4) hx hb dX8_clashOn_26 (by decide) ?_
            obtain ⟨r_6, e_7, hf⟩ := xb_some hf
            refine x_callVi (As := [.int x_2, .int 4]) (rest := [.int x_5]) S hK (c_X8_of l G z o M x_2 4 r_6 e_7) gX8_clashOn_X8_of rfl 2 (by decide +kernel) rfl ⟨Nat.le_of_ble_eq_true rfl, Nat.le_of_ble_eq_true rfl⟩ h_md 0 (by decide) rfl rfl rfl h_md hl.1 rfl (Nat.le_of_ble_eq_true rfl) dX8_clashOn_27 hL ⟨Nat.zero_le _, Nat.zero_le _⟩ (fun H1 locs hL hpost => ?_)
            subst hpost
            refine lv_icmp_ge (tgt := 100) hx hb dX8_clashOn_30 (by decide) (fun c_8 => ?_) (fun c_8 => ?_)
            · have hf := (if_pos c_8).symm.trans hf
              exact hK_21 x_4 x_5 _ _ hL (lv_sub hl [0, 1, 2, 3, 4, 5, 6, 7] rfl) hf
            · have hf := (if_neg c_8).symm.trans hf
              refine lv_bipush (v := 20) hx hb dX8_clashOn_33 (by decide) ?_
              refine lv_iload hx hb dX8_clashOn_35 (lv_at hl 7 rfl) ?_
              refine lv_imul hx hb dX8_clashOn_37 ?_
              refine lv_iload hx hb dX8_clashOn_38 (lv_at hl 8 rfl) ?_
              refine lv_iadd hx hb dX8_clashOn_40 ?_
              obtain ⟨x_9, ex_9, hf⟩ := xl_some hf
              refine x_top ex_9 ?_
              refine lv_istore (lv' := [(9, .int x_9), (0, .ref o), (1, .int p1), (2, .int p2), (3, .int p3), (4, .int p4), (5, .int p5), (6, .int x_4), (7, .int x_2), (8, .int x_5)]) hx hb dX8_clashOn_41 hl (by decide) rfl (fun ls hl => ?_)
              refine lv_aload_n hx hb dX8_clashOn_43 rfl (lv_at hl 1 rfl) ?_
              refine lv_iload hx hb dX8_clashOn_44 (lv_at hl 0 rfl) ?_
              refine lv_iload_n hx hb dX8_clashOn_46 rfl (lv_at hl 2 rfl) ?_
              refine lv_iload_n hx hb dX8_clashOn_47 rfl (lv_at hl 3 rfl) ?_
              refine lv_iload_n hx hb dX8_clashOn_48 rfl (lv_at hl 4 rfl) ?_
              refine lv_iload hx hb dX8_clashOn_49 (lv_at hl 5 rfl) ?_
              refine lv_iload hx hb dX8_clashOn_51 (lv_at hl 6 rfl) ?_
              obtain ⟨r_10, e_11, hf⟩ := xb_some hf
              refine x_callVi (As := [.int x_9, .int p1, .int p2, .int p3, .int p4, .int p5]) (rest := []) S hK (c_X8_clashes l G z o M x_9 p1 p2 p3 p4 p5 r_10 e_11) gX8_clashOn_X8_clashes rfl 6 (by decide +kernel) rfl ⟨Nat.le_of_ble_eq_true rfl, Nat.le_of_ble_eq_true rfl⟩ h_md 0 (by decide) rfl rfl rfl h_md hl.1 rfl (Nat.le_of_ble_eq_true rfl) dX8_clashOn_53 hL ⟨Nat.zero_le _, Nat.zero_le _⟩ (fun H1 locs hL hpost => ?_)
              subst hpost
              refine lv_if_eq (tgt := 94) hx hb dX8_clashOn_56 (by decide) (fun c_12 => ?_) (fun c_12 => ?_)
              · have hf := (if_pos c_12).symm.trans hf
                obtain ⟨x_13, ex_13, hf⟩ := xl_some hf
                refine lv_iinc (v := x_13) (lv' := [(8, .int x_13), (9, .int x_9), (0, .ref o), (1, .int p1), (2, .int p2), (3, .int p3), (4, .int p4), (5, .int p5), (6, .int x_4), (7, .int x_2)]) hx hb dX8_clashOn_94 hl (k := 9) rfl (by rw [ex_13]; rfl) (by decide) rfl (fun ls hl => ?_)
                refine lv_goto (tgt := 21) hx hb dX8_clashOn_97 (by decide) ?_
                exact ih_21 x_4 x_13 _ _ hL (lv_sub hl [2, 3, 4, 5, 6, 7, 8, 9, 0] rfl) hf
              · have hf := (if_neg c_12).symm.trans hf
                refine lv_iload hx hb dX8_clashOn_59 (lv_at hl 7 rfl) ?_
                refine lv_iconst (v := (-1)) hx hb dX8_clashOn_61 (by decide) ?_
                refine lv_icmp_eq (tgt := 85) hx hb dX8_clashOn_62 (by decide) (fun c_14 => ?_) (fun c_14 => ?_)
                · have hf := (if_pos c_14).symm.trans hf
                  refine lv_iload hx hb dX8_clashOn_85 (lv_at hl 0 rfl) ?_
                  refine lv_goto (tgt := 92) hx hb dX8_clashOn_87 (by decide) ?_
                  refine lv_istore (lv' := [(6, .int x_9), (9, .int x_9), (0, .ref o), (1, .int p1), (2, .int p2), (3, .int p3), (4, .int p4), (5, .int p5), (7, .int x_2), (8, .int x_5)]) hx hb dX8_clashOn_92 hl (by decide) rfl (fun ls hl => ?_)
                  obtain ⟨x_15, ex_15, hf⟩ := xl_some hf
                  refine lv_iinc (v := x_15) (lv' := [(8, .int x_15), (6, .int x_9), (9, .int x_9), (0, .ref o), (1, .int p1), (2, .int p2), (3, .int p3), (4, .int p4), (5, .int p5), (7, .int x_2)]) hx hb dX8_clashOn_94 hl (k := 9) rfl (by rw [ex_15]; rfl) (by decide) rfl (fun ls hl => ?_)
                  refine lv_goto (tgt := 21) hx hb dX8_clashOn_97 (by decide) ?_
                  exact ih_21 x_9 x_15 _ _ hL (lv_sub hl [3, 4, 5, 6, 7, 8, 1, 9, 0] rfl) hf
                · have hf := (if_neg c_14).symm.trans hf
                  refine lv_aload_n hx hb dX8_clashOn_65 rfl (lv_at hl 1 rfl) ?_
                  refine lv_iload hx hb dX8_clashOn_66 (lv_at hl 8 rfl) ?_
                  refine lv_iconst (v := 2) hx hb dX8_clashOn_68 (by decide) ?_
                  obtain ⟨r_16, e_17, hf⟩ := xb_some hf
                  refine x_callVi (As := [.int x_2, .int 2]) (rest := []) S hK (c_X8_of l G z o M x_2 2 r_16 e_17) gX8_clashOn_X8_of rfl 2 (by decide +kernel) rfl ⟨Nat.le_of_ble_eq_true rfl, Nat.le_of_ble_eq_true rfl⟩ h_md 0 (by decide) rfl rfl rfl h_md hl.1 rfl (Nat.le_of_ble_eq_true rfl) dX8_clashOn_69 hL ⟨Nat.zero_le _, Nat.zero_le _⟩ (fun H1 locs hL hpost => ?_)
                  subst hpost
                  refine lv_aload_n hx hb dX8_clashOn_72 rfl (lv_at hl 1 rfl) ?_
                  refine lv_iload hx hb dX8_clashOn_73 (lv_at hl 7 rfl) ?_
                  refine lv_bipush (v := 20) hx hb dX8_clashOn_75 (by decide) ?_
                  refine lv_idiv hx hb dX8_clashOn_77 (by decide) ?_
                  refine lv_iconst (v := 2) hx hb dX8_clashOn_78 (by decide) ?_
                  obtain ⟨r_18, e_19, hf⟩ := xb_some hf
                  refine x_callVi (As := [.int (x_4 / 20), .int 2]) (rest := [.int r_16]) S hK (c_X8_of l G z o M (x_4 / 20) 2 r_18 e_19) gX8_clashOn_X8_of rfl 2 (by decide +kernel) rfl ⟨Nat.le_of_ble_eq_true rfl, Nat.le_of_ble_eq_true rfl⟩ h_md 0 (by decide) rfl rfl rfl h_md hl.1 rfl (Nat.le_of_ble_eq_true rfl) dX8_clashOn_79 hL ⟨Nat.zero_le _, Nat.zero_le _⟩ (fun H1 locs hL hpost => ?_)
                  subst hpost
                  refine lv_icmp_ge (tgt := 90) hx hb dX8_clashOn_82 (by decide) (fun c_20 => ?_) (fun c_20 => ?_)
                  · have hf := (if_pos c_20).symm.trans hf
                    refine lv_iload hx hb dX8_clashOn_90 (lv_at hl 7 rfl) ?_
                    refine lv_istore (lv' := [(6, .int x_4), (9, .int x_9), (0, .ref o), (1, .int p1), (2, .int p2), (3, .int p3), (4, .int p4), (5, .int p5), (7, .int x_2), (8, .int x_5)]) hx hb dX8_clashOn_92 hl (by decide) rfl (fun ls hl => ?_)
                    obtain ⟨x_21, ex_21, hf⟩ := xl_some hf
                    refine lv_iinc (v := x_21) (lv' := [(8, .int x_21), (6, .int x_4), (9, .int x_9), (0, .ref o), (1, .int p1), (2, .int p2), (3, .int p3), (4, .int p4), (5, .int p5), (7, .int x_2)]) hx hb dX8_clashOn_94 hl (k := 9) rfl (by rw [ex_21]; rfl) (by decide) rfl (fun ls hl => ?_)
                    refine lv_goto (tgt := 21) hx hb dX8_clashOn_97 (by decide) ?_
                    exact ih_21 x_4 x_21 _ _ hL (lv_sub hl [3, 4, 5, 6, 7, 8, 1, 9, 0] rfl) hf
                  · have hf := (if_neg c_20).symm.trans hf
                    refine lv_iload hx hb dX8_clashOn_85 (lv_at hl 0 rfl) ?_
                    refine lv_goto (tgt := 92) hx hb dX8_clashOn_87 (by decide) ?_
                    refine lv_istore (lv' := [(6, .int x_9), (9, .int x_9), (0, .ref o), (1, .int p1), (2, .int p2), (3, .int p3), (4, .int p4), (5, .int p5), (7, .int x_2), (8, .int x_5)]) hx hb dX8_clashOn_92 hl (by decide) rfl (fun ls hl => ?_)
                    obtain ⟨x_22, ex_22, hf⟩ := xl_some hf
                    refine lv_iinc (v := x_22) (lv' := [(8, .int x_22), (6, .int x_9), (9, .int x_9), (0, .ref o), (1, .int p1), (2, .int p2), (3, .int p3), (4, .int p4), (5, .int p5), (7, .int x_2)]) hx hb dX8_clashOn_94 hl (k := 9) rfl (by rw [ex_22]; rfl) (by decide) rfl (fun ls hl => ?_)
                    refine lv_goto (tgt := 21) hx hb dX8_clashOn_97 (by decide) ?_
                    exact ih_21 x_9 x_22 _ _ hL (lv_sub hl [3, 4, 5, 6, 7, 8, 1, 9, 0] rfl) hf
        refine lp_21 _ (fun x_23 x_24 locs ls hL hl hf => ?_) 100000 x_1 0 _ _ hL (lv_sub hl [1, 2, 3, 4, 5, 6, 7, 8, 0] rfl) hf
        obtain ⟨x_25, ex_25, hf⟩ := xl_some hf
        refine lv_iinc (v := x_25) (lv' := [(7, .int x_25), (0, .ref o), (1, .int p1), (2, .int p2), (3, .int p3), (4, .int p4), (5, .int p5), (6, .int x_23)]) hx hb dX8_clashOn_100 hl (k := 7) rfl (by rw [ex_25]; rfl) (by decide) rfl (fun ls hl => ?_)
        refine lv_goto (tgt := 6) hx hb dX8_clashOn_103 (by decide) ?_
        exact ih_6 x_23 x_25 _ _ hL (lv_sub hl [1, 2, 3, 4, 5, 6, 7, 0] rfl) hf
  refine lp_6 _ (fun x_26 x_27 locs ls hL hl hf => ?_) 100000 (-1) 0 _ _ hL (lv_sub hl [2, 3, 4, 5, 6, 7, 1, 0] rfl) hf
  refine lv_iload hx hb dX8_clashOn_106 (lv_at hl 0 rfl) ?_
  have q0 := Option.some.inj hf
  subst r0
  subst hQ
  refine x_iret (post := (fun H H1 => H1 = H)) S hr hlocks rfl ?_ hL dX8_clashOn_108
  exact rfl
set_option maxRecDepth 100000 in
set_option maxHeartbeats 4000000 in
theorem c_X8_clashOfAll (l : Launch) (G : xG) (z : Nat) (o : Nat) (M : xV) (p1 : Int32) (p2 : Int32) (p3 : Int32) (p4 : Int32) (p5 : Int32) (p6 : Int32) (p7 : Int32) (r0 : Int32)  (hf : f_X8_clashOfAll M p1 p2 p3 p4 p5 p6 p7 = some r0) : xM l yX8_clashOfAll wsX8_clashOfAll 5 123 G z [.ref o, .int p1, .int p2, .int p3, .int p4, .int p5, .int p6, .int p7] (fun H => PX G o 5 (mdE G o) M H) (some (.int r0)) (fun H H1 => H1 = H) := by
  refine xM.of (cc := cX8_clashOfAll) (maxL := 10) (ret := (some .int)) (by decide +kernel) rfl (Nat.le_of_ble_eq_true rfl) ?_
  intro p e s m args below meth c ls Q hQ S hr hlocks hK hP hl
  obtain ⟨hx, hb, hml, hown, hts⟩ := id S
  have h_md := hP
  have hL : ∀ q ∈ ([] : List Loc), z ≤ q.base := fun q h => absurd h List.not_mem_nil
  have hl : lv_has ls 10 [(0, .ref o), (1, .int p1), (2, .int p2), (3, .int p3), (4, .int p4), (5, .int p5), (6, .int p6), (7, .int p7)] := hl
  unfold f_X8_clashOfAll at hf
  refine lv_iconst (v := (-1)) hx hb dX8_clashOfAll_0 (by decide) ?_
  refine lv_istore (lv' := [(8, .int (-1)), (0, .ref o), (1, .int p1), (2, .int p2), (3, .int p3), (4, .int p4), (5, .int p5), (6, .int p6), (7, .int p7)]) hx hb dX8_clashOfAll_1 hl (by decide) rfl (fun ls hl => ?_)
  refine lv_iconst (v := 0) hx hb dX8_clashOfAll_3 (by decide) ?_
  refine lv_istore (lv' := [(9, .int 0), (8, .int (-1)), (0, .ref o), (1, .int p1), (2, .int p2), (3, .int p3), (4, .int p4), (5, .int p5), (6, .int p6), (7, .int p7)]) hx hb dX8_clashOfAll_4 hl (by decide) rfl (fun ls hl => ?_)
  have lp_6 : ∀ (K_6 : Int32 → Int32 → Option Int32), (∀ (x_1 : Int32) (x_2 : Int32) (locs : List Loc) (ls : Array Slot), (∀ q ∈ locs, z ≤ q.base) → lv_has ls 10 [(8, .int x_1)] → K_6 x_1 x_2 = some r0 → W p l e { frames := 5, cells := 0, slots := 0, locals := 123 } s m args below meth c s.heap locs 0 0 Q (F0 m 44 ls [])) → ∀ (n : Nat) (x_1 : Int32) (x_2 : Int32) (locs : List Loc) (ls : Array Slot), (∀ q ∈ locs, z ≤ q.base) → lv_has ls 10 [(0, .ref o), (1, .int p1), (2, .int p2), (3, .int p3), (4, .int p4), (5, .int p5), (6, .int p6), (7, .int p7), (8, .int x_1), (9, .int x_2)] → L_X8_clashOfAll_6 K_6 M p1 p2 p3 p4 p5 p6 p7 n x_1 x_2 = some r0 → W p l e { frames := 5, cells := 0, slots := 0, locals := 123 } s m args below meth c s.heap locs 0 0 Q (F0 m 6 ls []) := by
    intro K_6 hK_6 n
    induction n with
    | zero =>
      intro x_1 x_2 locs ls hL hl hf
      cases hf
    | succ n ih_6 =>
      intro x_1 x_2 locs ls hL hl hf
      unfold L_X8_clashOfAll_6 at hf
      refine lv_iload hx hb dX8_clashOfAll_6 (lv_at hl 9 rfl) ?_
      refine lv_iload hx hb dX8_clashOfAll_8 (lv_at hl 6 rfl) ?_
      refine lv_icmp_ge (tgt := 44) hx hb dX8_clashOfAll_10 (by decide) (fun c_3 => ?_) (fun c_3 => ?_)
      · have hf := (if_pos c_3).symm.trans hf
        exact hK_6 x_1 x_2 _ _ hL (lv_sub hl [8] rfl) hf
      · have hf := (if_neg c_3).symm.trans hf
        refine lv_iload hx hb dX8_clashOfAll_13 (lv_at hl 8 rfl) ?_
        refine lv_iconst (v := (-1)) hx hb dX8_clashOfAll_15 (by decide) ?_
        refine lv_icmp_ne (tgt := 44) hx hb dX8_clashOfAll_16 (by decide) (fun c_4 => ?_) (fun c_4 => ?_)
        · have hf := (if_neg c_4).symm.trans hf
          exact hK_6 x_1 x_2 _ _ hL (lv_sub hl [8] rfl) hf
        · have hf := (if_pos c_4).symm.trans hf
          refine lv_aload_n hx hb dX8_clashOfAll_19 rfl (lv_at hl 0 rfl) ?_
          refine lv_iload_n hx hb dX8_clashOfAll_20 rfl (lv_at hl 1 rfl) ?_
          refine lv_iload_n hx hb dX8_clashOfAll_21 rfl (lv_at hl 2 rfl) ?_
          refine lv_iload_n hx hb dX8_clashOfAll_22 rfl (lv_at hl 3 rfl) ?_
          refine lv_iload hx hb dX8_clashOfAll_23 (lv_at hl 9 rfl) ?_
          refine lv_iload hx hb dX8_clashOfAll_25 (lv_at hl 7 rfl) ?_
          refine lv_imul hx hb dX8_clashOfAll_27 ?_
          refine lv_iadd hx hb dX8_clashOfAll_28 ?_
          refine lv_iload hx hb dX8_clashOfAll_29 (lv_at hl 4 rfl) ?_
          refine lv_iload hx hb dX8_clashOfAll_31 (lv_at hl 5 rfl) ?_
          obtain ⟨r_5, e_6, hf⟩ := xb_some hf
          refine x_callVi (As := [.int p1, .int p2, .int (p3 + (x_2 * p7)), .int p4, .int p5]) (rest := []) S hK (c_X8_clashOn l G z o M p1 p2 (p3 + (x_2 * p7)) p4 p5 r_5 e_6) gX8_clashOfAll_X8_clashOn rfl 5 (by decide +kernel) rfl ⟨Nat.le_of_ble_eq_true rfl, Nat.le_of_ble_eq_true rfl⟩ h_md 0 (by decide) rfl rfl rfl h_md hl.1 rfl (Nat.le_of_ble_eq_true rfl) dX8_clashOfAll_33 hL ⟨Nat.zero_le _, Nat.zero_le _⟩ (fun H1 locs hL hpost => ?_)
          subst hpost
          refine lv_istore (lv' := [(8, .int r_5), (0, .ref o), (1, .int p1), (2, .int p2), (3, .int p3), (4, .int p4), (5, .int p5), (6, .int p6), (7, .int p7), (9, .int x_2)]) hx hb dX8_clashOfAll_36 hl (by decide) rfl (fun ls hl => ?_)
          obtain ⟨x_7, ex_7, hf⟩ := xl_some hf
          refine lv_iinc (v := x_7) (lv' := [(9, .int x_7), (8, .int r_5), (0, .ref o), (1, .int p1), (2, .int p2), (3, .int p3), (4, .int p4), (5, .int p5), (6, .int p6), (7, .int p7)]) hx hb dX8_clashOfAll_38 hl (k := 9) rfl (by rw [ex_7]; rfl) (by decide) rfl (fun ls hl => ?_)
          refine lv_goto (tgt := 6) hx hb dX8_clashOfAll_41 (by decide) ?_
          exact ih_6 r_5 x_7 _ _ hL (lv_sub hl [2, 3, 4, 5, 6, 7, 8, 9, 1, 0] rfl) hf
  refine lp_6 _ (fun x_8 x_9 locs ls hL hl hf => ?_) 100000 (-1) 0 _ _ hL (lv_sub hl [2, 3, 4, 5, 6, 7, 8, 9, 1, 0] rfl) hf
  refine lv_iload hx hb dX8_clashOfAll_44 (lv_at hl 0 rfl) ?_
  have q0 := Option.some.inj hf
  subst r0
  subst hQ
  refine x_iret (post := (fun H H1 => H1 = H)) S hr hlocks rfl ?_ hL dX8_clashOfAll_46
  exact rfl
set_option maxRecDepth 100000 in
set_option maxHeartbeats 4000000 in
theorem c_X8_clearText (l : Launch) (G : xG) (z : Nat) (o : Nat) (M : xV) (r0 : Int32) (M' : xV) (hz_md : z ≤ o) (hf : f_X8_clearText M = some (r0, M')) : xM l yX8_clearText wsX8_clearText 0 0 G z [.ref o] (fun H => PX G o 5 (mdE G o) M H) (some (.int r0)) (fun H H1 => PX G o 5 (mdE G o) M' H1 ∧ XF (fun q => (o ≤ q ∧ q < o + 5)) H H1) := by
  refine xM.of (cc := cX8_clearText) (maxL := 2) (ret := (some .int)) (by decide +kernel) rfl (Nat.le_of_ble_eq_true rfl) ?_
  intro p e s m args below meth c ls Q hQ S hr hlocks hK hP hl
  obtain ⟨hx, hb, hml, hown, hts⟩ := id S
  have h_md := hP
  have hL : ∀ q ∈ ([] : List Loc), z ≤ q.base := fun q h => absurd h List.not_mem_nil
  have hF : XF (fun q => (o ≤ q ∧ q < o + 5)) s.heap s.heap := XF.rf
  have hl : lv_has ls 2 [(0, .ref o)] := hl
  have in8 : ∀ w ∈ u_ws RX8 TX8 18, w ∈ wsX8_clearText := fun _ h => List.mem_cons_of_mem _ (List.mem_append_right _ h)
  unfold f_X8_clearText at hf
  refine lv_aload_n hx hb dX8_clearText_0 rfl (lv_at hl 0 rfl) ?_
  refine x_get S hK h_md 0 (by decide) rfl rfl rfl in8 6 (by decide) (xm 1 rfl) (x := .int (M 0 6)) rfl dX8_clearText_1 ?_
  obtain ⟨x_1, ex_1, hf⟩ := xl_some hf
  refine x_top ex_1 ?_
  refine lv_istore_n (lv' := [(1, .int x_1), (0, .ref o)]) hx hb dX8_clearText_4 rfl hl (by decide) rfl (fun ls hl => ?_)
  refine lv_aload_n hx hb dX8_clearText_5 rfl (lv_at hl 1 rfl) ?_
  refine lv_iconst (v := 0) hx hb dX8_clearText_6 (by decide) ?_
  obtain ⟨M_2, eM_2, hf⟩ := xl_some hf
  refine x_put S hK h_md hz_md hL 0 (by decide) rfl rfl rfl in8 tyX8 tyX8_ok nmX8 6 (by decide) (xm 1 rfl) rfl (vp_nar_int _) rfl (Nat.le_of_ble_eq_true rfl) rfl eM_2 dX8_clearText_7 (fun H1 locs hL h_md hfr => ?_)
  have hF := hF.step hfr (fun q h => by (try dsimp only at h ⊢); omega)
  refine lv_iload_n hx hb dX8_clearText_10 rfl (lv_at hl 0 rfl) ?_
  obtain ⟨q0, qq0⟩ := Prod.mk.inj (Option.some.inj hf)
  have q1 := qq0
  subst r0
  subst M'
  subst hQ
  refine x_iret (post := (fun H H1 => PX G o 5 (mdE G o) M_2 H1 ∧ XF (fun q => (o ≤ q ∧ q < o + 5)) H H1)) S hr hlocks rfl ?_ hL dX8_clearText_11
  exact ⟨h_md, hF⟩
set_option maxRecDepth 100000 in
set_option maxHeartbeats 4000000 in
theorem c_X8_roomsIn (l : Launch) (G : xG) (z : Nat) (p1 : Int32) (r0 : Int32)  (hf : f_X8_roomsIn p1 = some r0) : xM l yX8_roomsIn wsX8_roomsIn 0 0 G z [.int p1] (fun H => H = H) (some (.int r0)) (fun H H1 => H1 = H) := by
  refine xM.of (cc := cX8_roomsIn) (maxL := 1) (ret := (some .int)) (by decide +kernel) rfl (Nat.le_of_ble_eq_true rfl) ?_
  intro p e s m args below meth c ls Q hQ S hr hlocks hK hP hl
  obtain ⟨hx, hb, hml, hown, hts⟩ := id S
  have hL : ∀ q ∈ ([] : List Loc), z ≤ q.base := fun q h => absurd h List.not_mem_nil
  have hl : lv_has ls 1 [(0, .int p1)] := hl
  unfold f_X8_roomsIn at hf
  refine lv_iload_n hx hb dX8_roomsIn_0 rfl (lv_at hl 0 rfl) ?_
  refine lv_iconst (v := 1) hx hb dX8_roomsIn_1 (by decide) ?_
  refine lv_iand hx hb dX8_roomsIn_2 ?_
  refine lv_iload_n hx hb dX8_roomsIn_3 rfl (lv_at hl 0 rfl) ?_
  refine lv_iconst (v := 1) hx hb dX8_roomsIn_4 (by decide) ?_
  refine lv_ishr hx hb dX8_roomsIn_5 ?_
  refine lv_iconst (v := 1) hx hb dX8_roomsIn_6 (by decide) ?_
  refine lv_iand hx hb dX8_roomsIn_7 ?_
  refine lv_iadd hx hb dX8_roomsIn_8 ?_
  refine lv_iload_n hx hb dX8_roomsIn_9 rfl (lv_at hl 0 rfl) ?_
  refine lv_iconst (v := 2) hx hb dX8_roomsIn_10 (by decide) ?_
  refine lv_ishr hx hb dX8_roomsIn_11 ?_
  refine lv_iconst (v := 1) hx hb dX8_roomsIn_12 (by decide) ?_
  refine lv_iand hx hb dX8_roomsIn_13 ?_
  refine lv_iadd hx hb dX8_roomsIn_14 ?_
  have q0 := Option.some.inj hf
  subst r0
  subst hQ
  refine x_iret (post := (fun H H1 => H1 = H)) S hr hlocks rfl ?_ hL dX8_roomsIn_15
  exact rfl
set_option maxRecDepth 100000 in
set_option maxHeartbeats 4000000 in
theorem c_X8_costOf (l : Launch) (G : xG) (z : Nat) (o : Nat) (M : xV) (p1 : Int32) (p2 : Int32) (r0 : Int32)  (hf : f_X8_costOf M p1 p2 = some r0) : xM l yX8_costOf wsX8_costOf 2 43 G z [.ref o, .int p1, .int p2] (fun H => PX G o 5 (mdE G o) M H) (some (.int r0)) (fun H H1 => H1 = H) := by
  refine xM.of (cc := cX8_costOf) (maxL := 5) (ret := (some .int)) (by decide +kernel) rfl (Nat.le_of_ble_eq_true rfl) ?_
  intro p e s m args below meth c ls Q hQ S hr hlocks hK hP hl
  obtain ⟨hx, hb, hml, hown, hts⟩ := id S
  have h_md := hP
  have hL : ∀ q ∈ ([] : List Loc), z ≤ q.base := fun q h => absurd h List.not_mem_nil
  have hl : lv_has ls 5 [(0, .ref o), (1, .int p1), (2, .int p2)] := hl
  unfold f_X8_costOf at hf
  refine lv_iload_n hx hb dX8_costOf_0 rfl (lv_at hl 2 rfl) ?_
  refine lv_if_ne (tgt := 18) hx hb dX8_costOf_1 (by decide) (fun c_1 => ?_) (fun c_1 => ?_)
  · have hf := (if_neg c_1).symm.trans hf
    refine lv_iload_n hx hb dX8_costOf_18 rfl (lv_at hl 2 rfl) ?_
    refine lv_iconst (v := 3) hx hb dX8_costOf_19 (by decide) ?_
    refine lv_icmp_ge (tgt := 38) hx hb dX8_costOf_20 (by decide) (fun c_2 => ?_) (fun c_2 => ?_)
    · have hf := (if_pos c_2).symm.trans hf
      refine lv_sipush (v := 2000) hx hb dX8_costOf_38 (by decide) ?_
      refine lv_istore_n (lv' := [(3, .int 2000), (0, .ref o), (1, .int p1), (2, .int p2)]) hx hb dX8_costOf_41 rfl hl (by decide) rfl (fun ls hl => ?_)
      refine lv_iconst (v := 0) hx hb dX8_costOf_42 (by decide) ?_
      refine lv_istore (lv' := [(4, .int 0), (3, .int 2000), (0, .ref o), (1, .int p1), (2, .int p2)]) hx hb dX8_costOf_43 hl (by decide) rfl (fun ls hl => ?_)
      have lp_45 : ∀ (K_45 : Int32 → Int32 → Option Int32), (∀ (x_3 : Int32) (x_4 : Int32) (locs : List Loc) (ls : Array Slot), (∀ q ∈ locs, z ≤ q.base) → lv_has ls 5 [(3, .int x_3)] → K_45 x_3 x_4 = some r0 → W p l e { frames := 2, cells := 0, slots := 0, locals := 43 } s m args below meth c s.heap locs 0 0 Q (F0 m 89 ls [])) → ∀ (n : Nat) (x_3 : Int32) (x_4 : Int32) (locs : List Loc) (ls : Array Slot), (∀ q ∈ locs, z ≤ q.base) → lv_has ls 5 [(0, .ref o), (1, .int p1), (3, .int x_3), (4, .int x_4)] → L_X8_costOf_45 K_45 M p1 n x_3 x_4 = some r0 → W p l e { frames := 2, cells := 0, slots := 0, locals := 43 } s m args below meth c s.heap locs 0 0 Q (F0 m 45 ls []) := by
        intro K_45 hK_45 n
        induction n with
        | zero =>
          intro x_3 x_4 locs ls hL hl hf
          cases hf
        | succ n ih_45 =>
          intro x_3 x_4 locs ls hL hl hf
          unfold L_X8_costOf_45 at hf
          refine lv_iload hx hb dX8_costOf_45 (lv_at hl 3 rfl) ?_
          refine lv_aload_n hx hb dX8_costOf_47 rfl (lv_at hl 0 rfl) ?_
          refine lv_iload_n hx hb dX8_costOf_48 rfl (lv_at hl 1 rfl) ?_
          refine lv_bipush (v := 11) hx hb dX8_costOf_49 (by decide) ?_
          obtain ⟨r_5, e_6, hf⟩ := xb_some hf
          refine x_callVi (As := [.int p1, .int 11]) (rest := [.int x_4]) S hK (c_X8_of l G z o M p1 11 r_5 e_6) gX8_costOf_X8_of rfl 2 (by decide +kernel) rfl ⟨Nat.le_of_ble_eq_true rfl, Nat.le_of_ble_eq_true rfl⟩ h_md 0 (by decide) rfl rfl rfl h_md hl.1 rfl (Nat.le_of_ble_eq_true rfl) dX8_costOf_51 hL ⟨Nat.zero_le _, Nat.zero_le _⟩ (fun H1 locs hL hpost => ?_)
          subst hpost
          refine lv_icmp_ge (tgt := 89) hx hb dX8_costOf_54 (by decide) (fun c_7 => ?_) (fun c_7 => ?_)
          · have hf := (if_pos c_7).symm.trans hf
            exact hK_45 x_3 x_4 _ _ hL (lv_sub hl [2] rfl) hf
          · have hf := (if_neg c_7).symm.trans hf
            refine lv_iload_n hx hb dX8_costOf_57 rfl (lv_at hl 2 rfl) ?_
            refine lv_aload_n hx hb dX8_costOf_58 rfl (lv_at hl 0 rfl) ?_
            refine lv_iload_n hx hb dX8_costOf_59 rfl (lv_at hl 1 rfl) ?_
            refine lv_bipush (v := 32) hx hb dX8_costOf_60 (by decide) ?_
            refine lv_iconst (v := 4) hx hb dX8_costOf_62 (by decide) ?_
            refine lv_iload hx hb dX8_costOf_63 (lv_at hl 3 rfl) ?_
            refine lv_imul hx hb dX8_costOf_65 ?_
            refine lv_iadd hx hb dX8_costOf_66 ?_
            obtain ⟨r_8, e_9, hf⟩ := xb_some hf
            refine x_callVi (As := [.int p1, .int (32 + (4 * x_4))]) (rest := [.int x_3]) S hK (c_X8_of l G z o M p1 (32 + (4 * x_4)) r_8 e_9) gX8_costOf_X8_of rfl 2 (by decide +kernel) rfl ⟨Nat.le_of_ble_eq_true rfl, Nat.le_of_ble_eq_true rfl⟩ h_md 0 (by decide) rfl rfl rfl h_md hl.1 rfl (Nat.le_of_ble_eq_true rfl) dX8_costOf_67 hL ⟨Nat.zero_le _, Nat.zero_le _⟩ (fun H1 locs hL hpost => ?_)
            subst hpost
            refine lv_iconst (v := 3) hx hb dX8_costOf_70 (by decide) ?_
            refine lv_icmp_ne (tgt := 80) hx hb dX8_costOf_71 (by decide) (fun c_10 => ?_) (fun c_10 => ?_)
            · have hf := (if_neg c_10).symm.trans hf
              refine lv_iconst (v := 0) hx hb dX8_costOf_80 (by decide) ?_
              refine lv_iadd hx hb dX8_costOf_81 ?_
              obtain ⟨x_11, ex_11, hf⟩ := xl_some hf
              refine x_top ex_11 ?_
              refine lv_istore_n (lv' := [(3, .int x_11), (0, .ref o), (1, .int p1), (4, .int x_4)]) hx hb dX8_costOf_82 rfl hl (by decide) rfl (fun ls hl => ?_)
              obtain ⟨x_12, ex_12, hf⟩ := xl_some hf
              refine lv_iinc (v := x_12) (lv' := [(4, .int x_12), (3, .int x_11), (0, .ref o), (1, .int p1)]) hx hb dX8_costOf_83 hl (k := 3) rfl (by rw [ex_12]; rfl) (by decide) rfl (fun ls hl => ?_)
              refine lv_goto (tgt := 45) hx hb dX8_costOf_86 (by decide) ?_
              exact ih_45 x_11 x_12 _ _ hL (lv_sub hl [2, 3, 1, 0] rfl) hf
            · have hf := (if_pos c_10).symm.trans hf
              refine lv_sipush (v := 500) hx hb dX8_costOf_74 (by decide) ?_
              refine lv_goto (tgt := 81) hx hb dX8_costOf_77 (by decide) ?_
              refine lv_iadd hx hb dX8_costOf_81 ?_
              obtain ⟨x_13, ex_13, hf⟩ := xl_some hf
              refine x_top ex_13 ?_
              refine lv_istore_n (lv' := [(3, .int x_13), (0, .ref o), (1, .int p1), (4, .int x_4)]) hx hb dX8_costOf_82 rfl hl (by decide) rfl (fun ls hl => ?_)
              obtain ⟨x_14, ex_14, hf⟩ := xl_some hf
              refine lv_iinc (v := x_14) (lv' := [(4, .int x_14), (3, .int x_13), (0, .ref o), (1, .int p1)]) hx hb dX8_costOf_83 hl (k := 3) rfl (by rw [ex_14]; rfl) (by decide) rfl (fun ls hl => ?_)
              refine lv_goto (tgt := 45) hx hb dX8_costOf_86 (by decide) ?_
              exact ih_45 x_13 x_14 _ _ hL (lv_sub hl [2, 3, 1, 0] rfl) hf
      refine lp_45 _ (fun x_15 x_16 locs ls hL hl hf => ?_) 100000 2000 0 _ _ hL (lv_sub hl [2, 3, 1, 0] rfl) hf
      refine lv_iload_n hx hb dX8_costOf_89 rfl (lv_at hl 0 rfl) ?_
      have q0 := Option.some.inj hf
      subst r0
      subst hQ
      refine x_iret (post := (fun H H1 => H1 = H)) S hr hlocks rfl ?_ hL dX8_costOf_90
      exact rfl
    · have hf := (if_neg c_2).symm.trans hf
      refine lv_iload_n hx hb dX8_costOf_23 rfl (lv_at hl 2 rfl) ?_
      refine lv_iconst (v := 1) hx hb dX8_costOf_24 (by decide) ?_
      refine lv_icmp_ne (tgt := 34) hx hb dX8_costOf_25 (by decide) (fun c_17 => ?_) (fun c_17 => ?_)
      · have hf := (if_neg c_17).symm.trans hf
        refine lv_sipush (v := 4000) hx hb dX8_costOf_34 (by decide) ?_
        have q0 := Option.some.inj hf
        subst r0
        subst hQ
        refine x_iret (post := (fun H H1 => H1 = H)) S hr hlocks rfl ?_ hL dX8_costOf_37
        exact rfl
      · have hf := (if_pos c_17).symm.trans hf
        refine lv_sipush (v := 2500) hx hb dX8_costOf_28 (by decide) ?_
        refine lv_goto (tgt := 37) hx hb dX8_costOf_31 (by decide) ?_
        have q0 := Option.some.inj hf
        subst r0
        subst hQ
        refine x_iret (post := (fun H H1 => H1 = H)) S hr hlocks rfl ?_ hL dX8_costOf_37
        exact rfl
  · have hf := (if_pos c_1).symm.trans hf
    refine lv_sipush (v := 1000) hx hb dX8_costOf_4 (by decide) ?_
    refine lv_aload_n hx hb dX8_costOf_7 rfl (lv_at hl 0 rfl) ?_
    refine lv_iload_n hx hb dX8_costOf_8 rfl (lv_at hl 1 rfl) ?_
    refine lv_iconst (v := 1) hx hb dX8_costOf_9 (by decide) ?_
    obtain ⟨r_18, e_19, hf⟩ := xb_some hf
    refine x_callVi (As := [.int p1, .int 1]) (rest := [.int 1000]) S hK (c_X8_of l G z o M p1 1 r_18 e_19) gX8_costOf_X8_of rfl 2 (by decide +kernel) rfl ⟨Nat.le_of_ble_eq_true rfl, Nat.le_of_ble_eq_true rfl⟩ h_md 0 (by decide) rfl rfl rfl h_md hl.1 rfl (Nat.le_of_ble_eq_true rfl) dX8_costOf_10 hL ⟨Nat.zero_le _, Nat.zero_le _⟩ (fun H1 locs hL hpost => ?_)
    subst hpost
    obtain ⟨r_20, e_21, hf⟩ := xb_some hf
    refine x_callTi (As := [.int r_18]) (rest := [.int 1000]) S hK (c_X8_roomsIn l G z r_18 r_20 e_21) gX8_costOf_X8_roomsIn rfl 1 (by decide +kernel) rfl ⟨Nat.le_of_ble_eq_true rfl, Nat.le_of_ble_eq_true rfl⟩ rfl hl.1 rfl (Nat.le_of_ble_eq_true rfl) dX8_costOf_13 hL ⟨Nat.zero_le _, Nat.zero_le _⟩ (fun H1 locs hL hpost => ?_)
    subst hpost
    refine lv_imul hx hb dX8_costOf_16 ?_
    have q0 := Option.some.inj hf
    subst r0
    subst hQ
    refine x_iret (post := (fun H H1 => H1 = H)) S hr hlocks rfl ?_ hL dX8_costOf_17
    exact rfl
set_option maxRecDepth 100000 in
set_option maxHeartbeats 4000000 in
theorem c_X8_countKeys (l : Launch) (G : xG) (z : Nat) (o : Nat) (M : xV) (p1 : Int32) (r0 : Int32)  (hf : f_X8_countKeys M p1 = some r0) : xM l yX8_countKeys wsX8_countKeys 1 22 G z [.ref o, .int p1] (fun H => PX G o 5 (mdE G o) M H) (some (.int r0)) (fun H H1 => H1 = H) := by
  refine xM.of (cc := cX8_countKeys) (maxL := 5) (ret := (some .int)) (by decide +kernel) rfl (Nat.le_of_ble_eq_true rfl) ?_
  intro p e s m args below meth c ls Q hQ S hr hlocks hK hP hl
  obtain ⟨hx, hb, hml, hown, hts⟩ := id S
  have h_md := hP
  have hL : ∀ q ∈ ([] : List Loc), z ≤ q.base := fun q h => absurd h List.not_mem_nil
  have hl : lv_has ls 5 [(0, .ref o), (1, .int p1)] := hl
  have in8 : ∀ w ∈ u_ws RX8 TX8 18, w ∈ wsX8_countKeys := fun _ h => List.mem_cons_of_mem _ (List.mem_append_right _ h)
  unfold f_X8_countKeys at hf
  refine lv_iconst (v := 0) hx hb dX8_countKeys_0 (by decide) ?_
  refine lv_istore_n (lv' := [(2, .int 0), (0, .ref o), (1, .int p1)]) hx hb dX8_countKeys_1 rfl hl (by decide) rfl (fun ls hl => ?_)
  refine lv_iconst (v := 0) hx hb dX8_countKeys_2 (by decide) ?_
  refine lv_istore_n (lv' := [(3, .int 0), (2, .int 0), (0, .ref o), (1, .int p1)]) hx hb dX8_countKeys_3 rfl hl (by decide) rfl (fun ls hl => ?_)
  have lp_4 : ∀ (K_4 : Int32 → Int32 → Option Int32), (∀ (x_1 : Int32) (x_2 : Int32) (locs : List Loc) (ls : Array Slot), (∀ q ∈ locs, z ≤ q.base) → lv_has ls 5 [(2, .int x_1)] → K_4 x_1 x_2 = some r0 → W p l e { frames := 1, cells := 0, slots := 0, locals := 22 } s m args below meth c s.heap locs 0 0 Q (F0 m 71 ls [])) → ∀ (n : Nat) (x_1 : Int32) (x_2 : Int32) (locs : List Loc) (ls : Array Slot), (∀ q ∈ locs, z ≤ q.base) → lv_has ls 5 [(0, .ref o), (1, .int p1), (2, .int x_1), (3, .int x_2)] → L_X8_countKeys_4 K_4 M p1 n x_1 x_2 = some r0 → W p l e { frames := 1, cells := 0, slots := 0, locals := 22 } s m args below meth c s.heap locs 0 0 Q (F0 m 4 ls []) := by
    intro K_4 hK_4 n
    induction n with
    | zero =>
      intro x_1 x_2 locs ls hL hl hf
      cases hf
    | succ n ih_4 =>
      intro x_1 x_2 locs ls hL hl hf
      unfold L_X8_countKeys_4 at hf
      refine lv_iload_n hx hb dX8_countKeys_4 rfl (lv_at hl 3 rfl) ?_
      refine lv_bipush (v := 6) hx hb dX8_countKeys_5 (by decide) ?_
      refine lv_icmp_ge (tgt := 71) hx hb dX8_countKeys_7 (by decide) (fun c_3 => ?_) (fun c_3 => ?_)
      · have hf := (if_pos c_3).symm.trans hf
        exact hK_4 x_1 x_2 _ _ hL (lv_sub hl [2] rfl) hf
      · have hf := (if_neg c_3).symm.trans hf
        refine lv_iload_n hx hb dX8_countKeys_10 rfl (lv_at hl 1 rfl) ?_
        refine lv_if_eq (tgt := 30) hx hb dX8_countKeys_11 (by decide) (fun c_4 => ?_) (fun c_4 => ?_)
        · have hf := (if_pos c_4).symm.trans hf
          refine lv_aload_n hx hb dX8_countKeys_30 rfl (lv_at hl 0 rfl) ?_
          refine x_get S hK h_md 0 (by decide) rfl rfl rfl in8 0 (by decide) (xm 1 rfl) (x := .ref (o + 1)) rfl dX8_countKeys_31 ?_
          refine lv_bipush (v := 40) hx hb dX8_countKeys_34 (by decide) ?_
          refine lv_iconst (v := 2) hx hb dX8_countKeys_36 (by decide) ?_
          refine lv_iload_n hx hb dX8_countKeys_37 rfl (lv_at hl 3 rfl) ?_
          refine lv_imul hx hb dX8_countKeys_38 ?_
          refine lv_iadd hx hb dX8_countKeys_39 ?_
          obtain ⟨g_5, hf⟩ := xg_some hf
          refine x_iald S hK h_md 1 (by decide) rfl rfl (40 + (2 * x_2)).toNatClampNeg rfl g_5 dX8_countKeys_40 ?_
          refine lv_iconst (v := (-1)) hx hb dX8_countKeys_41 (by decide) ?_
          refine lv_icmp_ne (tgt := 49) hx hb dX8_countKeys_42 (by decide) (fun c_6 => ?_) (fun c_6 => ?_)
          · have hf := (if_neg c_6).symm.trans hf
            refine lv_iconst (v := 0) hx hb dX8_countKeys_49 (by decide) ?_
            refine lv_istore (lv' := [(4, .int 0), (0, .ref o), (1, .int p1), (2, .int x_1), (3, .int x_2)]) hx hb dX8_countKeys_50 hl (by decide) rfl (fun ls hl => ?_)
            refine lv_iload_n hx hb dX8_countKeys_52 rfl (lv_at hl 3 rfl) ?_
            refine lv_iload hx hb dX8_countKeys_53 (lv_at hl 0 rfl) ?_
            refine lv_if_eq (tgt := 62) hx hb dX8_countKeys_55 (by decide) (fun _ => ?_) (fun h9 => absurd h9 (by decide))
            refine lv_iconst (v := 0) hx hb dX8_countKeys_62 (by decide) ?_
            refine lv_iadd hx hb dX8_countKeys_63 ?_
            obtain ⟨x_7, ex_7, hf⟩ := xl_some hf
            refine x_top ex_7 ?_
            refine lv_istore_n (lv' := [(2, .int x_7), (4, .int 0), (0, .ref o), (1, .int p1), (3, .int x_2)]) hx hb dX8_countKeys_64 rfl hl (by decide) rfl (fun ls hl => ?_)
            obtain ⟨x_8, ex_8, hf⟩ := xl_some hf
            refine lv_iinc (v := x_8) (lv' := [(3, .int x_8), (2, .int x_7), (4, .int 0), (0, .ref o), (1, .int p1)]) hx hb dX8_countKeys_65 hl (k := 4) rfl (by rw [ex_8]; rfl) (by decide) rfl (fun ls hl => ?_)
            refine lv_goto (tgt := 4) hx hb dX8_countKeys_68 (by decide) ?_
            exact ih_4 x_7 x_8 _ _ hL (lv_sub hl [3, 4, 1, 0] rfl) hf
          · have hf := (if_pos c_6).symm.trans hf
            refine lv_iconst (v := 1) hx hb dX8_countKeys_45 (by decide) ?_
            refine lv_goto (tgt := 50) hx hb dX8_countKeys_46 (by decide) ?_
            refine lv_istore (lv' := [(4, .int 1), (0, .ref o), (1, .int p1), (2, .int x_1), (3, .int x_2)]) hx hb dX8_countKeys_50 hl (by decide) rfl (fun ls hl => ?_)
            refine lv_iload_n hx hb dX8_countKeys_52 rfl (lv_at hl 3 rfl) ?_
            refine lv_iload hx hb dX8_countKeys_53 (lv_at hl 0 rfl) ?_
            refine lv_if_eq (tgt := 62) hx hb dX8_countKeys_55 (by decide) (fun h9 => absurd h9 (by decide)) (fun _ => ?_)
            refine lv_iconst (v := 1) hx hb dX8_countKeys_58 (by decide) ?_
            refine lv_goto (tgt := 63) hx hb dX8_countKeys_59 (by decide) ?_
            refine lv_iadd hx hb dX8_countKeys_63 ?_
            obtain ⟨x_9, ex_9, hf⟩ := xl_some hf
            refine x_top ex_9 ?_
            refine lv_istore_n (lv' := [(2, .int x_9), (4, .int 1), (0, .ref o), (1, .int p1), (3, .int x_2)]) hx hb dX8_countKeys_64 rfl hl (by decide) rfl (fun ls hl => ?_)
            obtain ⟨x_10, ex_10, hf⟩ := xl_some hf
            refine lv_iinc (v := x_10) (lv' := [(3, .int x_10), (2, .int x_9), (4, .int 1), (0, .ref o), (1, .int p1)]) hx hb dX8_countKeys_65 hl (k := 4) rfl (by rw [ex_10]; rfl) (by decide) rfl (fun ls hl => ?_)
            refine lv_goto (tgt := 4) hx hb dX8_countKeys_68 (by decide) ?_
            exact ih_4 x_9 x_10 _ _ hL (lv_sub hl [3, 4, 1, 0] rfl) hf
        · have hf := (if_neg c_4).symm.trans hf
          refine lv_aload_n hx hb dX8_countKeys_14 rfl (lv_at hl 0 rfl) ?_
          refine lv_iload_n hx hb dX8_countKeys_15 rfl (lv_at hl 3 rfl) ?_
          obtain ⟨r_11, e_12, hf⟩ := xb_some hf
          refine x_callVi (As := [.int x_2]) (rest := []) S hK (c_X8_lateBy l G z o M x_2 r_11 e_12) gX8_countKeys_X8_lateBy rfl 1 (by decide +kernel) rfl ⟨Nat.le_of_ble_eq_true rfl, Nat.le_of_ble_eq_true rfl⟩ h_md 0 (by decide) rfl rfl rfl h_md hl.1 rfl (Nat.le_of_ble_eq_true rfl) dX8_countKeys_16 hL ⟨Nat.zero_le _, Nat.zero_le _⟩ (fun H1 locs hL hpost => ?_)
          subst hpost
          refine lv_if_le (tgt := 26) hx hb dX8_countKeys_19 (by decide) (fun c_13 => ?_) (fun c_13 => ?_)
          · have hf := (if_pos c_13).symm.trans hf
            refine lv_iconst (v := 0) hx hb dX8_countKeys_26 (by decide) ?_
            refine lv_goto (tgt := 50) hx hb dX8_countKeys_27 (by decide) ?_
            refine lv_istore (lv' := [(4, .int 0), (0, .ref o), (1, .int p1), (2, .int x_1), (3, .int x_2)]) hx hb dX8_countKeys_50 hl (by decide) rfl (fun ls hl => ?_)
            refine lv_iload_n hx hb dX8_countKeys_52 rfl (lv_at hl 3 rfl) ?_
            refine lv_iload hx hb dX8_countKeys_53 (lv_at hl 0 rfl) ?_
            refine lv_if_eq (tgt := 62) hx hb dX8_countKeys_55 (by decide) (fun _ => ?_) (fun h9 => absurd h9 (by decide))
            refine lv_iconst (v := 0) hx hb dX8_countKeys_62 (by decide) ?_
            refine lv_iadd hx hb dX8_countKeys_63 ?_
            obtain ⟨x_14, ex_14, hf⟩ := xl_some hf
            refine x_top ex_14 ?_
            refine lv_istore_n (lv' := [(2, .int x_14), (4, .int 0), (0, .ref o), (1, .int p1), (3, .int x_2)]) hx hb dX8_countKeys_64 rfl hl (by decide) rfl (fun ls hl => ?_)
            obtain ⟨x_15, ex_15, hf⟩ := xl_some hf
            refine lv_iinc (v := x_15) (lv' := [(3, .int x_15), (2, .int x_14), (4, .int 0), (0, .ref o), (1, .int p1)]) hx hb dX8_countKeys_65 hl (k := 4) rfl (by rw [ex_15]; rfl) (by decide) rfl (fun ls hl => ?_)
            refine lv_goto (tgt := 4) hx hb dX8_countKeys_68 (by decide) ?_
            exact ih_4 x_14 x_15 _ _ hL (lv_sub hl [3, 4, 1, 0] rfl) hf
          · have hf := (if_neg c_13).symm.trans hf
            refine lv_iconst (v := 1) hx hb dX8_countKeys_22 (by decide) ?_
            refine lv_goto (tgt := 50) hx hb dX8_countKeys_23 (by decide) ?_
            refine lv_istore (lv' := [(4, .int 1), (0, .ref o), (1, .int p1), (2, .int x_1), (3, .int x_2)]) hx hb dX8_countKeys_50 hl (by decide) rfl (fun ls hl => ?_)
            refine lv_iload_n hx hb dX8_countKeys_52 rfl (lv_at hl 3 rfl) ?_
            refine lv_iload hx hb dX8_countKeys_53 (lv_at hl 0 rfl) ?_
            refine lv_if_eq (tgt := 62) hx hb dX8_countKeys_55 (by decide) (fun h9 => absurd h9 (by decide)) (fun _ => ?_)
            refine lv_iconst (v := 1) hx hb dX8_countKeys_58 (by decide) ?_
            refine lv_goto (tgt := 63) hx hb dX8_countKeys_59 (by decide) ?_
            refine lv_iadd hx hb dX8_countKeys_63 ?_
            obtain ⟨x_16, ex_16, hf⟩ := xl_some hf
            refine x_top ex_16 ?_
            refine lv_istore_n (lv' := [(2, .int x_16), (4, .int 1), (0, .ref o), (1, .int p1), (3, .int x_2)]) hx hb dX8_countKeys_64 rfl hl (by decide) rfl (fun ls hl => ?_)
            obtain ⟨x_17, ex_17, hf⟩ := xl_some hf
            refine lv_iinc (v := x_17) (lv' := [(3, .int x_17), (2, .int x_16), (4, .int 1), (0, .ref o), (1, .int p1)]) hx hb dX8_countKeys_65 hl (k := 4) rfl (by rw [ex_17]; rfl) (by decide) rfl (fun ls hl => ?_)
            refine lv_goto (tgt := 4) hx hb dX8_countKeys_68 (by decide) ?_
            exact ih_4 x_16 x_17 _ _ hL (lv_sub hl [3, 4, 1, 0] rfl) hf
  refine lp_4 _ (fun x_18 x_19 locs ls hL hl hf => ?_) 100000 0 0 _ _ hL (lv_sub hl [2, 3, 1, 0] rfl) hf
  refine lv_iload_n hx hb dX8_countKeys_71 rfl (lv_at hl 0 rfl) ?_
  have q0 := Option.some.inj hf
  subst r0
  subst hQ
  refine x_iret (post := (fun H H1 => H1 = H)) S hr hlocks rfl ?_ hL dX8_countKeys_72
  exact rfl
set_option maxRecDepth 100000 in
set_option maxHeartbeats 4000000 in
theorem c_X8_manyOf (l : Launch) (G : xG) (z : Nat) (o : Nat) (M : xV) (p1 : Int32) (p2 : Int32) (r0 : Int32)  (hf : f_X8_manyOf M p1 p2 = some r0) : xM l yX8_manyOf wsX8_manyOf 2 43 G z [.ref o, .int p1, .int p2] (fun H => PX G o 5 (mdE G o) M H) (some (.int r0)) (fun H H1 => H1 = H) := by
  refine xM.of (cc := cX8_manyOf) (maxL := 5) (ret := (some .int)) (by decide +kernel) rfl (Nat.le_of_ble_eq_true rfl) ?_
  intro p e s m args below meth c ls Q hQ S hr hlocks hK hP hl
  obtain ⟨hx, hb, hml, hown, hts⟩ := id S
  have h_md := hP
  have hL : ∀ q ∈ ([] : List Loc), z ≤ q.base := fun q h => absurd h List.not_mem_nil
  have hl : lv_has ls 5 [(0, .ref o), (1, .int p1), (2, .int p2)] := hl
  unfold f_X8_manyOf at hf
  refine lv_iconst (v := 0) hx hb dX8_manyOf_0 (by decide) ?_
  refine lv_istore_n (lv' := [(3, .int 0), (0, .ref o), (1, .int p1), (2, .int p2)]) hx hb dX8_manyOf_1 rfl hl (by decide) rfl (fun ls hl => ?_)
  refine lv_iconst (v := 0) hx hb dX8_manyOf_2 (by decide) ?_
  refine lv_istore (lv' := [(4, .int 0), (3, .int 0), (0, .ref o), (1, .int p1), (2, .int p2)]) hx hb dX8_manyOf_3 hl (by decide) rfl (fun ls hl => ?_)
  have lp_5 : ∀ (K_5 : Int32 → Int32 → Option Int32), (∀ (x_1 : Int32) (x_2 : Int32) (locs : List Loc) (ls : Array Slot), (∀ q ∈ locs, z ≤ q.base) → lv_has ls 5 [(3, .int x_1)] → K_5 x_1 x_2 = some r0 → W p l e { frames := 2, cells := 0, slots := 0, locals := 43 } s m args below meth c s.heap locs 0 0 Q (F0 m 44 ls [])) → ∀ (n : Nat) (x_1 : Int32) (x_2 : Int32) (locs : List Loc) (ls : Array Slot), (∀ q ∈ locs, z ≤ q.base) → lv_has ls 5 [(0, .ref o), (1, .int p1), (2, .int p2), (3, .int x_1), (4, .int x_2)] → L_X8_manyOf_5 K_5 M p1 p2 n x_1 x_2 = some r0 → W p l e { frames := 2, cells := 0, slots := 0, locals := 43 } s m args below meth c s.heap locs 0 0 Q (F0 m 5 ls []) := by
    intro K_5 hK_5 n
    induction n with
    | zero =>
      intro x_1 x_2 locs ls hL hl hf
      cases hf
    | succ n ih_5 =>
      intro x_1 x_2 locs ls hL hl hf
      unfold L_X8_manyOf_5 at hf
      refine lv_iload hx hb dX8_manyOf_5 (lv_at hl 4 rfl) ?_
      refine lv_aload_n hx hb dX8_manyOf_7 rfl (lv_at hl 0 rfl) ?_
      refine lv_iload_n hx hb dX8_manyOf_8 rfl (lv_at hl 1 rfl) ?_
      refine lv_iconst (v := 4) hx hb dX8_manyOf_9 (by decide) ?_
      obtain ⟨r_3, e_4, hf⟩ := xb_some hf
      refine x_callVi (As := [.int p1, .int 4]) (rest := [.int x_2]) S hK (c_X8_of l G z o M p1 4 r_3 e_4) gX8_manyOf_X8_of rfl 2 (by decide +kernel) rfl ⟨Nat.le_of_ble_eq_true rfl, Nat.le_of_ble_eq_true rfl⟩ h_md 0 (by decide) rfl rfl rfl h_md hl.1 rfl (Nat.le_of_ble_eq_true rfl) dX8_manyOf_10 hL ⟨Nat.zero_le _, Nat.zero_le _⟩ (fun H1 locs hL hpost => ?_)
      subst hpost
      refine lv_icmp_ge (tgt := 44) hx hb dX8_manyOf_13 (by decide) (fun c_5 => ?_) (fun c_5 => ?_)
      · have hf := (if_pos c_5).symm.trans hf
        exact hK_5 x_1 x_2 _ _ hL (lv_sub hl [3] rfl) hf
      · have hf := (if_neg c_5).symm.trans hf
        refine lv_iload_n hx hb dX8_manyOf_16 rfl (lv_at hl 3 rfl) ?_
        refine lv_aload_n hx hb dX8_manyOf_17 rfl (lv_at hl 0 rfl) ?_
        refine lv_iload_n hx hb dX8_manyOf_18 rfl (lv_at hl 1 rfl) ?_
        refine lv_bipush (v := 12) hx hb dX8_manyOf_19 (by decide) ?_
        refine lv_iload hx hb dX8_manyOf_21 (lv_at hl 4 rfl) ?_
        refine lv_iadd hx hb dX8_manyOf_23 ?_
        obtain ⟨r_6, e_7, hf⟩ := xb_some hf
        refine x_callVi (As := [.int p1, .int (12 + x_2)]) (rest := [.int x_1]) S hK (c_X8_of l G z o M p1 (12 + x_2) r_6 e_7) gX8_manyOf_X8_of rfl 2 (by decide +kernel) rfl ⟨Nat.le_of_ble_eq_true rfl, Nat.le_of_ble_eq_true rfl⟩ h_md 0 (by decide) rfl rfl rfl h_md hl.1 rfl (Nat.le_of_ble_eq_true rfl) dX8_manyOf_24 hL ⟨Nat.zero_le _, Nat.zero_le _⟩ (fun H1 locs hL hpost => ?_)
        subst hpost
        refine lv_iload_n hx hb dX8_manyOf_27 rfl (lv_at hl 2 rfl) ?_
        refine lv_icmp_ne (tgt := 35) hx hb dX8_manyOf_28 (by decide) (fun c_8 => ?_) (fun c_8 => ?_)
        · have hf := (if_neg c_8).symm.trans hf
          refine lv_iconst (v := 0) hx hb dX8_manyOf_35 (by decide) ?_
          refine lv_iadd hx hb dX8_manyOf_36 ?_
          obtain ⟨x_9, ex_9, hf⟩ := xl_some hf
          refine x_top ex_9 ?_
          refine lv_istore_n (lv' := [(3, .int x_9), (0, .ref o), (1, .int p1), (2, .int p2), (4, .int x_2)]) hx hb dX8_manyOf_37 rfl hl (by decide) rfl (fun ls hl => ?_)
          obtain ⟨x_10, ex_10, hf⟩ := xl_some hf
          refine lv_iinc (v := x_10) (lv' := [(4, .int x_10), (3, .int x_9), (0, .ref o), (1, .int p1), (2, .int p2)]) hx hb dX8_manyOf_38 hl (k := 4) rfl (by rw [ex_10]; rfl) (by decide) rfl (fun ls hl => ?_)
          refine lv_goto (tgt := 5) hx hb dX8_manyOf_41 (by decide) ?_
          exact ih_5 x_9 x_10 _ _ hL (lv_sub hl [2, 3, 4, 1, 0] rfl) hf
        · have hf := (if_pos c_8).symm.trans hf
          refine lv_iconst (v := 1) hx hb dX8_manyOf_31 (by decide) ?_
          refine lv_goto (tgt := 36) hx hb dX8_manyOf_32 (by decide) ?_
          refine lv_iadd hx hb dX8_manyOf_36 ?_
          obtain ⟨x_11, ex_11, hf⟩ := xl_some hf
          refine x_top ex_11 ?_
          refine lv_istore_n (lv' := [(3, .int x_11), (0, .ref o), (1, .int p1), (2, .int p2), (4, .int x_2)]) hx hb dX8_manyOf_37 rfl hl (by decide) rfl (fun ls hl => ?_)
          obtain ⟨x_12, ex_12, hf⟩ := xl_some hf
          refine lv_iinc (v := x_12) (lv' := [(4, .int x_12), (3, .int x_11), (0, .ref o), (1, .int p1), (2, .int p2)]) hx hb dX8_manyOf_38 hl (k := 4) rfl (by rw [ex_12]; rfl) (by decide) rfl (fun ls hl => ?_)
          refine lv_goto (tgt := 5) hx hb dX8_manyOf_41 (by decide) ?_
          exact ih_5 x_11 x_12 _ _ hL (lv_sub hl [2, 3, 4, 1, 0] rfl) hf
  refine lp_5 _ (fun x_13 x_14 locs ls hL hl hf => ?_) 100000 0 0 _ _ hL (lv_sub hl [2, 3, 4, 1, 0] rfl) hf
  refine lv_iload_n hx hb dX8_manyOf_44 rfl (lv_at hl 0 rfl) ?_
  have q0 := Option.some.inj hf
  subst r0
  subst hQ
  refine x_iret (post := (fun H H1 => H1 = H)) S hr hlocks rfl ?_ hL dX8_manyOf_45
  exact rfl
set_option maxRecDepth 100000 in
set_option maxHeartbeats 4000000 in
theorem c_X8_countSessions (l : Launch) (G : xG) (z : Nat) (o : Nat) (M : xV) (p1 : Int32) (r0 : Int32)  (hf : f_X8_countSessions M p1 = some r0) : xM l yX8_countSessions wsX8_countSessions 3 67 G z [.ref o, .int p1] (fun H => PX G o 5 (mdE G o) M H) (some (.int r0)) (fun H H1 => H1 = H) := by
  refine xM.of (cc := cX8_countSessions) (maxL := 5) (ret := (some .int)) (by decide +kernel) rfl (Nat.le_of_ble_eq_true rfl) ?_
  intro p e s m args below meth c ls Q hQ S hr hlocks hK hP hl
  obtain ⟨hx, hb, hml, hown, hts⟩ := id S
  have h_md := hP
  have hL : ∀ q ∈ ([] : List Loc), z ≤ q.base := fun q h => absurd h List.not_mem_nil
  have hl : lv_has ls 5 [(0, .ref o), (1, .int p1)] := hl
  have in8 : ∀ w ∈ u_ws RX8 TX8 18, w ∈ wsX8_countSessions := fun _ h => List.mem_cons_of_mem _ (List.mem_append_right _ h)
  unfold f_X8_countSessions at hf
  refine lv_iconst (v := 0) hx hb dX8_countSessions_0 (by decide) ?_
  refine lv_istore_n (lv' := [(2, .int 0), (0, .ref o), (1, .int p1)]) hx hb dX8_countSessions_1 rfl hl (by decide) rfl (fun ls hl => ?_)
  refine lv_iconst (v := 0) hx hb dX8_countSessions_2 (by decide) ?_
  refine lv_istore_n (lv' := [(3, .int 0), (2, .int 0), (0, .ref o), (1, .int p1)]) hx hb dX8_countSessions_3 rfl hl (by decide) rfl (fun ls hl => ?_)
  have lp_4 : ∀ (K_4 : Int32 → Int32 → Option Int32), (∀ (x_1 : Int32) (x_2 : Int32) (locs : List Loc) (ls : Array Slot), (∀ q ∈ locs, z ≤ q.base) → lv_has ls 5 [(2, .int x_1)] → K_4 x_1 x_2 = some r0 → W p l e { frames := 3, cells := 0, slots := 0, locals := 67 } s m args below meth c s.heap locs 0 0 Q (F0 m 78 ls [])) → ∀ (n : Nat) (x_1 : Int32) (x_2 : Int32) (locs : List Loc) (ls : Array Slot), (∀ q ∈ locs, z ≤ q.base) → lv_has ls 5 [(0, .ref o), (1, .int p1), (2, .int x_1), (3, .int x_2)] → L_X8_countSessions_4 K_4 M p1 n x_1 x_2 = some r0 → W p l e { frames := 3, cells := 0, slots := 0, locals := 67 } s m args below meth c s.heap locs 0 0 Q (F0 m 4 ls []) := by
    intro K_4 hK_4 n
    induction n with
    | zero =>
      intro x_1 x_2 locs ls hL hl hf
      cases hf
    | succ n ih_4 =>
      intro x_1 x_2 locs ls hL hl hf
      unfold L_X8_countSessions_4 at hf
      refine lv_iload_n hx hb dX8_countSessions_4 rfl (lv_at hl 3 rfl) ?_
      refine lv_aload_n hx hb dX8_countSessions_5 rfl (lv_at hl 0 rfl) ?_
      refine x_get S hK h_md 0 (by decide) rfl rfl rfl in8 0 (by decide) (xm 1 rfl) (x := .ref (o + 1)) rfl dX8_countSessions_6 ?_
      refine lv_bipush (v := 10) hx hb dX8_countSessions_9 (by decide) ?_
      refine x_iald S hK h_md 1 (by decide) rfl rfl 10 (by decide) (by decide) dX8_countSessions_11 ?_
      refine lv_icmp_ge (tgt := 78) hx hb dX8_countSessions_12 (by decide) (fun c_3 => ?_) (fun c_3 => ?_)
      · have hf := (if_pos c_3).symm.trans hf
        exact hK_4 x_1 x_2 _ _ hL (lv_sub hl [2] rfl) hf
      · have hf := (if_neg c_3).symm.trans hf
        refine lv_aload_n hx hb dX8_countSessions_15 rfl (lv_at hl 0 rfl) ?_
        refine lv_iload_n hx hb dX8_countSessions_16 rfl (lv_at hl 3 rfl) ?_
        refine lv_iconst (v := 1) hx hb dX8_countSessions_17 (by decide) ?_
        obtain ⟨r_4, e_5, hf⟩ := xb_some hf
        refine x_callVi (As := [.int x_2, .int 1]) (rest := []) S hK (c_X8_of l G z o M x_2 1 r_4 e_5) gX8_countSessions_X8_of rfl 2 (by decide +kernel) rfl ⟨Nat.le_of_ble_eq_true rfl, Nat.le_of_ble_eq_true rfl⟩ h_md 0 (by decide) rfl rfl rfl h_md hl.1 rfl (Nat.le_of_ble_eq_true rfl) dX8_countSessions_18 hL ⟨Nat.zero_le _, Nat.zero_le _⟩ (fun H1 locs hL hpost => ?_)
        subst hpost
        obtain ⟨r_6, e_7, hf⟩ := xb_some hf
        refine x_callTi (As := [.int r_4]) (rest := []) S hK (c_X8_roomsIn l G z r_4 r_6 e_7) gX8_countSessions_X8_roomsIn rfl 1 (by decide +kernel) rfl ⟨Nat.le_of_ble_eq_true rfl, Nat.le_of_ble_eq_true rfl⟩ rfl hl.1 rfl (Nat.le_of_ble_eq_true rfl) dX8_countSessions_21 hL ⟨Nat.zero_le _, Nat.zero_le _⟩ (fun H1 locs hL hpost => ?_)
        subst hpost
        refine lv_aload_n hx hb dX8_countSessions_24 rfl (lv_at hl 0 rfl) ?_
        refine lv_iload_n hx hb dX8_countSessions_25 rfl (lv_at hl 3 rfl) ?_
        refine lv_iconst (v := 3) hx hb dX8_countSessions_26 (by decide) ?_
        obtain ⟨r_8, e_9, hf⟩ := xb_some hf
        refine x_callVi (As := [.int x_2, .int 3]) (rest := [.int r_6]) S hK (c_X8_of l G z o M x_2 3 r_8 e_9) gX8_countSessions_X8_of rfl 2 (by decide +kernel) rfl ⟨Nat.le_of_ble_eq_true rfl, Nat.le_of_ble_eq_true rfl⟩ h_md 0 (by decide) rfl rfl rfl h_md hl.1 rfl (Nat.le_of_ble_eq_true rfl) dX8_countSessions_27 hL ⟨Nat.zero_le _, Nat.zero_le _⟩ (fun H1 locs hL hpost => ?_)
        subst hpost
        refine lv_aload_n hx hb dX8_countSessions_30 rfl (lv_at hl 0 rfl) ?_
        refine lv_iload_n hx hb dX8_countSessions_31 rfl (lv_at hl 3 rfl) ?_
        refine lv_iconst (v := 2) hx hb dX8_countSessions_32 (by decide) ?_
        obtain ⟨r_10, e_11, hf⟩ := xb_some hf
        refine x_callVi (As := [.int x_2, .int 2]) (rest := [.int r_8, .int r_6]) S hK (c_X8_of l G z o M x_2 2 r_10 e_11) gX8_countSessions_X8_of rfl 2 (by decide +kernel) rfl ⟨Nat.le_of_ble_eq_true rfl, Nat.le_of_ble_eq_true rfl⟩ h_md 0 (by decide) rfl rfl rfl h_md hl.1 rfl (Nat.le_of_ble_eq_true rfl) dX8_countSessions_33 hL ⟨Nat.zero_le _, Nat.zero_le _⟩ (fun H1 locs hL hpost => ?_)
        subst hpost
        refine lv_isub hx hb dX8_countSessions_36 ?_
        refine lv_imul hx hb dX8_countSessions_37 ?_
        obtain ⟨x_12, ex_12, hf⟩ := xl_some hf
        refine x_top ex_12 ?_
        refine lv_istore (lv' := [(4, .int x_12), (0, .ref o), (1, .int p1), (2, .int x_1), (3, .int x_2)]) hx hb dX8_countSessions_38 hl (by decide) rfl (fun ls hl => ?_)
        refine lv_iload_n hx hb dX8_countSessions_40 rfl (lv_at hl 3 rfl) ?_
        refine lv_iload_n hx hb dX8_countSessions_41 rfl (lv_at hl 2 rfl) ?_
        refine lv_if_eq (tgt := 57) hx hb dX8_countSessions_42 (by decide) (fun c_13 => ?_) (fun c_13 => ?_)
        · have hf := (if_pos c_13).symm.trans hf
          refine lv_aload_n hx hb dX8_countSessions_57 rfl (lv_at hl 1 rfl) ?_
          refine lv_iload_n hx hb dX8_countSessions_58 rfl (lv_at hl 4 rfl) ?_
          refine lv_iconst (v := 4) hx hb dX8_countSessions_59 (by decide) ?_
          obtain ⟨r_14, e_15, hf⟩ := xb_some hf
          refine x_callVi (As := [.int x_2, .int 4]) (rest := [.int x_1]) S hK (c_X8_of l G z o M x_2 4 r_14 e_15) gX8_countSessions_X8_of rfl 2 (by decide +kernel) rfl ⟨Nat.le_of_ble_eq_true rfl, Nat.le_of_ble_eq_true rfl⟩ h_md 0 (by decide) rfl rfl rfl h_md hl.1 rfl (Nat.le_of_ble_eq_true rfl) dX8_countSessions_60 hL ⟨Nat.zero_le _, Nat.zero_le _⟩ (fun H1 locs hL hpost => ?_)
          subst hpost
          refine lv_aload_n hx hb dX8_countSessions_63 rfl (lv_at hl 1 rfl) ?_
          refine lv_iload_n hx hb dX8_countSessions_64 rfl (lv_at hl 4 rfl) ?_
          refine lv_iconst (v := 2) hx hb dX8_countSessions_65 (by decide) ?_
          obtain ⟨r_16, e_17, hf⟩ := xb_some hf
          refine x_callVi (As := [.int x_2, .int 2]) (rest := [.int r_14, .int x_1]) S hK (c_X8_manyOf l G z o M x_2 2 r_16 e_17) gX8_countSessions_X8_manyOf rfl 2 (by decide +kernel) rfl ⟨Nat.le_of_ble_eq_true rfl, Nat.le_of_ble_eq_true rfl⟩ h_md 0 (by decide) rfl rfl rfl h_md hl.1 rfl (Nat.le_of_ble_eq_true rfl) dX8_countSessions_66 hL ⟨Nat.zero_le _, Nat.zero_le _⟩ (fun H1 locs hL hpost => ?_)
          subst hpost
          refine lv_isub hx hb dX8_countSessions_69 ?_
          refine lv_iadd hx hb dX8_countSessions_70 ?_
          obtain ⟨x_18, ex_18, hf⟩ := xl_some hf
          refine x_top ex_18 ?_
          refine lv_istore_n (lv' := [(2, .int x_18), (4, .int x_12), (0, .ref o), (1, .int p1), (3, .int x_2)]) hx hb dX8_countSessions_71 rfl hl (by decide) rfl (fun ls hl => ?_)
          obtain ⟨x_19, ex_19, hf⟩ := xl_some hf
          refine lv_iinc (v := x_19) (lv' := [(3, .int x_19), (2, .int x_18), (4, .int x_12), (0, .ref o), (1, .int p1)]) hx hb dX8_countSessions_72 hl (k := 4) rfl (by rw [ex_19]; rfl) (by decide) rfl (fun ls hl => ?_)
          refine lv_goto (tgt := 4) hx hb dX8_countSessions_75 (by decide) ?_
          exact ih_4 x_18 x_19 _ _ hL (lv_sub hl [3, 4, 1, 0] rfl) hf
        · have hf := (if_neg c_13).symm.trans hf
          refine lv_aload_n hx hb dX8_countSessions_45 rfl (lv_at hl 1 rfl) ?_
          refine lv_iload_n hx hb dX8_countSessions_46 rfl (lv_at hl 4 rfl) ?_
          refine lv_iconst (v := 1) hx hb dX8_countSessions_47 (by decide) ?_
          obtain ⟨r_20, e_21, hf⟩ := xb_some hf
          refine x_callVi (As := [.int x_2, .int 1]) (rest := [.int x_1]) S hK (c_X8_manyOf l G z o M x_2 1 r_20 e_21) gX8_countSessions_X8_manyOf rfl 2 (by decide +kernel) rfl ⟨Nat.le_of_ble_eq_true rfl, Nat.le_of_ble_eq_true rfl⟩ h_md 0 (by decide) rfl rfl rfl h_md hl.1 rfl (Nat.le_of_ble_eq_true rfl) dX8_countSessions_48 hL ⟨Nat.zero_le _, Nat.zero_le _⟩ (fun H1 locs hL hpost => ?_)
          subst hpost
          refine lv_iload hx hb dX8_countSessions_51 (lv_at hl 0 rfl) ?_
          refine lv_imul hx hb dX8_countSessions_53 ?_
          refine lv_goto (tgt := 70) hx hb dX8_countSessions_54 (by decide) ?_
          refine lv_iadd hx hb dX8_countSessions_70 ?_
          obtain ⟨x_22, ex_22, hf⟩ := xl_some hf
          refine x_top ex_22 ?_
          refine lv_istore_n (lv' := [(2, .int x_22), (4, .int x_12), (0, .ref o), (1, .int p1), (3, .int x_2)]) hx hb dX8_countSessions_71 rfl hl (by decide) rfl (fun ls hl => ?_)
          obtain ⟨x_23, ex_23, hf⟩ := xl_some hf
          refine lv_iinc (v := x_23) (lv' := [(3, .int x_23), (2, .int x_22), (4, .int x_12), (0, .ref o), (1, .int p1)]) hx hb dX8_countSessions_72 hl (k := 4) rfl (by rw [ex_23]; rfl) (by decide) rfl (fun ls hl => ?_)
          refine lv_goto (tgt := 4) hx hb dX8_countSessions_75 (by decide) ?_
          exact ih_4 x_22 x_23 _ _ hL (lv_sub hl [3, 4, 1, 0] rfl) hf
  refine lp_4 _ (fun x_24 x_25 locs ls hL hl hf => ?_) 100000 0 0 _ _ hL (lv_sub hl [2, 3, 1, 0] rfl) hf
  refine lv_iload_n hx hb dX8_countSessions_78 rfl (lv_at hl 0 rfl) ?_
  have q0 := Option.some.inj hf
  subst r0
  subst hQ
  refine x_iret (post := (fun H H1 => H1 = H)) S hr hlocks rfl ?_ hL dX8_countSessions_79
  exact rfl
set_option maxRecDepth 100000 in
set_option maxHeartbeats 4000000 in
theorem c_X8_count (l : Launch) (G : xG) (z : Nat) (o : Nat) (M : xV) (p1 : Int32) (r0 : Int32)  (hf : f_X8_count M p1 = some r0) : xM l yX8_count wsX8_count 4 91 G z [.ref o, .int p1] (fun H => PX G o 5 (mdE G o) M H) (some (.int r0)) (fun H H1 => H1 = H) := by
  refine xM.of (cc := cX8_count) (maxL := 2) (ret := (some .int)) (by decide +kernel) rfl (Nat.le_of_ble_eq_true rfl) ?_
  intro p e s m args below meth c ls Q hQ S hr hlocks hK hP hl
  obtain ⟨hx, hb, hml, hown, hts⟩ := id S
  have h_md := hP
  have hL : ∀ q ∈ ([] : List Loc), z ≤ q.base := fun q h => absurd h List.not_mem_nil
  have hl : lv_has ls 2 [(0, .ref o), (1, .int p1)] := hl
  have in8 : ∀ w ∈ u_ws RX8 TX8 18, w ∈ wsX8_count := fun _ h => List.mem_cons_of_mem _ (List.mem_append_right _ h)
  unfold f_X8_count at hf
  refine lv_iload_n hx hb dX8_count_0 rfl (lv_at hl 1 rfl) ?_
  refine lv_i2l (v := p1.toInt64) hx hb dX8_count_1 rfl ?_
  refine lv_ldc2 (v := 10) hx hb hown (hts _ (xm 1 rfl)) dX8_count_2 ?_
  refine lv_ldc2 (v := 17) hx hb hown (hts _ (xm 2 rfl)) dX8_count_5 ?_
  obtain ⟨r_1, e_2, hf⟩ := xb_some hf
  refine x_callTi (As := [.long (p1.toInt64), .long 10, .long 17]) (rest := []) S hK (c_X8_in l G z (p1.toInt64) 10 17 r_1 e_2) gX8_count_X8_in rfl 3 (by decide +kernel) rfl ⟨Nat.le_of_ble_eq_true rfl, Nat.le_of_ble_eq_true rfl⟩ rfl hl.1 rfl (Nat.le_of_ble_eq_true rfl) dX8_count_8 hL ⟨Nat.zero_le _, Nat.zero_le _⟩ (fun H1 locs hL hpost => ?_)
  subst hpost
  refine lv_if_eq (tgt := 26) hx hb dX8_count_11 (by decide) (fun c_3 => ?_) (fun c_3 => ?_)
  · have hf := (if_pos c_3).symm.trans hf
    refine lv_iload_n hx hb dX8_count_26 rfl (lv_at hl 1 rfl) ?_
    refine lv_i2l (v := p1.toInt64) hx hb dX8_count_27 rfl ?_
    refine lv_ldc2 (v := 20) hx hb hown (hts _ (xm 4 rfl)) dX8_count_28 ?_
    refine lv_ldc2 (v := 28) hx hb hown (hts _ (xm 5 rfl)) dX8_count_31 ?_
    obtain ⟨r_4, e_5, hf⟩ := xb_some hf
    refine x_callTi (As := [.long (p1.toInt64), .long 20, .long 28]) (rest := []) S hK (c_X8_in l G z (p1.toInt64) 20 28 r_4 e_5) gX8_count_X8_in rfl 3 (by decide +kernel) rfl ⟨Nat.le_of_ble_eq_true rfl, Nat.le_of_ble_eq_true rfl⟩ rfl hl.1 rfl (Nat.le_of_ble_eq_true rfl) dX8_count_34 hL ⟨Nat.zero_le _, Nat.zero_le _⟩ (fun H1 locs hL hpost => ?_)
    subst hpost
    refine lv_if_eq (tgt := 53) hx hb dX8_count_37 (by decide) (fun c_6 => ?_) (fun c_6 => ?_)
    · have hf := (if_pos c_6).symm.trans hf
      refine lv_iload_n hx hb dX8_count_53 rfl (lv_at hl 1 rfl) ?_
      by_cases c_7 : p1 = 0
      · have hf := (if_pos c_7).symm.trans hf
        refine x_tin (tgt := 104) (off := 50) S 0 c_7 dX8_count_54 (by decide) (by decide) (by decide) (by decide) ?_
        refine lv_aload_n hx hb dX8_count_104 rfl (lv_at hl 0 rfl) ?_
        refine x_get S hK h_md 0 (by decide) rfl rfl rfl in8 0 (by decide) (xm 3 rfl) (x := .ref (o + 1)) rfl dX8_count_105 ?_
        refine lv_iconst (v := 0) hx hb dX8_count_108 (by decide) ?_
        refine x_iald S hK h_md 1 (by decide) rfl rfl 0 (by decide) (by decide) dX8_count_109 ?_
        have q0 := Option.some.inj hf
        subst r0
        subst hQ
        refine x_iret (post := (fun H H1 => H1 = H)) S hr hlocks rfl ?_ hL dX8_count_110
        exact rfl
      have hf := (if_neg c_7).symm.trans hf
      by_cases c_8 : p1 = 1
      · have hf := (if_pos c_8).symm.trans hf
        refine x_tin (tgt := 111) (off := 57) S 1 c_8 dX8_count_54 (by decide) (by decide) (by decide) (by decide) ?_
        refine lv_aload_n hx hb dX8_count_111 rfl (lv_at hl 0 rfl) ?_
        refine x_get S hK h_md 0 (by decide) rfl rfl rfl in8 0 (by decide) (xm 3 rfl) (x := .ref (o + 1)) rfl dX8_count_112 ?_
        refine lv_bipush (v := 9) hx hb dX8_count_115 (by decide) ?_
        refine x_iald S hK h_md 1 (by decide) rfl rfl 9 (by decide) (by decide) dX8_count_117 ?_
        have q0 := Option.some.inj hf
        subst r0
        subst hQ
        refine x_iret (post := (fun H H1 => H1 = H)) S hr hlocks rfl ?_ hL dX8_count_118
        exact rfl
      have hf := (if_neg c_8).symm.trans hf
      by_cases c_9 : p1 = 2
      · have hf := (if_pos c_9).symm.trans hf
        refine x_tin (tgt := 119) (off := 65) S 2 c_9 dX8_count_54 (by decide) (by decide) (by decide) (by decide) ?_
        refine lv_aload_n hx hb dX8_count_119 rfl (lv_at hl 0 rfl) ?_
        refine x_get S hK h_md 0 (by decide) rfl rfl rfl in8 0 (by decide) (xm 3 rfl) (x := .ref (o + 1)) rfl dX8_count_120 ?_
        refine lv_bipush (v := 10) hx hb dX8_count_123 (by decide) ?_
        refine x_iald S hK h_md 1 (by decide) rfl rfl 10 (by decide) (by decide) dX8_count_125 ?_
        have q0 := Option.some.inj hf
        subst r0
        subst hQ
        refine x_iret (post := (fun H H1 => H1 = H)) S hr hlocks rfl ?_ hL dX8_count_126
        exact rfl
      have hf := (if_neg c_9).symm.trans hf
      by_cases c_10 : p1 = 3
      · have hf := (if_pos c_10).symm.trans hf
        refine x_tin (tgt := 127) (off := 73) S 3 c_10 dX8_count_54 (by decide) (by decide) (by decide) (by decide) ?_
        refine lv_aload_n hx hb dX8_count_127 rfl (lv_at hl 0 rfl) ?_
        refine lv_iconst (v := 0) hx hb dX8_count_128 (by decide) ?_
        obtain ⟨r_11, e_12, hf⟩ := xb_some hf
        refine x_callVi (As := [.int 0]) (rest := []) S hK (c_X8_countSessions l G z o M 0 r_11 e_12) gX8_count_X8_countSessions rfl 1 (by decide +kernel) rfl ⟨Nat.le_of_ble_eq_true rfl, Nat.le_of_ble_eq_true rfl⟩ h_md 0 (by decide) rfl rfl rfl h_md hl.1 rfl (Nat.le_of_ble_eq_true rfl) dX8_count_129 hL ⟨Nat.zero_le _, Nat.zero_le _⟩ (fun H1 locs hL hpost => ?_)
        subst hpost
        have q0 := Option.some.inj hf
        subst r0
        subst hQ
        refine x_iret (post := (fun H H1 => H1 = H)) S hr hlocks rfl ?_ hL dX8_count_132
        exact rfl
      have hf := (if_neg c_10).symm.trans hf
      by_cases c_13 : p1 = 4
      · have hf := (if_pos c_13).symm.trans hf
        refine x_tin (tgt := 133) (off := 79) S 4 c_13 dX8_count_54 (by decide) (by decide) (by decide) (by decide) ?_
        refine lv_aload_n hx hb dX8_count_133 rfl (lv_at hl 0 rfl) ?_
        refine lv_iconst (v := 0) hx hb dX8_count_134 (by decide) ?_
        obtain ⟨r_14, e_15, hf⟩ := xb_some hf
        refine x_callVi (As := [.int 0]) (rest := []) S hK (c_X8_countKeys l G z o M 0 r_14 e_15) gX8_count_X8_countKeys rfl 1 (by decide +kernel) rfl ⟨Nat.le_of_ble_eq_true rfl, Nat.le_of_ble_eq_true rfl⟩ h_md 0 (by decide) rfl rfl rfl h_md hl.1 rfl (Nat.le_of_ble_eq_true rfl) dX8_count_135 hL ⟨Nat.zero_le _, Nat.zero_le _⟩ (fun H1 locs hL hpost => ?_)
        subst hpost
        have q0 := Option.some.inj hf
        subst r0
        subst hQ
        refine x_iret (post := (fun H H1 => H1 = H)) S hr hlocks rfl ?_ hL dX8_count_138
        exact rfl
      have hf := (if_neg c_13).symm.trans hf
      by_cases c_16 : p1 = 5
      · have hf := (if_pos c_16).symm.trans hf
        refine x_tin (tgt := 139) (off := 85) S 5 c_16 dX8_count_54 (by decide) (by decide) (by decide) (by decide) ?_
        refine lv_aload_n hx hb dX8_count_139 rfl (lv_at hl 0 rfl) ?_
        refine lv_iconst (v := 1) hx hb dX8_count_140 (by decide) ?_
        obtain ⟨r_17, e_18, hf⟩ := xb_some hf
        refine x_callVi (As := [.int 1]) (rest := []) S hK (c_X8_countKeys l G z o M 1 r_17 e_18) gX8_count_X8_countKeys rfl 1 (by decide +kernel) rfl ⟨Nat.le_of_ble_eq_true rfl, Nat.le_of_ble_eq_true rfl⟩ h_md 0 (by decide) rfl rfl rfl h_md hl.1 rfl (Nat.le_of_ble_eq_true rfl) dX8_count_141 hL ⟨Nat.zero_le _, Nat.zero_le _⟩ (fun H1 locs hL hpost => ?_)
        subst hpost
        have q0 := Option.some.inj hf
        subst r0
        subst hQ
        refine x_iret (post := (fun H H1 => H1 = H)) S hr hlocks rfl ?_ hL dX8_count_144
        exact rfl
      have hf := (if_neg c_16).symm.trans hf
      by_cases c_19 : p1 = 6
      · have hf := (if_pos c_19).symm.trans hf
        refine x_tin (tgt := 145) (off := 91) S 6 c_19 dX8_count_54 (by decide) (by decide) (by decide) (by decide) ?_
        refine lv_aload_n hx hb dX8_count_145 rfl (lv_at hl 0 rfl) ?_
        refine lv_iconst (v := 1) hx hb dX8_count_146 (by decide) ?_
        obtain ⟨r_20, e_21, hf⟩ := xb_some hf
        refine x_callVi (As := [.int 1]) (rest := []) S hK (c_X8_countSessions l G z o M 1 r_20 e_21) gX8_count_X8_countSessions rfl 1 (by decide +kernel) rfl ⟨Nat.le_of_ble_eq_true rfl, Nat.le_of_ble_eq_true rfl⟩ h_md 0 (by decide) rfl rfl rfl h_md hl.1 rfl (Nat.le_of_ble_eq_true rfl) dX8_count_147 hL ⟨Nat.zero_le _, Nat.zero_le _⟩ (fun H1 locs hL hpost => ?_)
        subst hpost
        have q0 := Option.some.inj hf
        subst r0
        subst hQ
        refine x_iret (post := (fun H H1 => H1 = H)) S hr hlocks rfl ?_ hL dX8_count_150
        exact rfl
      have hf := (if_neg c_19).symm.trans hf
      by_cases c_22 : p1 = 7
      · have hf := (if_pos c_22).symm.trans hf
        refine x_tin (tgt := 151) (off := 97) S 7 c_22 dX8_count_54 (by decide) (by decide) (by decide) (by decide) ?_
        refine lv_aload_n hx hb dX8_count_151 rfl (lv_at hl 0 rfl) ?_
        refine x_get S hK h_md 0 (by decide) rfl rfl rfl in8 3 (by decide) (xm 6 rfl) (x := .int (M 0 3)) rfl dX8_count_152 ?_
        have q0 := Option.some.inj hf
        subst r0
        subst hQ
        refine x_iret (post := (fun H H1 => H1 = H)) S hr hlocks rfl ?_ hL dX8_count_155
        exact rfl
      have hf := (if_neg c_22).symm.trans hf
      by_cases c_23 : p1 = 8
      · have hf := (if_pos c_23).symm.trans hf
        refine x_tin (tgt := 156) (off := 102) S 8 c_23 dX8_count_54 (by decide) (by decide) (by decide) (by decide) ?_
        refine lv_aload_n hx hb dX8_count_156 rfl (lv_at hl 0 rfl) ?_
        refine x_get S hK h_md 0 (by decide) rfl rfl rfl in8 6 (by decide) (xm 7 rfl) (x := .int (M 0 6)) rfl dX8_count_157 ?_
        have q0 := Option.some.inj hf
        subst r0
        subst hQ
        refine x_iret (post := (fun H H1 => H1 = H)) S hr hlocks rfl ?_ hL dX8_count_160
        exact rfl
      have hf := (if_neg c_23).symm.trans hf
      have tc_7 : p1.toInt ≠ 0 := fun h9 => c_7 (xti (h9.trans (by decide)))
      have tc_8 : p1.toInt ≠ 1 := fun h9 => c_8 (xti (h9.trans (by decide)))
      have tc_9 : p1.toInt ≠ 2 := fun h9 => c_9 (xti (h9.trans (by decide)))
      have tc_10 : p1.toInt ≠ 3 := fun h9 => c_10 (xti (h9.trans (by decide)))
      have tc_13 : p1.toInt ≠ 4 := fun h9 => c_13 (xti (h9.trans (by decide)))
      have tc_16 : p1.toInt ≠ 5 := fun h9 => c_16 (xti (h9.trans (by decide)))
      have tc_19 : p1.toInt ≠ 6 := fun h9 => c_19 (xti (h9.trans (by decide)))
      have tc_22 : p1.toInt ≠ 7 := fun h9 => c_22 (xti (h9.trans (by decide)))
      have tc_23 : p1.toInt ≠ 8 := fun h9 => c_23 (xti (h9.trans (by decide)))
      refine lv_tableOut (tgt := 161) hx hb dX8_count_54 (by omega) (by decide) ?_
      refine lv_ldc (v := (-2000000001)) hx hb hown (hts _ (xm 8 rfl)) dX8_count_161 ?_
      have q0 := Option.some.inj hf
      subst r0
      subst hQ
      refine x_iret (post := (fun H H1 => H1 = H)) S hr hlocks rfl ?_ hL dX8_count_163
      exact rfl
    · have hf := (if_neg c_6).symm.trans hf
      refine lv_aload_n hx hb dX8_count_40 rfl (lv_at hl 0 rfl) ?_
      refine x_get S hK h_md 0 (by decide) rfl rfl rfl in8 0 (by decide) (xm 3 rfl) (x := .ref (o + 1)) rfl dX8_count_41 ?_
      refine lv_bipush (v := 11) hx hb dX8_count_44 (by decide) ?_
      refine lv_iload_n hx hb dX8_count_46 rfl (lv_at hl 1 rfl) ?_
      refine lv_iadd hx hb dX8_count_47 ?_
      refine lv_bipush (v := 20) hx hb dX8_count_48 (by decide) ?_
      refine lv_isub hx hb dX8_count_50 ?_
      obtain ⟨g_24, hf⟩ := xg_some hf
      refine x_iald S hK h_md 1 (by decide) rfl rfl ((11 + p1) - 20).toNatClampNeg rfl g_24 dX8_count_51 ?_
      have q0 := Option.some.inj hf
      subst r0
      subst hQ
      refine x_iret (post := (fun H H1 => H1 = H)) S hr hlocks rfl ?_ hL dX8_count_52
      exact rfl
  · have hf := (if_neg c_3).symm.trans hf
    refine lv_aload_n hx hb dX8_count_14 rfl (lv_at hl 0 rfl) ?_
    refine x_get S hK h_md 0 (by decide) rfl rfl rfl in8 0 (by decide) (xm 3 rfl) (x := .ref (o + 1)) rfl dX8_count_15 ?_
    refine lv_iconst (v := 1) hx hb dX8_count_18 (by decide) ?_
    refine lv_iload_n hx hb dX8_count_19 rfl (lv_at hl 1 rfl) ?_
    refine lv_iadd hx hb dX8_count_20 ?_
    refine lv_bipush (v := 10) hx hb dX8_count_21 (by decide) ?_
    refine lv_isub hx hb dX8_count_23 ?_
    obtain ⟨g_25, hf⟩ := xg_some hf
    refine x_iald S hK h_md 1 (by decide) rfl rfl ((1 + p1) - 10).toNatClampNeg rfl g_25 dX8_count_24 ?_
    have q0 := Option.some.inj hf
    subst r0
    subst hQ
    refine x_iret (post := (fun H H1 => H1 = H)) S hr hlocks rfl ?_ hL dX8_count_25
    exact rfl
set_option maxRecDepth 100000 in
set_option maxHeartbeats 4000000 in
theorem c_X8_keysOf (l : Launch) (G : xG) (z : Nat) (o : Nat) (M : xV) (p1 : Int32) (r0 : Int32)  (hf : f_X8_keysOf M p1 = some r0) : xM l yX8_keysOf wsX8_keysOf 0 0 G z [.ref o, .int p1] (fun H => PX G o 5 (mdE G o) M H) (some (.int r0)) (fun H H1 => H1 = H) := by
  refine xM.of (cc := cX8_keysOf) (maxL := 4) (ret := (some .int)) (by decide +kernel) rfl (Nat.le_of_ble_eq_true rfl) ?_
  intro p e s m args below meth c ls Q hQ S hr hlocks hK hP hl
  obtain ⟨hx, hb, hml, hown, hts⟩ := id S
  have h_md := hP
  have hL : ∀ q ∈ ([] : List Loc), z ≤ q.base := fun q h => absurd h List.not_mem_nil
  have hl : lv_has ls 4 [(0, .ref o), (1, .int p1)] := hl
  have in8 : ∀ w ∈ u_ws RX8 TX8 18, w ∈ wsX8_keysOf := fun _ h => List.mem_cons_of_mem _ (List.mem_append_right _ h)
  unfold f_X8_keysOf at hf
  refine lv_iconst (v := 0) hx hb dX8_keysOf_0 (by decide) ?_
  refine lv_istore_n (lv' := [(2, .int 0), (0, .ref o), (1, .int p1)]) hx hb dX8_keysOf_1 rfl hl (by decide) rfl (fun ls hl => ?_)
  refine lv_iconst (v := 0) hx hb dX8_keysOf_2 (by decide) ?_
  refine lv_istore_n (lv' := [(3, .int 0), (2, .int 0), (0, .ref o), (1, .int p1)]) hx hb dX8_keysOf_3 rfl hl (by decide) rfl (fun ls hl => ?_)
  have lp_4 : ∀ (K_4 : Int32 → Int32 → Option Int32), (∀ (x_1 : Int32) (x_2 : Int32) (locs : List Loc) (ls : Array Slot), (∀ q ∈ locs, z ≤ q.base) → lv_has ls 4 [(2, .int x_1)] → K_4 x_1 x_2 = some r0 → W p l e { frames := 0, cells := 0, slots := 0, locals := 0 } s m args below meth c s.heap locs 0 0 Q (F0 m 39 ls [])) → ∀ (n : Nat) (x_1 : Int32) (x_2 : Int32) (locs : List Loc) (ls : Array Slot), (∀ q ∈ locs, z ≤ q.base) → lv_has ls 4 [(0, .ref o), (1, .int p1), (2, .int x_1), (3, .int x_2)] → L_X8_keysOf_4 K_4 M p1 n x_1 x_2 = some r0 → W p l e { frames := 0, cells := 0, slots := 0, locals := 0 } s m args below meth c s.heap locs 0 0 Q (F0 m 4 ls []) := by
    intro K_4 hK_4 n
    induction n with
    | zero =>
      intro x_1 x_2 locs ls hL hl hf
      cases hf
    | succ n ih_4 =>
      intro x_1 x_2 locs ls hL hl hf
      unfold L_X8_keysOf_4 at hf
      refine lv_iload_n hx hb dX8_keysOf_4 rfl (lv_at hl 3 rfl) ?_
      refine lv_bipush (v := 6) hx hb dX8_keysOf_5 (by decide) ?_
      refine lv_icmp_ge (tgt := 39) hx hb dX8_keysOf_7 (by decide) (fun c_3 => ?_) (fun c_3 => ?_)
      · have hf := (if_pos c_3).symm.trans hf
        exact hK_4 x_1 x_2 _ _ hL (lv_sub hl [2] rfl) hf
      · have hf := (if_neg c_3).symm.trans hf
        refine lv_iload_n hx hb dX8_keysOf_10 rfl (lv_at hl 2 rfl) ?_
        refine lv_aload_n hx hb dX8_keysOf_11 rfl (lv_at hl 0 rfl) ?_
        refine x_get S hK h_md 0 (by decide) rfl rfl rfl in8 0 (by decide) (xm 1 rfl) (x := .ref (o + 1)) rfl dX8_keysOf_12 ?_
        refine lv_bipush (v := 40) hx hb dX8_keysOf_15 (by decide) ?_
        refine lv_iconst (v := 2) hx hb dX8_keysOf_17 (by decide) ?_
        refine lv_iload_n hx hb dX8_keysOf_18 rfl (lv_at hl 3 rfl) ?_
        refine lv_imul hx hb dX8_keysOf_19 ?_
        refine lv_iadd hx hb dX8_keysOf_20 ?_
        obtain ⟨g_4, hf⟩ := xg_some hf
        refine x_iald S hK h_md 1 (by decide) rfl rfl (40 + (2 * x_2)).toNatClampNeg rfl g_4 dX8_keysOf_21 ?_
        refine lv_iload_n hx hb dX8_keysOf_22 rfl (lv_at hl 1 rfl) ?_
        refine lv_icmp_ne (tgt := 30) hx hb dX8_keysOf_23 (by decide) (fun c_5 => ?_) (fun c_5 => ?_)
        · have hf := (if_neg c_5).symm.trans hf
          refine lv_iconst (v := 0) hx hb dX8_keysOf_30 (by decide) ?_
          refine lv_iadd hx hb dX8_keysOf_31 ?_
          obtain ⟨x_6, ex_6, hf⟩ := xl_some hf
          refine x_top ex_6 ?_
          refine lv_istore_n (lv' := [(2, .int x_6), (0, .ref o), (1, .int p1), (3, .int x_2)]) hx hb dX8_keysOf_32 rfl hl (by decide) rfl (fun ls hl => ?_)
          obtain ⟨x_7, ex_7, hf⟩ := xl_some hf
          refine lv_iinc (v := x_7) (lv' := [(3, .int x_7), (2, .int x_6), (0, .ref o), (1, .int p1)]) hx hb dX8_keysOf_33 hl (k := 3) rfl (by rw [ex_7]; rfl) (by decide) rfl (fun ls hl => ?_)
          refine lv_goto (tgt := 4) hx hb dX8_keysOf_36 (by decide) ?_
          exact ih_4 x_6 x_7 _ _ hL (lv_sub hl [2, 3, 1, 0] rfl) hf
        · have hf := (if_pos c_5).symm.trans hf
          refine lv_iconst (v := 1) hx hb dX8_keysOf_26 (by decide) ?_
          refine lv_goto (tgt := 31) hx hb dX8_keysOf_27 (by decide) ?_
          refine lv_iadd hx hb dX8_keysOf_31 ?_
          obtain ⟨x_8, ex_8, hf⟩ := xl_some hf
          refine x_top ex_8 ?_
          refine lv_istore_n (lv' := [(2, .int x_8), (0, .ref o), (1, .int p1), (3, .int x_2)]) hx hb dX8_keysOf_32 rfl hl (by decide) rfl (fun ls hl => ?_)
          obtain ⟨x_9, ex_9, hf⟩ := xl_some hf
          refine lv_iinc (v := x_9) (lv' := [(3, .int x_9), (2, .int x_8), (0, .ref o), (1, .int p1)]) hx hb dX8_keysOf_33 hl (k := 3) rfl (by rw [ex_9]; rfl) (by decide) rfl (fun ls hl => ?_)
          refine lv_goto (tgt := 4) hx hb dX8_keysOf_36 (by decide) ?_
          exact ih_4 x_8 x_9 _ _ hL (lv_sub hl [2, 3, 1, 0] rfl) hf
  refine lp_4 _ (fun x_10 x_11 locs ls hL hl hf => ?_) 100000 0 0 _ _ hL (lv_sub hl [2, 3, 1, 0] rfl) hf
  refine lv_iload_n hx hb dX8_keysOf_39 rfl (lv_at hl 0 rfl) ?_
  have q0 := Option.some.inj hf
  subst r0
  subst hQ
  refine x_iret (post := (fun H H1 => H1 = H)) S hr hlocks rfl ?_ hL dX8_keysOf_40
  exact rfl
set_option maxRecDepth 100000 in
set_option maxHeartbeats 4000000 in
theorem c_X8_countHires (l : Launch) (G : xG) (z : Nat) (o : Nat) (M : xV) (p1 : Int32) (p2 : Int32) (r0 : Int32)  (hf : f_X8_countHires M p1 p2 = some r0) : xM l yX8_countHires wsX8_countHires 3 67 G z [.ref o, .int p1, .int p2] (fun H => PX G o 5 (mdE G o) M H) (some (.int r0)) (fun H H1 => H1 = H) := by
  refine xM.of (cc := cX8_countHires) (maxL := 6) (ret := (some .int)) (by decide +kernel) rfl (Nat.le_of_ble_eq_true rfl) ?_
  intro p e s m args below meth c ls Q hQ S hr hlocks hK hP hl
  obtain ⟨hx, hb, hml, hown, hts⟩ := id S
  have h_md := hP
  have hL : ∀ q ∈ ([] : List Loc), z ≤ q.base := fun q h => absurd h List.not_mem_nil
  have hl : lv_has ls 6 [(0, .ref o), (1, .int p1), (2, .int p2)] := hl
  have in8 : ∀ w ∈ u_ws RX8 TX8 18, w ∈ wsX8_countHires := fun _ h => List.mem_cons_of_mem _ (List.mem_append_right _ h)
  unfold f_X8_countHires at hf
  refine lv_iconst (v := 0) hx hb dX8_countHires_0 (by decide) ?_
  refine lv_istore_n (lv' := [(3, .int 0), (0, .ref o), (1, .int p1), (2, .int p2)]) hx hb dX8_countHires_1 rfl hl (by decide) rfl (fun ls hl => ?_)
  refine lv_iconst (v := 0) hx hb dX8_countHires_2 (by decide) ?_
  refine lv_istore (lv' := [(4, .int 0), (3, .int 0), (0, .ref o), (1, .int p1), (2, .int p2)]) hx hb dX8_countHires_3 hl (by decide) rfl (fun ls hl => ?_)
  have lp_5 : ∀ (K_5 : Int32 → Int32 → Option Int32), (∀ (x_1 : Int32) (x_2 : Int32) (locs : List Loc) (ls : Array Slot), (∀ q ∈ locs, z ≤ q.base) → lv_has ls 6 [(3, .int x_1)] → K_5 x_1 x_2 = some r0 → W p l e { frames := 3, cells := 0, slots := 0, locals := 67 } s m args below meth c s.heap locs 0 0 Q (F0 m 99 ls [])) → ∀ (n : Nat) (x_1 : Int32) (x_2 : Int32) (locs : List Loc) (ls : Array Slot), (∀ q ∈ locs, z ≤ q.base) → lv_has ls 6 [(0, .ref o), (1, .int p1), (2, .int p2), (3, .int x_1), (4, .int x_2)] → L_X8_countHires_5 K_5 M p1 p2 n x_1 x_2 = some r0 → W p l e { frames := 3, cells := 0, slots := 0, locals := 67 } s m args below meth c s.heap locs 0 0 Q (F0 m 5 ls []) := by
    intro K_5 hK_5 n
    induction n with
    | zero =>
      intro x_1 x_2 locs ls hL hl hf
      cases hf
    | succ n ih_5 =>
      intro x_1 x_2 locs ls hL hl hf
      unfold L_X8_countHires_5 at hf
      refine lv_iload hx hb dX8_countHires_5 (lv_at hl 4 rfl) ?_
      refine lv_aload_n hx hb dX8_countHires_7 rfl (lv_at hl 0 rfl) ?_
      refine x_get S hK h_md 0 (by decide) rfl rfl rfl in8 0 (by decide) (xm 1 rfl) (x := .ref (o + 1)) rfl dX8_countHires_8 ?_
      refine lv_bipush (v := 10) hx hb dX8_countHires_11 (by decide) ?_
      refine x_iald S hK h_md 1 (by decide) rfl rfl 10 (by decide) (by decide) dX8_countHires_13 ?_
      refine lv_icmp_ge (tgt := 99) hx hb dX8_countHires_14 (by decide) (fun c_3 => ?_) (fun c_3 => ?_)
      · have hf := (if_pos c_3).symm.trans hf
        exact hK_5 x_1 x_2 _ _ hL (lv_sub hl [3] rfl) hf
      · have hf := (if_neg c_3).symm.trans hf
        refine lv_aload_n hx hb dX8_countHires_17 rfl (lv_at hl 0 rfl) ?_
        refine lv_iload hx hb dX8_countHires_18 (lv_at hl 4 rfl) ?_
        refine lv_iconst (v := 0) hx hb dX8_countHires_20 (by decide) ?_
        obtain ⟨r_4, e_5, hf⟩ := xb_some hf
        refine x_callVi (As := [.int x_2, .int 0]) (rest := []) S hK (c_X8_of l G z o M x_2 0 r_4 e_5) gX8_countHires_X8_of rfl 2 (by decide +kernel) rfl ⟨Nat.le_of_ble_eq_true rfl, Nat.le_of_ble_eq_true rfl⟩ h_md 0 (by decide) rfl rfl rfl h_md hl.1 rfl (Nat.le_of_ble_eq_true rfl) dX8_countHires_21 hL ⟨Nat.zero_le _, Nat.zero_le _⟩ (fun H1 locs hL hpost => ?_)
        subst hpost
        refine lv_iload_n hx hb dX8_countHires_24 rfl (lv_at hl 1 rfl) ?_
        refine lv_icmp_ne (tgt := 32) hx hb dX8_countHires_25 (by decide) (fun c_6 => ?_) (fun c_6 => ?_)
        · have hf := (if_neg c_6).symm.trans hf
          refine lv_iconst (v := 0) hx hb dX8_countHires_32 (by decide) ?_
          refine lv_istore (lv' := [(5, .int 0), (0, .ref o), (1, .int p1), (2, .int p2), (3, .int x_1), (4, .int x_2)]) hx hb dX8_countHires_33 hl (by decide) rfl (fun ls hl => ?_)
          refine lv_iload_n hx hb dX8_countHires_35 rfl (lv_at hl 4 rfl) ?_
          refine lv_iload hx hb dX8_countHires_36 (lv_at hl 0 rfl) ?_
          refine lv_if_ne (tgt := 45) hx hb dX8_countHires_38 (by decide) (fun h9 => absurd h9 (by decide)) (fun _ => ?_)
          refine lv_iconst (v := 0) hx hb dX8_countHires_41 (by decide) ?_
          refine lv_goto (tgt := 91) hx hb dX8_countHires_42 (by decide) ?_
          refine lv_iadd hx hb dX8_countHires_91 ?_
          obtain ⟨x_7, ex_7, hf⟩ := xl_some hf
          refine x_top ex_7 ?_
          refine lv_istore_n (lv' := [(3, .int x_7), (5, .int 0), (0, .ref o), (1, .int p1), (2, .int p2), (4, .int x_2)]) hx hb dX8_countHires_92 rfl hl (by decide) rfl (fun ls hl => ?_)
          obtain ⟨x_8, ex_8, hf⟩ := xl_some hf
          refine lv_iinc (v := x_8) (lv' := [(4, .int x_8), (3, .int x_7), (5, .int 0), (0, .ref o), (1, .int p1), (2, .int p2)]) hx hb dX8_countHires_93 hl (k := 5) rfl (by rw [ex_8]; rfl) (by decide) rfl (fun ls hl => ?_)
          refine lv_goto (tgt := 5) hx hb dX8_countHires_96 (by decide) ?_
          exact ih_5 x_7 x_8 _ _ hL (lv_sub hl [3, 4, 5, 1, 0] rfl) hf
        · have hf := (if_pos c_6).symm.trans hf
          refine lv_iconst (v := 1) hx hb dX8_countHires_28 (by decide) ?_
          refine lv_goto (tgt := 33) hx hb dX8_countHires_29 (by decide) ?_
          refine lv_istore (lv' := [(5, .int 1), (0, .ref o), (1, .int p1), (2, .int p2), (3, .int x_1), (4, .int x_2)]) hx hb dX8_countHires_33 hl (by decide) rfl (fun ls hl => ?_)
          refine lv_iload_n hx hb dX8_countHires_35 rfl (lv_at hl 4 rfl) ?_
          refine lv_iload hx hb dX8_countHires_36 (lv_at hl 0 rfl) ?_
          refine lv_if_ne (tgt := 45) hx hb dX8_countHires_38 (by decide) (fun _ => ?_) (fun h9 => absurd h9 (by decide))
          refine lv_iload_n hx hb dX8_countHires_45 rfl (lv_at hl 3 rfl) ?_
          refine lv_iconst (v := 3) hx hb dX8_countHires_46 (by decide) ?_
          refine lv_icmp_ne (tgt := 54) hx hb dX8_countHires_47 (by decide) (fun c_9 => ?_) (fun c_9 => ?_)
          · have hf := (if_neg c_9).symm.trans hf
            refine lv_iload_n hx hb dX8_countHires_54 rfl (lv_at hl 3 rfl) ?_
            refine lv_iconst (v := 4) hx hb dX8_countHires_55 (by decide) ?_
            refine lv_icmp_ne (tgt := 69) hx hb dX8_countHires_56 (by decide) (fun c_10 => ?_) (fun c_10 => ?_)
            · have hf := (if_neg c_10).symm.trans hf
              refine lv_iload_n hx hb dX8_countHires_69 rfl (lv_at hl 3 rfl) ?_
              refine lv_iconst (v := 5) hx hb dX8_countHires_70 (by decide) ?_
              refine lv_icmp_ne (tgt := 83) hx hb dX8_countHires_71 (by decide) (fun c_11 => ?_) (fun c_11 => ?_)
              · have hf := (if_neg c_11).symm.trans hf
                refine lv_aload_n hx hb dX8_countHires_83 rfl (lv_at hl 1 rfl) ?_
                refine lv_iload hx hb dX8_countHires_84 (lv_at hl 5 rfl) ?_
                refine lv_bipush (v := 11) hx hb dX8_countHires_86 (by decide) ?_
                obtain ⟨r_12, e_13, hf⟩ := xb_some hf
                refine x_callVi (As := [.int x_2, .int 11]) (rest := [.int x_1]) S hK (c_X8_of l G z o M x_2 11 r_12 e_13) gX8_countHires_X8_of rfl 2 (by decide +kernel) rfl ⟨Nat.le_of_ble_eq_true rfl, Nat.le_of_ble_eq_true rfl⟩ h_md 0 (by decide) rfl rfl rfl h_md hl.1 rfl (Nat.le_of_ble_eq_true rfl) dX8_countHires_88 hL ⟨Nat.zero_le _, Nat.zero_le _⟩ (fun H1 locs hL hpost => ?_)
                subst hpost
                refine lv_iadd hx hb dX8_countHires_91 ?_
                obtain ⟨x_14, ex_14, hf⟩ := xl_some hf
                refine x_top ex_14 ?_
                refine lv_istore_n (lv' := [(3, .int x_14), (5, .int 1), (0, .ref o), (1, .int p1), (2, .int p2), (4, .int x_2)]) hx hb dX8_countHires_92 rfl hl (by decide) rfl (fun ls hl => ?_)
                obtain ⟨x_15, ex_15, hf⟩ := xl_some hf
                refine lv_iinc (v := x_15) (lv' := [(4, .int x_15), (3, .int x_14), (5, .int 1), (0, .ref o), (1, .int p1), (2, .int p2)]) hx hb dX8_countHires_93 hl (k := 5) rfl (by rw [ex_15]; rfl) (by decide) rfl (fun ls hl => ?_)
                refine lv_goto (tgt := 5) hx hb dX8_countHires_96 (by decide) ?_
                exact ih_5 x_14 x_15 _ _ hL (lv_sub hl [3, 4, 5, 1, 0] rfl) hf
              · have hf := (if_pos c_11).symm.trans hf
                refine lv_aload_n hx hb dX8_countHires_74 rfl (lv_at hl 1 rfl) ?_
                refine lv_iload hx hb dX8_countHires_75 (lv_at hl 5 rfl) ?_
                obtain ⟨r_16, e_17, hf⟩ := xb_some hf
                refine x_callVi (As := [.int x_2]) (rest := [.int x_1]) S hK (c_X8_keysOf l G z o M x_2 r_16 e_17) gX8_countHires_X8_keysOf rfl 1 (by decide +kernel) rfl ⟨Nat.le_of_ble_eq_true rfl, Nat.le_of_ble_eq_true rfl⟩ h_md 0 (by decide) rfl rfl rfl h_md hl.1 rfl (Nat.le_of_ble_eq_true rfl) dX8_countHires_77 hL ⟨Nat.zero_le _, Nat.zero_le _⟩ (fun H1 locs hL hpost => ?_)
                subst hpost
                refine lv_goto (tgt := 91) hx hb dX8_countHires_80 (by decide) ?_
                refine lv_iadd hx hb dX8_countHires_91 ?_
                obtain ⟨x_18, ex_18, hf⟩ := xl_some hf
                refine x_top ex_18 ?_
                refine lv_istore_n (lv' := [(3, .int x_18), (5, .int 1), (0, .ref o), (1, .int p1), (2, .int p2), (4, .int x_2)]) hx hb dX8_countHires_92 rfl hl (by decide) rfl (fun ls hl => ?_)
                obtain ⟨x_19, ex_19, hf⟩ := xl_some hf
                refine lv_iinc (v := x_19) (lv' := [(4, .int x_19), (3, .int x_18), (5, .int 1), (0, .ref o), (1, .int p1), (2, .int p2)]) hx hb dX8_countHires_93 hl (k := 5) rfl (by rw [ex_19]; rfl) (by decide) rfl (fun ls hl => ?_)
                refine lv_goto (tgt := 5) hx hb dX8_countHires_96 (by decide) ?_
                exact ih_5 x_18 x_19 _ _ hL (lv_sub hl [3, 4, 5, 1, 0] rfl) hf
            · have hf := (if_pos c_10).symm.trans hf
              refine lv_aload_n hx hb dX8_countHires_59 rfl (lv_at hl 1 rfl) ?_
              refine lv_iload hx hb dX8_countHires_60 (lv_at hl 5 rfl) ?_
              refine lv_iconst (v := 0) hx hb dX8_countHires_62 (by decide) ?_
              obtain ⟨r_20, e_21, hf⟩ := xb_some hf
              refine x_callVi (As := [.int x_2, .int 0]) (rest := [.int x_1]) S hK (c_X8_manyOf l G z o M x_2 0 r_20 e_21) gX8_countHires_X8_manyOf rfl 2 (by decide +kernel) rfl ⟨Nat.le_of_ble_eq_true rfl, Nat.le_of_ble_eq_true rfl⟩ h_md 0 (by decide) rfl rfl rfl h_md hl.1 rfl (Nat.le_of_ble_eq_true rfl) dX8_countHires_63 hL ⟨Nat.zero_le _, Nat.zero_le _⟩ (fun H1 locs hL hpost => ?_)
              subst hpost
              refine lv_goto (tgt := 91) hx hb dX8_countHires_66 (by decide) ?_
              refine lv_iadd hx hb dX8_countHires_91 ?_
              obtain ⟨x_22, ex_22, hf⟩ := xl_some hf
              refine x_top ex_22 ?_
              refine lv_istore_n (lv' := [(3, .int x_22), (5, .int 1), (0, .ref o), (1, .int p1), (2, .int p2), (4, .int x_2)]) hx hb dX8_countHires_92 rfl hl (by decide) rfl (fun ls hl => ?_)
              obtain ⟨x_23, ex_23, hf⟩ := xl_some hf
              refine lv_iinc (v := x_23) (lv' := [(4, .int x_23), (3, .int x_22), (5, .int 1), (0, .ref o), (1, .int p1), (2, .int p2)]) hx hb dX8_countHires_93 hl (k := 5) rfl (by rw [ex_23]; rfl) (by decide) rfl (fun ls hl => ?_)
              refine lv_goto (tgt := 5) hx hb dX8_countHires_96 (by decide) ?_
              exact ih_5 x_22 x_23 _ _ hL (lv_sub hl [3, 4, 5, 1, 0] rfl) hf
          · have hf := (if_pos c_9).symm.trans hf
            refine lv_iconst (v := 1) hx hb dX8_countHires_50 (by decide) ?_
            refine lv_goto (tgt := 91) hx hb dX8_countHires_51 (by decide) ?_
            refine lv_iadd hx hb dX8_countHires_91 ?_
            obtain ⟨x_24, ex_24, hf⟩ := xl_some hf
            refine x_top ex_24 ?_
            refine lv_istore_n (lv' := [(3, .int x_24), (5, .int 1), (0, .ref o), (1, .int p1), (2, .int p2), (4, .int x_2)]) hx hb dX8_countHires_92 rfl hl (by decide) rfl (fun ls hl => ?_)
            obtain ⟨x_25, ex_25, hf⟩ := xl_some hf
            refine lv_iinc (v := x_25) (lv' := [(4, .int x_25), (3, .int x_24), (5, .int 1), (0, .ref o), (1, .int p1), (2, .int p2)]) hx hb dX8_countHires_93 hl (k := 5) rfl (by rw [ex_25]; rfl) (by decide) rfl (fun ls hl => ?_)
            refine lv_goto (tgt := 5) hx hb dX8_countHires_96 (by decide) ?_
            exact ih_5 x_24 x_25 _ _ hL (lv_sub hl [3, 4, 5, 1, 0] rfl) hf
  refine lp_5 _ (fun x_26 x_27 locs ls hL hl hf => ?_) 100000 0 0 _ _ hL (lv_sub hl [2, 3, 4, 1, 0] rfl) hf
  refine lv_iload_n hx hb dX8_countHires_99 rfl (lv_at hl 0 rfl) ?_
  have q0 := Option.some.inj hf
  subst r0
  subst hQ
  refine x_iret (post := (fun H H1 => H1 = H)) S hr hlocks rfl ?_ hL dX8_countHires_100
  exact rfl
set_option maxRecDepth 100000 in
set_option maxHeartbeats 4000000 in
theorem c_X8_discountOf (l : Launch) (G : xG) (z : Nat) (p1 : Int32) (r0 : Int32)  (hf : f_X8_discountOf p1 = some r0) : xM l yX8_discountOf wsX8_discountOf 0 0 G z [.int p1] (fun H => H = H) (some (.int r0)) (fun H H1 => H1 = H) := by
  refine xM.of (cc := cX8_discountOf) (maxL := 1) (ret := (some .int)) (by decide +kernel) rfl (Nat.le_of_ble_eq_true rfl) ?_
  intro p e s m args below meth c ls Q hQ S hr hlocks hK hP hl
  obtain ⟨hx, hb, hml, hown, hts⟩ := id S
  have hL : ∀ q ∈ ([] : List Loc), z ≤ q.base := fun q h => absurd h List.not_mem_nil
  have hl : lv_has ls 1 [(0, .int p1)] := hl
  unfold f_X8_discountOf at hf
  refine lv_iload_n hx hb dX8_discountOf_0 rfl (lv_at hl 0 rfl) ?_
  refine lv_iconst (v := 4) hx hb dX8_discountOf_1 (by decide) ?_
  refine lv_icmp_ge (tgt := 9) hx hb dX8_discountOf_2 (by decide) (fun c_1 => ?_) (fun c_1 => ?_)
  · have hf := (if_pos c_1).symm.trans hf
    refine lv_iload_n hx hb dX8_discountOf_9 rfl (lv_at hl 0 rfl) ?_
    refine lv_bipush (v := 10) hx hb dX8_discountOf_10 (by decide) ?_
    refine lv_icmp_ge (tgt := 20) hx hb dX8_discountOf_12 (by decide) (fun c_2 => ?_) (fun c_2 => ?_)
    · have hf := (if_pos c_2).symm.trans hf
      refine lv_bipush (v := 20) hx hb dX8_discountOf_20 (by decide) ?_
      have q0 := Option.some.inj hf
      subst r0
      subst hQ
      refine x_iret (post := (fun H H1 => H1 = H)) S hr hlocks rfl ?_ hL dX8_discountOf_22
      exact rfl
    · have hf := (if_neg c_2).symm.trans hf
      refine lv_bipush (v := 10) hx hb dX8_discountOf_15 (by decide) ?_
      refine lv_goto (tgt := 22) hx hb dX8_discountOf_17 (by decide) ?_
      have q0 := Option.some.inj hf
      subst r0
      subst hQ
      refine x_iret (post := (fun H H1 => H1 = H)) S hr hlocks rfl ?_ hL dX8_discountOf_22
      exact rfl
  · have hf := (if_neg c_1).symm.trans hf
    refine lv_iconst (v := 0) hx hb dX8_discountOf_5 (by decide) ?_
    refine lv_goto (tgt := 22) hx hb dX8_discountOf_6 (by decide) ?_
    have q0 := Option.some.inj hf
    subst r0
    subst hQ
    refine x_iret (post := (fun H H1 => H1 = H)) S hr hlocks rfl ?_ hL dX8_discountOf_22
    exact rfl
set_option maxRecDepth 100000 in
set_option maxHeartbeats 4000000 in
theorem c_X8_laysAside (l : Launch) (G : xG) (z : Nat) (o : Nat) (M : xV) (M' : xV) (hz_md : z ≤ o) (hf : f_X8_laysAside M = some M') : xM l yX8_laysAside wsX8_laysAside 0 0 G z [.ref o] (fun H => PX G o 5 (mdE G o) M H) none (fun H H1 => PX G o 5 (mdE G o) M' H1 ∧ XF (fun q => (o ≤ q ∧ q < o + 5)) H H1) := by
  refine xM.of (cc := cX8_laysAside) (maxL := 2) (ret := none) (by decide +kernel) rfl (Nat.le_of_ble_eq_true rfl) ?_
  intro p e s m args below meth c ls Q hQ S hr hlocks hK hP hl
  obtain ⟨hx, hb, hml, hown, hts⟩ := id S
  have h_md := hP
  have hL : ∀ q ∈ ([] : List Loc), z ≤ q.base := fun q h => absurd h List.not_mem_nil
  have hF : XF (fun q => (o ≤ q ∧ q < o + 5)) s.heap s.heap := XF.rf
  have hl : lv_has ls 2 [(0, .ref o)] := hl
  have in8 : ∀ w ∈ u_ws RX8 TX8 18, w ∈ wsX8_laysAside := fun _ h => List.mem_cons_of_mem _ (List.mem_append_right _ h)
  unfold f_X8_laysAside at hf
  refine lv_iconst (v := 0) hx hb dX8_laysAside_0 (by decide) ?_
  refine lv_istore_n (lv' := [(1, .int 0), (0, .ref o)]) hx hb dX8_laysAside_1 rfl hl (by decide) rfl (fun ls hl => ?_)
  have lp_2 : ∀ (K_2 : Int32 → xV → Option xV), (∀ (x_1 : Int32) (M_2 : xV) (H : Heap) (locs : List Loc) (ls : Array Slot), (∀ q ∈ locs, z ≤ q.base) → PX G o 5 (mdE G o) M_2 H → XF (fun q => (o ≤ q ∧ q < o + 5)) s.heap H → lv_has ls 2 [] → K_2 x_1 M_2 = some M' → W p l e { frames := 0, cells := 0, slots := 0, locals := 0 } s m args below meth c H locs 0 0 Q (F0 m 27 ls [])) → ∀ (n : Nat) (x_1 : Int32) (M_2 : xV) (H : Heap) (locs : List Loc) (ls : Array Slot), (∀ q ∈ locs, z ≤ q.base) → PX G o 5 (mdE G o) M_2 H → XF (fun q => (o ≤ q ∧ q < o + 5)) s.heap H → lv_has ls 2 [(0, .ref o), (1, .int x_1)] → L_X8_laysAside_2 K_2 n x_1 M_2 = some M' → W p l e { frames := 0, cells := 0, slots := 0, locals := 0 } s m args below meth c H locs 0 0 Q (F0 m 2 ls []) := by
    intro K_2 hK_2 n
    induction n with
    | zero =>
      intro x_1 M_2 H locs ls hL h_md hF hl hf
      cases hf
    | succ n ih_2 =>
      intro x_1 M_2 H locs ls hL h_md hF hl hf
      unfold L_X8_laysAside_2 at hf
      refine lv_iload_n hx hb dX8_laysAside_2 rfl (lv_at hl 1 rfl) ?_
      refine lv_sipush (v := 820) hx hb dX8_laysAside_3 (by decide) ?_
      refine lv_icmp_ge (tgt := 27) hx hb dX8_laysAside_6 (by decide) (fun c_3 => ?_) (fun c_3 => ?_)
      · have hf := (if_pos c_3).symm.trans hf
        exact hK_2 x_1 M_2 _ _ _ hL h_md hF (lv_sub hl [] rfl) hf
      · have hf := (if_neg c_3).symm.trans hf
        refine lv_aload_n hx hb dX8_laysAside_9 rfl (lv_at hl 0 rfl) ?_
        refine x_get S hK h_md 0 (by decide) rfl rfl rfl in8 2 (by decide) (xm 1 rfl) (x := .ref (o + 3)) rfl dX8_laysAside_10 ?_
        refine lv_iload_n hx hb dX8_laysAside_13 rfl (lv_at hl 1 rfl) ?_
        refine lv_aload_n hx hb dX8_laysAside_14 rfl (lv_at hl 0 rfl) ?_
        refine x_get S hK h_md 0 (by decide) rfl rfl rfl in8 0 (by decide) (xm 2 rfl) (x := .ref (o + 1)) rfl dX8_laysAside_15 ?_
        refine lv_iload_n hx hb dX8_laysAside_18 rfl (lv_at hl 1 rfl) ?_
        obtain ⟨g_4, hf⟩ := xg_some hf
        refine x_iald S hK h_md 1 (by decide) rfl rfl x_1.toNatClampNeg rfl g_4 dX8_laysAside_19 ?_
        obtain ⟨g_5, hf⟩ := xg_some hf
        obtain ⟨M_6, eM_6, hf⟩ := xl_some hf
        refine x_iast S hK h_md hz_md hL 3 (by decide) rfl rfl x_1.toNatClampNeg rfl g_5 rfl eM_6 dX8_laysAside_20 (fun H1 locs hL h_md hfr => ?_)
        have hF := hF.step hfr (fun q h => by (try dsimp only at h ⊢); omega)
        obtain ⟨x_7, ex_7, hf⟩ := xl_some hf
        refine lv_iinc (v := x_7) (lv' := [(1, .int x_7), (0, .ref o)]) hx hb dX8_laysAside_21 hl (k := 1) rfl (by rw [ex_7]; rfl) (by decide) rfl (fun ls hl => ?_)
        refine lv_goto (tgt := 2) hx hb dX8_laysAside_24 (by decide) ?_
        exact ih_2 x_7 M_6 _ _ _ hL h_md hF (lv_sub hl [1, 0] rfl) hf
  refine lp_2 _ (fun x_8 M_9 H locs ls hL h_md hF hl hf => ?_) 100000 0 M _ _ _ hL h_md hF (lv_sub hl [1, 0] rfl) hf
  have q0 := Option.some.inj hf
  subst M'
  subst hQ
  refine x_vret (post := (fun H H1 => PX G o 5 (mdE G o) M_9 H1 ∧ XF (fun q => (o ≤ q ∧ q < o + 5)) H H1)) S hr hlocks rfl ?_ hL dX8_laysAside_27
  exact ⟨h_md, hF⟩
