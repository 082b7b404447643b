/-! ===== the methods, walked (written by program) ===== -/
set_option maxRecDepth 100000 in
set_option maxHeartbeats 4000000 in
theorem c_J6_bitCount_0f7a4 (l : Launch) (G : xG) (z : Nat) (p1 : Int32) (r0 : Int32)  (hf : f_J6_bitCount_0f7a4 p1 = some r0) : xM l yJ6_bitCount_0f7a4 wsJ6_bitCount_0f7a4 0 0 G z [.int p1] (fun H => H = H) (some (.int r0)) (fun H H1 => H1 = H) := by
  refine xM.of (cc := cJ6_bitCount_0f7a4) (maxL := 1) (ret := (some .int)) (by decide +kernel) rfl (Nat.le_of_ble_eq_true rfl) ?_
  intro p e s m args below meth c ls Q hQ S hr hlocks hK hP hl
  obtain ⟨hx, hb, hml, hown, hts⟩ := id S
  have hL : ∀ q ∈ ([] : List Loc), z ≤ q.base := fun q h => absurd h List.not_mem_nil
  have hl : lv_has ls 1 [(0, .int p1)] := hl
  unfold f_J6_bitCount_0f7a4 at hf
  refine lv_iload_n hx hb dJ6_bitCount_0f7a4_0 rfl (lv_at hl 0 rfl) ?_
  refine lv_iload_n hx hb dJ6_bitCount_0f7a4_1 rfl (lv_at hl 0 rfl) ?_
  refine lv_iconst (v := 1) hx hb dJ6_bitCount_0f7a4_2 (by decide) ?_
  refine lv_iushr (v := ((p1).toUInt32 >>> ((1 : Int32).toUInt32 &&& Int32.toUInt32 31)).toInt32) hx hb dJ6_bitCount_0f7a4_3 rfl ?_
  refine lv_ldcw (v := 1431655765) hx hb hown (hts _ (xm 1 rfl)) dJ6_bitCount_0f7a4_4 ?_
  refine lv_iand hx hb dJ6_bitCount_0f7a4_7 ?_
  refine lv_isub hx hb dJ6_bitCount_0f7a4_8 ?_
  obtain ⟨x_1, ex_1, hf⟩ := xl_some hf
  refine x_top ex_1 ?_
  refine lv_istore_n (lv' := [(0, .int x_1)]) hx hb dJ6_bitCount_0f7a4_9 rfl hl (by decide) rfl (fun ls hl => ?_)
  refine lv_iload_n hx hb dJ6_bitCount_0f7a4_10 rfl (lv_at hl 0 rfl) ?_
  refine lv_ldcw (v := 858993459) hx hb hown (hts _ (xm 2 rfl)) dJ6_bitCount_0f7a4_11 ?_
  refine lv_iand hx hb dJ6_bitCount_0f7a4_14 ?_
  refine lv_iload_n hx hb dJ6_bitCount_0f7a4_15 rfl (lv_at hl 0 rfl) ?_
  refine lv_iconst (v := 2) hx hb dJ6_bitCount_0f7a4_16 (by decide) ?_
  refine lv_iushr (v := ((x_1).toUInt32 >>> ((2 : Int32).toUInt32 &&& Int32.toUInt32 31)).toInt32) hx hb dJ6_bitCount_0f7a4_17 rfl ?_
  refine lv_ldcw (v := 858993459) hx hb hown (hts _ (xm 2 rfl)) dJ6_bitCount_0f7a4_18 ?_
  refine lv_iand hx hb dJ6_bitCount_0f7a4_21 ?_
  refine lv_iadd hx hb dJ6_bitCount_0f7a4_22 ?_
  obtain ⟨x_2, ex_2, hf⟩ := xl_some hf
  refine x_top ex_2 ?_
  refine lv_istore_n (lv' := [(0, .int x_2)]) hx hb dJ6_bitCount_0f7a4_23 rfl hl (by decide) rfl (fun ls hl => ?_)
  refine lv_iload_n hx hb dJ6_bitCount_0f7a4_24 rfl (lv_at hl 0 rfl) ?_
  refine lv_iload_n hx hb dJ6_bitCount_0f7a4_25 rfl (lv_at hl 0 rfl) ?_
  refine lv_iconst (v := 4) hx hb dJ6_bitCount_0f7a4_26 (by decide) ?_
  refine lv_iushr (v := ((x_2).toUInt32 >>> ((4 : Int32).toUInt32 &&& Int32.toUInt32 31)).toInt32) hx hb dJ6_bitCount_0f7a4_27 rfl ?_
  refine lv_iadd hx hb dJ6_bitCount_0f7a4_28 ?_
  refine lv_ldcw (v := 252645135) hx hb hown (hts _ (xm 3 rfl)) dJ6_bitCount_0f7a4_29 ?_
  refine lv_iand hx hb dJ6_bitCount_0f7a4_32 ?_
  obtain ⟨x_3, ex_3, hf⟩ := xl_some hf
  refine x_top ex_3 ?_
  refine lv_istore_n (lv' := [(0, .int x_3)]) hx hb dJ6_bitCount_0f7a4_33 rfl hl (by decide) rfl (fun ls hl => ?_)
  refine lv_iload_n hx hb dJ6_bitCount_0f7a4_34 rfl (lv_at hl 0 rfl) ?_
  refine lv_iload_n hx hb dJ6_bitCount_0f7a4_35 rfl (lv_at hl 0 rfl) ?_
  refine lv_bipush (v := 8) hx hb dJ6_bitCount_0f7a4_36 (by decide) ?_
  refine lv_iushr (v := ((x_3).toUInt32 >>> ((8 : Int32).toUInt32 &&& Int32.toUInt32 31)).toInt32) hx hb dJ6_bitCount_0f7a4_38 rfl ?_
  refine lv_iadd hx hb dJ6_bitCount_0f7a4_39 ?_
  obtain ⟨x_4, ex_4, hf⟩ := xl_some hf
  refine x_top ex_4 ?_
  refine lv_istore_n (lv' := [(0, .int x_4)]) hx hb dJ6_bitCount_0f7a4_40 rfl hl (by decide) rfl (fun ls hl => ?_)
  refine lv_iload_n hx hb dJ6_bitCount_0f7a4_41 rfl (lv_at hl 0 rfl) ?_
  refine lv_iload_n hx hb dJ6_bitCount_0f7a4_42 rfl (lv_at hl 0 rfl) ?_
  refine lv_bipush (v := 16) hx hb dJ6_bitCount_0f7a4_43 (by decide) ?_
  refine lv_iushr (v := ((x_4).toUInt32 >>> ((16 : Int32).toUInt32 &&& Int32.toUInt32 31)).toInt32) hx hb dJ6_bitCount_0f7a4_45 rfl ?_
  refine lv_iadd hx hb dJ6_bitCount_0f7a4_46 ?_
  obtain ⟨x_5, ex_5, hf⟩ := xl_some hf
  refine x_top ex_5 ?_
  refine lv_istore_n (lv' := [(0, .int x_5)]) hx hb dJ6_bitCount_0f7a4_47 rfl hl (by decide) rfl (fun ls hl => ?_)
  refine lv_iload_n hx hb dJ6_bitCount_0f7a4_48 rfl (lv_at hl 0 rfl) ?_
  refine lv_bipush (v := 63) hx hb dJ6_bitCount_0f7a4_49 (by decide) ?_
  refine lv_iand hx hb dJ6_bitCount_0f7a4_51 ?_
  have q0 := Option.some.inj hf
  subst r0
  subst hQ
  refine x_iret (post := (fun H H1 => H1 = H)) S hr hlocks rfl ?_ hL dJ6_bitCount_0f7a4_52
  exact rfl
set_option maxRecDepth 100000 in
set_option maxHeartbeats 4000000 in
theorem c_X1_isAheadOnDay (l : Launch) (G : xG) (z : Nat) (b : Nat) (v : xV) (i : Nat) (j : Nat) (r0 : Int32) (hi_i : i < 12) (hi_j : j < 12) (hf : f_X1_isAheadOnDay v i j = some r0) : xM l yX1_isAheadOnDay wsX1_isAheadOnDay 0 0 G z [.ref (b + (6 + 2 * i)), .ref (b + (6 + 2 * j))] (fun H => PX G b 37 (bkE G b) v H) (some (.int r0)) (fun H H1 => H1 = H) := by
  refine xM.of (cc := cX1_isAheadOnDay) (maxL := 2) (ret := (some .boolean)) (by decide +kernel) rfl (Nat.le_of_ble_eq_true rfl) ?_
  intro p e s m args below meth c ls Q hQ S hr hlocks hK hP hl
  obtain ⟨hx, hb, hml, hown, hts⟩ := id S
  have h_bk := hP
  have hL : ∀ q ∈ ([] : List Loc), z ≤ q.base := fun q h => absurd h List.not_mem_nil
  have hl : lv_has ls 2 [(0, .ref (b + (6 + 2 * i))), (1, .ref (b + (6 + 2 * j)))] := hl
  have in1 : ∀ w ∈ u_ws RX1 TX1 15, w ∈ wsX1_isAheadOnDay := fun _ h => List.mem_cons_of_mem _ (List.mem_append_right _ h)
  unfold f_X1_isAheadOnDay at hf
  refine lv_aload_n hx hb dX1_isAheadOnDay_0 rfl (lv_at hl 0 rfl) ?_
  refine x_get S hK h_bk (6 + 2 * i) (by omega) rfl (bkE_hire G b i hi_i _) rfl in1 3 (by decide) (xm 1 rfl) (x := .int (v (6 + 2 * i) 3)) rfl dX1_isAheadOnDay_1 ?_
  refine lv_aload_n hx hb dX1_isAheadOnDay_4 rfl (lv_at hl 1 rfl) ?_
  refine x_get S hK h_bk (6 + 2 * j) (by omega) rfl (bkE_hire G b j hi_j _) rfl in1 3 (by decide) (xm 1 rfl) (x := .int (v (6 + 2 * j) 3)) rfl dX1_isAheadOnDay_5 ?_
  refine lv_icmp_lt (tgt := 33) hx hb dX1_isAheadOnDay_8 (by decide) (fun c_1 => ?_) (fun c_1 => ?_)
  · have hf := (if_pos c_1).symm.trans hf
    refine lv_iconst (v := 1) hx hb dX1_isAheadOnDay_33 (by decide) ?_
    refine lv_goto (tgt := 38) hx hb dX1_isAheadOnDay_34 (by decide) ?_
    have q0 := Option.some.inj hf
    subst r0
    subst hQ
    refine x_zret (post := (fun H H1 => H1 = H)) S hr hlocks (by decide) rfl ?_ hL dX1_isAheadOnDay_38
    exact rfl
  · have hf := (if_neg c_1).symm.trans hf
    refine lv_aload_n hx hb dX1_isAheadOnDay_11 rfl (lv_at hl 0 rfl) ?_
    refine x_get S hK h_bk (6 + 2 * i) (by omega) rfl (bkE_hire G b i hi_i _) rfl in1 3 (by decide) (xm 1 rfl) (x := .int (v (6 + 2 * i) 3)) rfl dX1_isAheadOnDay_12 ?_
    refine lv_aload_n hx hb dX1_isAheadOnDay_15 rfl (lv_at hl 1 rfl) ?_
    refine x_get S hK h_bk (6 + 2 * j) (by omega) rfl (bkE_hire G b j hi_j _) rfl in1 3 (by decide) (xm 1 rfl) (x := .int (v (6 + 2 * j) 3)) rfl dX1_isAheadOnDay_16 ?_
    refine lv_icmp_ne (tgt := 37) hx hb dX1_isAheadOnDay_19 (by decide) (fun c_2 => ?_) (fun c_2 => ?_)
    · have hf := (if_neg c_2).symm.trans hf
      refine lv_iconst (v := 0) hx hb dX1_isAheadOnDay_37 (by decide) ?_
      have q0 := Option.some.inj hf
      subst r0
      subst hQ
      refine x_zret (post := (fun H H1 => H1 = H)) S hr hlocks (by decide) rfl ?_ hL dX1_isAheadOnDay_38
      exact rfl
    · have hf := (if_pos c_2).symm.trans hf
      refine lv_aload_n hx hb dX1_isAheadOnDay_22 rfl (lv_at hl 0 rfl) ?_
      refine x_get S hK h_bk (6 + 2 * i) (by omega) rfl (bkE_hire G b i hi_i _) rfl in1 0 (by decide) (xm 2 rfl) (x := .int (v (6 + 2 * i) 0)) rfl dX1_isAheadOnDay_23 ?_
      refine lv_aload_n hx hb dX1_isAheadOnDay_26 rfl (lv_at hl 1 rfl) ?_
      refine x_get S hK h_bk (6 + 2 * j) (by omega) rfl (bkE_hire G b j hi_j _) rfl in1 0 (by decide) (xm 2 rfl) (x := .int (v (6 + 2 * j) 0)) rfl dX1_isAheadOnDay_27 ?_
      refine lv_icmp_ge (tgt := 37) hx hb dX1_isAheadOnDay_30 (by decide) (fun c_3 => ?_) (fun c_3 => ?_)
      · have hf := (if_pos c_3).symm.trans hf
        refine lv_iconst (v := 0) hx hb dX1_isAheadOnDay_37 (by decide) ?_
        have q0 := Option.some.inj hf
        subst r0
        subst hQ
        refine x_zret (post := (fun H H1 => H1 = H)) S hr hlocks (by decide) rfl ?_ hL dX1_isAheadOnDay_38
        exact rfl
      · have hf := (if_neg c_3).symm.trans hf
        refine lv_iconst (v := 1) hx hb dX1_isAheadOnDay_33 (by decide) ?_
        refine lv_goto (tgt := 38) hx hb dX1_isAheadOnDay_34 (by decide) ?_
        have q0 := Option.some.inj hf
        subst r0
        subst hQ
        refine x_zret (post := (fun H H1 => H1 = H)) S hr hlocks (by decide) rfl ?_ hL dX1_isAheadOnDay_38
        exact rfl
set_option maxRecDepth 100000 in
set_option maxHeartbeats 4000000 in
theorem c_X1_indexOn (l : Launch) (G : xG) (z : Nat) (b : Nat) (v : xV) (i : Nat) (p1 : Int32) (r0 : Int32) (hi_i : i < 12) (hf : f_X1_indexOn v i p1 = some r0) : xM l yX1_indexOn wsX1_indexOn 0 0 G z [.ref (b + (6 + 2 * i)), .int p1] (fun H => PX G b 37 (bkE G b) v H) (some (.int r0)) (fun H H1 => H1 = H) := by
  refine xM.of (cc := cX1_indexOn) (maxL := 4) (ret := (some .int)) (by decide +kernel) rfl (Nat.le_of_ble_eq_true rfl) ?_
  intro p e s m args below meth c ls Q hQ S hr hlocks hK hP hl
  obtain ⟨hx, hb, hml, hown, hts⟩ := id S
  have h_bk := hP
  have hL : ∀ q ∈ ([] : List Loc), z ≤ q.base := fun q h => absurd h List.not_mem_nil
  have hl : lv_has ls 4 [(0, .ref (b + (6 + 2 * i))), (1, .int p1)] := hl
  have in1 : ∀ w ∈ u_ws RX1 TX1 15, w ∈ wsX1_indexOn := fun _ h => List.mem_cons_of_mem _ (List.mem_append_right _ h)
  unfold f_X1_indexOn at hf
  refine lv_iload_n hx hb dX1_indexOn_0 rfl (lv_at hl 1 rfl) ?_
  refine lv_aload_n hx hb dX1_indexOn_1 rfl (lv_at hl 0 rfl) ?_
  refine x_get S hK h_bk (6 + 2 * i) (by omega) rfl (bkE_hire G b i hi_i _) rfl in1 6 (by decide) (xm 1 rfl) (x := .int (v (6 + 2 * i) 6)) rfl dX1_indexOn_2 ?_
  refine lv_isub hx hb dX1_indexOn_5 ?_
  obtain ⟨x_1, ex_1, hf⟩ := xl_some hf
  refine x_top ex_1 ?_
  refine lv_istore_n (lv' := [(2, .int x_1), (0, .ref (b + (6 + 2 * i))), (1, .int p1)]) hx hb dX1_indexOn_6 rfl hl (by decide) rfl (fun ls hl => ?_)
  refine lv_aload_n hx hb dX1_indexOn_7 rfl (lv_at hl 1 rfl) ?_
  refine x_get S hK h_bk (6 + 2 * i) (by omega) rfl (bkE_hire G b i hi_i _) rfl in1 7 (by decide) (xm 2 rfl) (x := .int (v (6 + 2 * i) 7)) rfl dX1_indexOn_8 ?_
  refine lv_iconst (v := 1) hx hb dX1_indexOn_11 (by decide) ?_
  refine lv_icmp_lt (tgt := 28) hx hb dX1_indexOn_12 (by decide) (fun c_2 => ?_) (fun c_2 => ?_)
  · have hf := (if_pos c_2).symm.trans hf
    refine lv_iconst (v := (-1)) hx hb dX1_indexOn_28 (by decide) ?_
    have q0 := Option.some.inj hf
    subst r0
    subst hQ
    refine x_iret (post := (fun H H1 => H1 = H)) S hr hlocks rfl ?_ hL dX1_indexOn_29
    exact rfl
  · have hf := (if_neg c_2).symm.trans hf
    refine lv_iload_n hx hb dX1_indexOn_15 rfl (lv_at hl 0 rfl) ?_
    refine lv_if_lt (tgt := 28) hx hb dX1_indexOn_16 (by decide) (fun c_3 => ?_) (fun c_3 => ?_)
    · have hf := (if_pos c_3).symm.trans hf
      refine lv_iconst (v := (-1)) hx hb dX1_indexOn_28 (by decide) ?_
      have q0 := Option.some.inj hf
      subst r0
      subst hQ
      refine x_iret (post := (fun H H1 => H1 = H)) S hr hlocks rfl ?_ hL dX1_indexOn_29
      exact rfl
    · have hf := (if_neg c_3).symm.trans hf
      refine lv_iload_n hx hb dX1_indexOn_19 rfl (lv_at hl 0 rfl) ?_
      refine lv_aload_n hx hb dX1_indexOn_20 rfl (lv_at hl 1 rfl) ?_
      refine x_get S hK h_bk (6 + 2 * i) (by omega) rfl (bkE_hire G b i hi_i _) rfl in1 7 (by decide) (xm 2 rfl) (x := .int (v (6 + 2 * i) 7)) rfl dX1_indexOn_21 ?_
      obtain ⟨g_4, hf⟩ := xg_some hf
      refine lv_irem hx hb dX1_indexOn_24 g_4 ?_
      refine lv_if_eq (tgt := 30) hx hb dX1_indexOn_25 (by decide) (fun c_5 => ?_) (fun c_5 => ?_)
      · have hf := (if_pos c_5).symm.trans hf
        refine lv_iload_n hx hb dX1_indexOn_30 rfl (lv_at hl 0 rfl) ?_
        refine lv_aload_n hx hb dX1_indexOn_31 rfl (lv_at hl 1 rfl) ?_
        refine x_get S hK h_bk (6 + 2 * i) (by omega) rfl (bkE_hire G b i hi_i _) rfl in1 7 (by decide) (xm 2 rfl) (x := .int (v (6 + 2 * i) 7)) rfl dX1_indexOn_32 ?_
        obtain ⟨g_6, hf⟩ := xg_some hf
        refine lv_idiv hx hb dX1_indexOn_35 g_6 ?_
        obtain ⟨x_7, ex_7, hf⟩ := xl_some hf
        refine x_top ex_7 ?_
        refine lv_istore_n (lv' := [(3, .int x_7), (2, .int x_1), (0, .ref (b + (6 + 2 * i))), (1, .int p1)]) hx hb dX1_indexOn_36 rfl hl (by decide) rfl (fun ls hl => ?_)
        refine lv_iload_n hx hb dX1_indexOn_37 rfl (lv_at hl 0 rfl) ?_
        refine lv_aload_n hx hb dX1_indexOn_38 rfl (lv_at hl 2 rfl) ?_
        refine x_get S hK h_bk (6 + 2 * i) (by omega) rfl (bkE_hire G b i hi_i _) rfl in1 5 (by decide) (xm 3 rfl) (x := .int (v (6 + 2 * i) 5)) rfl dX1_indexOn_39 ?_
        refine lv_icmp_ge (tgt := 60) hx hb dX1_indexOn_42 (by decide) (fun c_8 => ?_) (fun c_8 => ?_)
        · have hf := (if_pos c_8).symm.trans hf
          refine lv_iconst (v := (-1)) hx hb dX1_indexOn_60 (by decide) ?_
          have q0 := Option.some.inj hf
          subst r0
          subst hQ
          refine x_iret (post := (fun H H1 => H1 = H)) S hr hlocks rfl ?_ hL dX1_indexOn_61
          exact rfl
        · have hf := (if_neg c_8).symm.trans hf
          refine lv_aload_n hx hb dX1_indexOn_45 rfl (lv_at hl 2 rfl) ?_
          refine x_get S hK h_bk (6 + 2 * i) (by omega) rfl (bkE_hire G b i hi_i _) rfl in1 10 (by decide) (xm 4 rfl) (x := .int (v (6 + 2 * i) 10)) rfl dX1_indexOn_46 ?_
          refine lv_iload_n hx hb dX1_indexOn_49 rfl (lv_at hl 0 rfl) ?_
          refine lv_ishr hx hb dX1_indexOn_50 ?_
          refine lv_iconst (v := 1) hx hb dX1_indexOn_51 (by decide) ?_
          refine lv_iand hx hb dX1_indexOn_52 ?_
          refine lv_if_ne (tgt := 60) hx hb dX1_indexOn_53 (by decide) (fun c_9 => ?_) (fun c_9 => ?_)
          · have hf := (if_neg c_9).symm.trans hf
            refine lv_iconst (v := (-1)) hx hb dX1_indexOn_60 (by decide) ?_
            have q0 := Option.some.inj hf
            subst r0
            subst hQ
            refine x_iret (post := (fun H H1 => H1 = H)) S hr hlocks rfl ?_ hL dX1_indexOn_61
            exact rfl
          · have hf := (if_pos c_9).symm.trans hf
            refine lv_iload_n hx hb dX1_indexOn_56 rfl (lv_at hl 0 rfl) ?_
            refine lv_goto (tgt := 61) hx hb dX1_indexOn_57 (by decide) ?_
            have q0 := Option.some.inj hf
            subst r0
            subst hQ
            refine x_iret (post := (fun H H1 => H1 = H)) S hr hlocks rfl ?_ hL dX1_indexOn_61
            exact rfl
      · have hf := (if_neg c_5).symm.trans hf
        refine lv_iconst (v := (-1)) hx hb dX1_indexOn_28 (by decide) ?_
        have q0 := Option.some.inj hf
        subst r0
        subst hQ
        refine x_iret (post := (fun H H1 => H1 = H)) S hr hlocks rfl ?_ hL dX1_indexOn_29
        exact rfl
set_option maxRecDepth 100000 in
set_option maxHeartbeats 4000000 in
theorem c_X1_isOn (l : Launch) (G : xG) (z : Nat) (b : Nat) (v : xV) (i : Nat) (p1 : Int32) (r0 : Int32) (hi_i : i < 12) (hf : f_X1_isOn v i p1 = some r0) : xM l yX1_isOn wsX1_isOn 1 23 G z [.ref (b + (6 + 2 * i)), .int p1] (fun H => PX G b 37 (bkE G b) v H) (some (.int r0)) (fun H H1 => H1 = H) := by
  refine xM.of (cc := cX1_isOn) (maxL := 2) (ret := (some .boolean)) (by decide +kernel) rfl (Nat.le_of_ble_eq_true rfl) ?_
  intro p e s m args below meth c ls Q hQ S hr hlocks hK hP hl
  obtain ⟨hx, hb, hml, hown, hts⟩ := id S
  have h_bk := hP
  have hL : ∀ q ∈ ([] : List Loc), z ≤ q.base := fun q h => absurd h List.not_mem_nil
  have hl : lv_has ls 2 [(0, .ref (b + (6 + 2 * i))), (1, .int p1)] := hl
  unfold f_X1_isOn at hf
  refine lv_aload_n hx hb dX1_isOn_0 rfl (lv_at hl 0 rfl) ?_
  refine lv_iload_n hx hb dX1_isOn_1 rfl (lv_at hl 1 rfl) ?_
  obtain ⟨r_1, e_2, hf⟩ := xb_some hf
  refine x_callVi (As := [.int p1]) (rest := []) S hK (c_X1_indexOn l G z b v i p1 r_1 hi_i e_2) gX1_isOn_X1_indexOn rfl 1 (by decide +kernel) rfl ⟨Nat.le_of_ble_eq_true rfl, Nat.le_of_ble_eq_true rfl⟩ h_bk (6 + 2 * i) (by omega) rfl (bkE_hire G b i hi_i _) rfl h_bk hl.1 rfl (Nat.le_of_ble_eq_true rfl) dX1_isOn_2 hL ⟨Nat.zero_le _, Nat.zero_le _⟩ (fun H1 locs hL hpost => ?_)
  subst hpost
  refine lv_iconst (v := (-1)) hx hb dX1_isOn_5 (by decide) ?_
  refine lv_icmp_eq (tgt := 13) hx hb dX1_isOn_6 (by decide) (fun c_3 => ?_) (fun c_3 => ?_)
  · have hf := (if_pos c_3).symm.trans hf
    refine lv_iconst (v := 0) hx hb dX1_isOn_13 (by decide) ?_
    have q0 := Option.some.inj hf
    subst r0
    subst hQ
    refine x_zret (post := (fun H H1 => H1 = H)) S hr hlocks (by decide) rfl ?_ hL dX1_isOn_14
    exact rfl
  · have hf := (if_neg c_3).symm.trans hf
    refine lv_iconst (v := 1) hx hb dX1_isOn_9 (by decide) ?_
    refine lv_goto (tgt := 14) hx hb dX1_isOn_10 (by decide) ?_
    have q0 := Option.some.inj hf
    subst r0
    subst hQ
    refine x_zret (post := (fun H H1 => H1 = H)) S hr hlocks (by decide) rfl ?_ hL dX1_isOn_14
    exact rfl
set_option maxRecDepth 100000 in
set_option maxHeartbeats 4000000 in
theorem c_X0_aheadOnDay (l : Launch) (G : xG) (z : Nat) (b : Nat) (v : xV) (i : Nat) (p2 : Int32) (r0 : Int32) (hi_i : i < 12) (hf : f_X0_aheadOnDay v i p2 = some r0) : xM l yX0_aheadOnDay wsX0_aheadOnDay 2 44 G z [.ref b, .ref (b + (6 + 2 * i)), .int p2] (fun H => PX G b 37 (bkE G b) v H) (some (.int r0)) (fun H H1 => H1 = H) := by
  refine xM.of (cc := cX0_aheadOnDay) (maxL := 8) (ret := (some .int)) (by decide +kernel) rfl (Nat.le_of_ble_eq_true rfl) ?_
  intro p e s m args below meth c ls Q hQ S hr hlocks hK hP hl
  obtain ⟨hx, hb, hml, hown, hts⟩ := id S
  have h_bk := hP
  have hL : ∀ q ∈ ([] : List Loc), z ≤ q.base := fun q h => absurd h List.not_mem_nil
  have hl : lv_has ls 8 [(0, .ref b), (1, .ref (b + (6 + 2 * i))), (2, .int p2)] := hl
  have in0 : ∀ w ∈ u_ws RX0 TX0 9, w ∈ wsX0_aheadOnDay := fun _ h => List.mem_cons_of_mem _ (List.mem_append_left _ (List.mem_append_right _ h))
  unfold f_X0_aheadOnDay at hf
  refine lv_iconst (v := 0) hx hb dX0_aheadOnDay_0 (by decide) ?_
  refine lv_istore_n (lv' := [(3, .int 0), (0, .ref b), (1, .ref (b + (6 + 2 * i))), (2, .int p2)]) hx hb dX0_aheadOnDay_1 rfl hl (by decide) rfl (fun ls hl => ?_)
  refine lv_aload_n hx hb dX0_aheadOnDay_2 rfl (lv_at hl 1 rfl) ?_
  refine x_get S hK h_bk 0 (by decide) rfl rfl rfl in0 7 (by decide) (xm 1 rfl) (x := .ref (b + 5)) rfl dX0_aheadOnDay_3 ?_
  refine lv_astore (lv' := [(4, .ref (b + 5)), (3, .int 0), (0, .ref b), (1, .ref (b + (6 + 2 * i))), (2, .int p2)]) hx hb dX0_aheadOnDay_6 hl (by decide) rfl (fun ls hl => ?_)
  refine lv_aload hx hb dX0_aheadOnDay_8 (lv_at hl 0 rfl) ?_
  refine x_alen S hK h_bk 5 (by decide) rfl rfl 2 rfl (r := 12) rfl dX0_aheadOnDay_10 ?_
  refine lv_istore (lv' := [(5, .int 12), (4, .ref (b + 5)), (3, .int 0), (0, .ref b), (1, .ref (b + (6 + 2 * i))), (2, .int p2)]) hx hb dX0_aheadOnDay_11 hl (by decide) rfl (fun ls hl => ?_)
  refine lv_iconst (v := 0) hx hb dX0_aheadOnDay_13 (by decide) ?_
  refine lv_istore (lv' := [(6, .int 0), (5, .int 12), (4, .ref (b + 5)), (3, .int 0), (0, .ref b), (1, .ref (b + (6 + 2 * i))), (2, .int p2)]) hx hb dX0_aheadOnDay_14 hl (by decide) rfl (fun ls hl => ?_)
  have lp_16 : ∀ (K_16 : Int32 → Int32 → Option Int32), (∀ (x_1 : Int32) (x_2 : Int32) (locs : List Loc) (ls : Array Slot), (∀ q ∈ locs, z ≤ q.base) → lv_has ls 8 [(3, .int x_1)] → K_16 x_1 x_2 = some r0 → W p l e { frames := 2, cells := 0, slots := 0, locals := 44 } s m args below meth c s.heap locs 0 0 Q (F0 m 62 ls [])) → ∀ (n : Nat) (x_1 : Int32) (x_2 : Int32) (locs : List Loc) (ls : Array Slot), (∀ q ∈ locs, z ≤ q.base) → lv_has ls 8 [(1, .ref (b + (6 + 2 * i))), (2, .int p2), (3, .int x_1), (4, .ref (b + 5)), (5, .int 12), (6, .int x_2)] → L_X0_aheadOnDay_16 K_16 v i p2 n x_1 x_2 = some r0 → W p l e { frames := 2, cells := 0, slots := 0, locals := 44 } s m args below meth c s.heap locs 0 0 Q (F0 m 16 ls []) := by
    intro K_16 hK_16 n
    induction n with
    | zero =>
      intro x_1 x_2 locs ls hL hl hf
      cases hf
    | succ n ih_16 =>
      intro x_1 x_2 locs ls hL hl hf
      unfold L_X0_aheadOnDay_16 at hf
      refine lv_iload hx hb dX0_aheadOnDay_16 (lv_at hl 5 rfl) ?_
      refine lv_iload hx hb dX0_aheadOnDay_18 (lv_at hl 4 rfl) ?_
      refine lv_icmp_ge (tgt := 62) hx hb dX0_aheadOnDay_20 (by decide) (fun c_3 => ?_) (fun c_3 => ?_)
      · have hf := (if_pos c_3).symm.trans hf
        exact hK_16 x_1 x_2 _ _ hL (lv_sub hl [2] rfl) hf
      · have hf := (if_neg c_3).symm.trans hf
        refine lv_aload hx hb dX0_aheadOnDay_23 (lv_at hl 3 rfl) ?_
        refine lv_iload hx hb dX0_aheadOnDay_25 (lv_at hl 5 rfl) ?_
        obtain ⟨g_4, hf⟩ := xg_some hf
        obtain ⟨i_5, ei_5, hf⟩ := xl_some hf
        have hi_i_5 : i_5 < 12 := by rw [ei_5]; exact xin_lt g_4
        refine x_aald S hK h_bk 5 (by decide) rfl rfl 2 rfl i_5 ei_5.symm g_4 (r := (b + (6 + 2 * i_5))) rfl dX0_aheadOnDay_27 ?_
        refine lv_astore (lv' := [(7, .ref (b + (6 + 2 * i_5))), (1, .ref (b + (6 + 2 * i))), (2, .int p2), (3, .int x_1), (4, .ref (b + 5)), (5, .int 12), (6, .int x_2)]) hx hb dX0_aheadOnDay_28 hl (by decide) rfl (fun ls hl => ?_)
        refine lv_iload_n hx hb dX0_aheadOnDay_30 rfl (lv_at hl 3 rfl) ?_
        refine lv_aload hx hb dX0_aheadOnDay_31 (lv_at hl 0 rfl) ?_
        refine lv_iload_n hx hb dX0_aheadOnDay_33 rfl (lv_at hl 2 rfl) ?_
        obtain ⟨r_6, e_7, hf⟩ := xb_some hf
        refine x_callVi (As := [.int p2]) (rest := [.int x_1]) S hK (c_X1_isOn l G z b v i_5 p2 r_6 hi_i_5 e_7) gX0_aheadOnDay_X1_isOn rfl 1 (by decide +kernel) rfl ⟨Nat.le_of_ble_eq_true rfl, Nat.le_of_ble_eq_true rfl⟩ h_bk (6 + 2 * i_5) (by omega) rfl (bkE_hire G b i_5 hi_i_5 _) rfl h_bk hl.1 rfl (Nat.le_of_ble_eq_true rfl) dX0_aheadOnDay_34 hL ⟨Nat.zero_le _, Nat.zero_le _⟩ (fun H1 locs hL hpost => ?_)
        subst hpost
        refine lv_if_eq (tgt := 53) hx hb dX0_aheadOnDay_37 (by decide) (fun c_8 => ?_) (fun c_8 => ?_)
        · have hf := (if_pos c_8).symm.trans hf
          refine lv_iconst (v := 0) hx hb dX0_aheadOnDay_53 (by decide) ?_
          refine lv_iadd hx hb dX0_aheadOnDay_54 ?_
          obtain ⟨x_9, ex_9, hf⟩ := xl_some hf
          refine x_top ex_9 ?_
          refine lv_istore_n (lv' := [(3, .int x_9), (7, .ref (b + (6 + 2 * i_5))), (1, .ref (b + (6 + 2 * i))), (2, .int p2), (4, .ref (b + 5)), (5, .int 12), (6, .int x_2)]) hx hb dX0_aheadOnDay_55 rfl hl (by decide) rfl (fun ls hl => ?_)
          obtain ⟨x_10, ex_10, hf⟩ := xl_some hf
          refine lv_iinc (v := x_10) (lv' := [(6, .int x_10), (3, .int x_9), (7, .ref (b + (6 + 2 * i_5))), (1, .ref (b + (6 + 2 * i))), (2, .int p2), (4, .ref (b + 5)), (5, .int 12)]) hx hb dX0_aheadOnDay_56 hl (k := 6) rfl (by rw [ex_10]; rfl) (by decide) rfl (fun ls hl => ?_)
          refine lv_goto (tgt := 16) hx hb dX0_aheadOnDay_59 (by decide) ?_
          exact ih_16 x_9 x_10 _ _ hL (lv_sub hl [3, 4, 1, 5, 6, 0] rfl) hf
        · have hf := (if_neg c_8).symm.trans hf
          refine lv_aload hx hb dX0_aheadOnDay_40 (lv_at hl 0 rfl) ?_
          refine lv_aload_n hx hb dX0_aheadOnDay_42 rfl (lv_at hl 1 rfl) ?_
          obtain ⟨r_11, e_12, hf⟩ := xb_some hf
          refine x_callVi (As := [.ref (b + (6 + 2 * i))]) (rest := [.int x_1]) S hK (c_X1_isAheadOnDay l G z b v i_5 i r_11 hi_i_5 hi_i e_12) gX0_aheadOnDay_X1_isAheadOnDay rfl 1 (by decide +kernel) rfl ⟨Nat.le_of_ble_eq_true rfl, Nat.le_of_ble_eq_true rfl⟩ h_bk (6 + 2 * i_5) (by omega) rfl (bkE_hire G b i_5 hi_i_5 _) rfl h_bk hl.1 rfl (Nat.le_of_ble_eq_true rfl) dX0_aheadOnDay_43 hL ⟨Nat.zero_le _, Nat.zero_le _⟩ (fun H1 locs hL hpost => ?_)
          subst hpost
          refine lv_if_eq (tgt := 53) hx hb dX0_aheadOnDay_46 (by decide) (fun c_13 => ?_) (fun c_13 => ?_)
          · have hf := (if_pos c_13).symm.trans hf
            refine lv_iconst (v := 0) hx hb dX0_aheadOnDay_53 (by decide) ?_
            refine lv_iadd hx hb dX0_aheadOnDay_54 ?_
            obtain ⟨x_14, ex_14, hf⟩ := xl_some hf
            refine x_top ex_14 ?_
            refine lv_istore_n (lv' := [(3, .int x_14), (7, .ref (b + (6 + 2 * i_5))), (1, .ref (b + (6 + 2 * i))), (2, .int p2), (4, .ref (b + 5)), (5, .int 12), (6, .int x_2)]) hx hb dX0_aheadOnDay_55 rfl hl (by decide) rfl (fun ls hl => ?_)
            obtain ⟨x_15, ex_15, hf⟩ := xl_some hf
            refine lv_iinc (v := x_15) (lv' := [(6, .int x_15), (3, .int x_14), (7, .ref (b + (6 + 2 * i_5))), (1, .ref (b + (6 + 2 * i))), (2, .int p2), (4, .ref (b + 5)), (5, .int 12)]) hx hb dX0_aheadOnDay_56 hl (k := 6) rfl (by rw [ex_15]; rfl) (by decide) rfl (fun ls hl => ?_)
            refine lv_goto (tgt := 16) hx hb dX0_aheadOnDay_59 (by decide) ?_
            exact ih_16 x_14 x_15 _ _ hL (lv_sub hl [3, 4, 1, 5, 6, 0] rfl) hf
          · have hf := (if_neg c_13).symm.trans hf
            refine lv_iconst (v := 1) hx hb dX0_aheadOnDay_49 (by decide) ?_
            refine lv_goto (tgt := 54) hx hb dX0_aheadOnDay_50 (by decide) ?_
            refine lv_iadd hx hb dX0_aheadOnDay_54 ?_
            obtain ⟨x_16, ex_16, hf⟩ := xl_some hf
            refine x_top ex_16 ?_
            refine lv_istore_n (lv' := [(3, .int x_16), (7, .ref (b + (6 + 2 * i_5))), (1, .ref (b + (6 + 2 * i))), (2, .int p2), (4, .ref (b + 5)), (5, .int 12), (6, .int x_2)]) hx hb dX0_aheadOnDay_55 rfl hl (by decide) rfl (fun ls hl => ?_)
            obtain ⟨x_17, ex_17, hf⟩ := xl_some hf
            refine lv_iinc (v := x_17) (lv' := [(6, .int x_17), (3, .int x_16), (7, .ref (b + (6 + 2 * i_5))), (1, .ref (b + (6 + 2 * i))), (2, .int p2), (4, .ref (b + 5)), (5, .int 12)]) hx hb dX0_aheadOnDay_56 hl (k := 6) rfl (by rw [ex_17]; rfl) (by decide) rfl (fun ls hl => ?_)
            refine lv_goto (tgt := 16) hx hb dX0_aheadOnDay_59 (by decide) ?_
            exact ih_16 x_16 x_17 _ _ hL (lv_sub hl [3, 4, 1, 5, 6, 0] rfl) hf
  refine lp_16 _ (fun x_18 x_19 locs ls hL hl hf => ?_) 100000 0 0 _ _ hL (lv_sub hl [5, 6, 3, 2, 1, 0] rfl) hf
  refine lv_iload_n hx hb dX0_aheadOnDay_62 rfl (lv_at hl 0 rfl) ?_
  have q0 := Option.some.inj hf
  subst r0
  subst hQ
  refine x_iret (post := (fun H H1 => H1 = H)) S hr hlocks rfl ?_ hL dX0_aheadOnDay_63
  exact rfl
set_option maxRecDepth 100000 in
set_option maxHeartbeats 4000000 in
theorem c_X7_hoursMask (l : Launch) (G : xG) (z : Nat) (p1 : Int32) (p2 : Int32) (r0 : Int32)  (hf : f_X7_hoursMask p1 p2 = some r0) : xM l yX7_hoursMask wsX7_hoursMask 1 40 G z [.int p1, .int p2] (fun H => H = H) (some (.int r0)) (fun H H1 => H1 = H) := by
  refine xM.of (cc := cX7_hoursMask) (maxL := 4) (ret := (some .int)) (by decide +kernel) rfl (Nat.le_of_ble_eq_true rfl) ?_
  intro p e s m args below meth c ls Q hQ S hr hlocks hK hP hl
  obtain ⟨hx, hb, hml, hown, hts⟩ := id S
  have hL : ∀ q ∈ ([] : List Loc), z ≤ q.base := fun q h => absurd h List.not_mem_nil
  have hl : lv_has ls 4 [(0, .int p1), (1, .int p2)] := hl
  unfold f_X7_hoursMask at hf
  refine lv_iload_n hx hb dX7_hoursMask_0 rfl (lv_at hl 0 rfl) ?_
  refine lv_iconst (v := 0) hx hb dX7_hoursMask_1 (by decide) ?_
  refine x_max S (xm 1 rfl) (xm 2 rfl) (xm 3 rfl) (xm 4 rfl) hl.1 (Nat.le_of_ble_eq_true rfl) (Nat.le_of_ble_eq_true rfl) (Nat.zero_le _) (Nat.zero_le _) dX7_hoursMask_2 ?_
  refine lv_bipush (v := 24) hx hb dX7_hoursMask_5 (by decide) ?_
  refine x_min S (xm 5 rfl) (xm 6 rfl) (xm 3 rfl) (xm 7 rfl) hl.1 (Nat.le_of_ble_eq_true rfl) (Nat.le_of_ble_eq_true rfl) (Nat.zero_le _) (Nat.zero_le _) dX7_hoursMask_7 ?_
  obtain ⟨x_1, ex_1, hf⟩ := xl_some hf
  refine x_top ex_1 ?_
  refine lv_istore_n (lv' := [(2, .int x_1), (0, .int p1), (1, .int p2)]) hx hb dX7_hoursMask_10 rfl hl (by decide) rfl (fun ls hl => ?_)
  refine lv_iload_n hx hb dX7_hoursMask_11 rfl (lv_at hl 2 rfl) ?_
  refine lv_iload_n hx hb dX7_hoursMask_12 rfl (lv_at hl 0 rfl) ?_
  refine x_max S (xm 1 rfl) (xm 2 rfl) (xm 3 rfl) (xm 4 rfl) hl.1 (Nat.le_of_ble_eq_true rfl) (Nat.le_of_ble_eq_true rfl) (Nat.zero_le _) (Nat.zero_le _) dX7_hoursMask_13 ?_
  refine lv_bipush (v := 24) hx hb dX7_hoursMask_16 (by decide) ?_
  refine x_min S (xm 5 rfl) (xm 6 rfl) (xm 3 rfl) (xm 7 rfl) hl.1 (Nat.le_of_ble_eq_true rfl) (Nat.le_of_ble_eq_true rfl) (Nat.zero_le _) (Nat.zero_le _) dX7_hoursMask_18 ?_
  obtain ⟨x_2, ex_2, hf⟩ := xl_some hf
  refine x_top ex_2 ?_
  refine lv_istore_n (lv' := [(3, .int x_2), (2, .int x_1), (0, .int p1), (1, .int p2)]) hx hb dX7_hoursMask_21 rfl hl (by decide) rfl (fun ls hl => ?_)
  refine lv_iconst (v := 1) hx hb dX7_hoursMask_22 (by decide) ?_
  refine lv_iload_n hx hb dX7_hoursMask_23 rfl (lv_at hl 0 rfl) ?_
  refine lv_ishl hx hb dX7_hoursMask_24 ?_
  refine lv_iconst (v := 1) hx hb dX7_hoursMask_25 (by decide) ?_
  refine lv_iload_n hx hb dX7_hoursMask_26 rfl (lv_at hl 1 rfl) ?_
  refine lv_ishl hx hb dX7_hoursMask_27 ?_
  refine lv_isub hx hb dX7_hoursMask_28 ?_
  have q0 := Option.some.inj hf
  subst r0
  subst hQ
  refine x_iret (post := (fun H H1 => H1 = H)) S hr hlocks rfl ?_ hL dX7_hoursMask_29
  exact rfl
set_option maxRecDepth 100000 in
set_option maxHeartbeats 4000000 in
theorem c_X0_blockedHours (l : Launch) (G : xG) (z : Nat) (b : Nat) (v : xV) (p1 : Int32) (p2 : Int32) (p3 : Int32) (p4 : Int32) (r0 : Int32)  (hf : f_X0_blockedHours v p1 p2 p3 p4 = some r0) : xM l yX0_blockedHours wsX0_blockedHours 2 63 G z [.ref b, .int p1, .int p2, .int p3, .int p4] (fun H => PX G b 37 (bkE G b) v H) (some (.int r0)) (fun H H1 => H1 = H) := by
  refine xM.of (cc := cX0_blockedHours) (maxL := 11) (ret := (some .int)) (by decide +kernel) rfl (Nat.le_of_ble_eq_true rfl) ?_
  intro p e s m args below meth c ls Q hQ S hr hlocks hK hP hl
  obtain ⟨hx, hb, hml, hown, hts⟩ := id S
  have h_bk := hP
  have hL : ∀ q ∈ ([] : List Loc), z ≤ q.base := fun q h => absurd h List.not_mem_nil
  have hl : lv_has ls 11 [(0, .ref b), (1, .int p1), (2, .int p2), (3, .int p3), (4, .int p4)] := hl
  have in0 : ∀ w ∈ u_ws RX0 TX0 9, w ∈ wsX0_blockedHours := fun _ h => List.mem_cons_of_mem _ (List.mem_append_left _ (List.mem_append_right _ h))
  have in1 : ∀ w ∈ u_ws RX1 TX1 15, w ∈ wsX0_blockedHours := fun _ h => List.mem_cons_of_mem _ (List.mem_append_right _ h)
  unfold f_X0_blockedHours at hf
  refine lv_iconst (v := 0) hx hb dX0_blockedHours_0 (by decide) ?_
  refine lv_istore (lv' := [(5, .int 0), (0, .ref b), (1, .int p1), (2, .int p2), (3, .int p3), (4, .int p4)]) hx hb dX0_blockedHours_1 hl (by decide) rfl (fun ls hl => ?_)
  refine lv_aload_n hx hb dX0_blockedHours_3 rfl (lv_at hl 1 rfl) ?_
  refine x_get S hK h_bk 0 (by decide) rfl rfl rfl in0 7 (by decide) (xm 1 rfl) (x := .ref (b + 5)) rfl dX0_blockedHours_4 ?_
  refine lv_astore (lv' := [(6, .ref (b + 5)), (5, .int 0), (0, .ref b), (1, .int p1), (2, .int p2), (3, .int p3), (4, .int p4)]) hx hb dX0_blockedHours_7 hl (by decide) rfl (fun ls hl => ?_)
  refine lv_aload hx hb dX0_blockedHours_9 (lv_at hl 0 rfl) ?_
  refine x_alen S hK h_bk 5 (by decide) rfl rfl 2 rfl (r := 12) rfl dX0_blockedHours_11 ?_
  refine lv_istore (lv' := [(7, .int 12), (6, .ref (b + 5)), (5, .int 0), (0, .ref b), (1, .int p1), (2, .int p2), (3, .int p3), (4, .int p4)]) hx hb dX0_blockedHours_12 hl (by decide) rfl (fun ls hl => ?_)
  refine lv_iconst (v := 0) hx hb dX0_blockedHours_14 (by decide) ?_
  refine lv_istore (lv' := [(8, .int 0), (7, .int 12), (6, .ref (b + 5)), (5, .int 0), (0, .ref b), (1, .int p1), (2, .int p2), (3, .int p3), (4, .int p4)]) hx hb dX0_blockedHours_15 hl (by decide) rfl (fun ls hl => ?_)
  have lp_17 : ∀ (K_17 : Int32 → Int32 → Option Int32), (∀ (x_1 : Int32) (x_2 : Int32) (locs : List Loc) (ls : Array Slot), (∀ q ∈ locs, z ≤ q.base) → lv_has ls 11 [(5, .int x_1)] → K_17 x_1 x_2 = some r0 → W p l e { frames := 2, cells := 0, slots := 0, locals := 63 } s m args below meth c s.heap locs 0 0 Q (F0 m 97 ls [])) → ∀ (n : Nat) (x_1 : Int32) (x_2 : Int32) (locs : List Loc) (ls : Array Slot), (∀ q ∈ locs, z ≤ q.base) → lv_has ls 11 [(1, .int p1), (2, .int p2), (3, .int p3), (4, .int p4), (5, .int x_1), (6, .ref (b + 5)), (7, .int 12), (8, .int x_2)] → L_X0_blockedHours_17 K_17 v p1 p2 p3 p4 n x_1 x_2 = some r0 → W p l e { frames := 2, cells := 0, slots := 0, locals := 63 } s m args below meth c s.heap locs 0 0 Q (F0 m 17 ls []) := by
    intro K_17 hK_17 n
    induction n with
    | zero =>
      intro x_1 x_2 locs ls hL hl hf
      cases hf
    | succ n ih_17 =>
      intro x_1 x_2 locs ls hL hl hf
      unfold L_X0_blockedHours_17 at hf
      refine lv_iload hx hb dX0_blockedHours_17 (lv_at hl 7 rfl) ?_
      refine lv_iload hx hb dX0_blockedHours_19 (lv_at hl 6 rfl) ?_
      refine lv_icmp_ge (tgt := 97) hx hb dX0_blockedHours_21 (by decide) (fun c_3 => ?_) (fun c_3 => ?_)
      · have hf := (if_pos c_3).symm.trans hf
        exact hK_17 x_1 x_2 _ _ hL (lv_sub hl [4] rfl) hf
      · have hf := (if_neg c_3).symm.trans hf
        refine lv_aload hx hb dX0_blockedHours_24 (lv_at hl 5 rfl) ?_
        refine lv_iload hx hb dX0_blockedHours_26 (lv_at hl 7 rfl) ?_
        obtain ⟨g_4, hf⟩ := xg_some hf
        obtain ⟨i_5, ei_5, hf⟩ := xl_some hf
        have hi_i_5 : i_5 < 12 := by rw [ei_5]; exact xin_lt g_4
        refine x_aald S hK h_bk 5 (by decide) rfl rfl 2 rfl i_5 ei_5.symm g_4 (r := (b + (6 + 2 * i_5))) rfl dX0_blockedHours_28 ?_
        refine lv_astore (lv' := [(9, .ref (b + (6 + 2 * i_5))), (1, .int p1), (2, .int p2), (3, .int p3), (4, .int p4), (5, .int x_1), (6, .ref (b + 5)), (7, .int 12), (8, .int x_2)]) hx hb dX0_blockedHours_29 hl (by decide) rfl (fun ls hl => ?_)
        refine lv_aload hx hb dX0_blockedHours_31 (lv_at hl 0 rfl) ?_
        refine x_get S hK h_bk (6 + 2 * i_5) (by omega) rfl (bkE_hire G b i_5 hi_i_5 _) rfl in1 2 (by decide) (xm 2 rfl) (x := .int (v (6 + 2 * i_5) 2)) rfl dX0_blockedHours_33 ?_
        refine lv_iload_n hx hb dX0_blockedHours_36 rfl (lv_at hl 2 rfl) ?_
        refine lv_iand hx hb dX0_blockedHours_37 ?_
        refine lv_if_eq (tgt := 91) hx hb dX0_blockedHours_38 (by decide) (fun c_6 => ?_) (fun c_6 => ?_)
        · have hf := (if_pos c_6).symm.trans hf
          obtain ⟨x_7, ex_7, hf⟩ := xl_some hf
          refine lv_iinc (v := x_7) (lv' := [(8, .int x_7), (9, .ref (b + (6 + 2 * i_5))), (1, .int p1), (2, .int p2), (3, .int p3), (4, .int p4), (5, .int x_1), (6, .ref (b + 5)), (7, .int 12)]) hx hb dX0_blockedHours_91 hl (k := 8) rfl (by rw [ex_7]; rfl) (by decide) rfl (fun ls hl => ?_)
          refine lv_goto (tgt := 17) hx hb dX0_blockedHours_94 (by decide) ?_
          exact ih_17 x_1 x_7 _ _ hL (lv_sub hl [2, 3, 4, 5, 6, 7, 8, 0] rfl) hf
        · have hf := (if_neg c_6).symm.trans hf
          refine lv_aload hx hb dX0_blockedHours_41 (lv_at hl 0 rfl) ?_
          refine lv_iload_n hx hb dX0_blockedHours_43 rfl (lv_at hl 1 rfl) ?_
          obtain ⟨r_8, e_9, hf⟩ := xb_some hf
          refine x_callVi (As := [.int p1]) (rest := []) S hK (c_X1_isOn l G z b v i_5 p1 r_8 hi_i_5 e_9) gX0_blockedHours_X1_isOn rfl 1 (by decide +kernel) rfl ⟨Nat.le_of_ble_eq_true rfl, Nat.le_of_ble_eq_true rfl⟩ h_bk (6 + 2 * i_5) (by omega) rfl (bkE_hire G b i_5 hi_i_5 _) rfl h_bk hl.1 rfl (Nat.le_of_ble_eq_true rfl) dX0_blockedHours_44 hL ⟨Nat.zero_le _, Nat.zero_le _⟩ (fun H1 locs hL hpost => ?_)
          subst hpost
          refine lv_if_eq (tgt := 91) hx hb dX0_blockedHours_47 (by decide) (fun c_10 => ?_) (fun c_10 => ?_)
          · have hf := (if_pos c_10).symm.trans hf
            obtain ⟨x_11, ex_11, hf⟩ := xl_some hf
            refine lv_iinc (v := x_11) (lv' := [(8, .int x_11), (9, .ref (b + (6 + 2 * i_5))), (1, .int p1), (2, .int p2), (3, .int p3), (4, .int p4), (5, .int x_1), (6, .ref (b + 5)), (7, .int 12)]) hx hb dX0_blockedHours_91 hl (k := 8) rfl (by rw [ex_11]; rfl) (by decide) rfl (fun ls hl => ?_)
            refine lv_goto (tgt := 17) hx hb dX0_blockedHours_94 (by decide) ?_
            exact ih_17 x_1 x_11 _ _ hL (lv_sub hl [2, 3, 4, 5, 6, 7, 8, 0] rfl) hf
          · have hf := (if_neg c_10).symm.trans hf
            refine lv_aload hx hb dX0_blockedHours_50 (lv_at hl 0 rfl) ?_
            refine x_get S hK h_bk (6 + 2 * i_5) (by omega) rfl (bkE_hire G b i_5 hi_i_5 _) rfl in1 1 (by decide) (xm 3 rfl) (x := .int (v (6 + 2 * i_5) 1)) rfl dX0_blockedHours_52 ?_
            refine lv_iload_n hx hb dX0_blockedHours_55 rfl (lv_at hl 3 rfl) ?_
            refine lv_icmp_ne (tgt := 63) hx hb dX0_blockedHours_56 (by decide) (fun c_12 => ?_) (fun c_12 => ?_)
            · have hf := (if_neg c_12).symm.trans hf
              refine lv_iload hx hb dX0_blockedHours_63 (lv_at hl 4 rfl) ?_
              refine lv_istore (lv' := [(10, .int p4), (9, .ref (b + (6 + 2 * i_5))), (1, .int p1), (2, .int p2), (3, .int p3), (4, .int p4), (5, .int x_1), (6, .ref (b + 5)), (7, .int 12), (8, .int x_2)]) hx hb dX0_blockedHours_65 hl (by decide) rfl (fun ls hl => ?_)
              refine lv_iload hx hb dX0_blockedHours_67 (lv_at hl 6 rfl) ?_
              refine lv_aload hx hb dX0_blockedHours_69 (lv_at hl 1 rfl) ?_
              refine x_get S hK h_bk (6 + 2 * i_5) (by omega) rfl (bkE_hire G b i_5 hi_i_5 _) rfl in1 3 (by decide) (xm 4 rfl) (x := .int (v (6 + 2 * i_5) 3)) rfl dX0_blockedHours_71 ?_
              refine lv_iload hx hb dX0_blockedHours_74 (lv_at hl 0 rfl) ?_
              refine lv_isub hx hb dX0_blockedHours_76 ?_
              refine lv_aload hx hb dX0_blockedHours_77 (lv_at hl 1 rfl) ?_
              refine x_get S hK h_bk (6 + 2 * i_5) (by omega) rfl (bkE_hire G b i_5 hi_i_5 _) rfl in1 4 (by decide) (xm 5 rfl) (x := .int (v (6 + 2 * i_5) 4)) rfl dX0_blockedHours_79 ?_
              refine lv_iload hx hb dX0_blockedHours_82 (lv_at hl 0 rfl) ?_
              refine lv_iadd hx hb dX0_blockedHours_84 ?_
              obtain ⟨r_13, e_14, hf⟩ := xb_some hf
              refine x_callNi (As := [.int ((v (6 + 2 * i_5) 3) - p4), .int ((v (6 + 2 * i_5) 4) + p4)]) (rest := [.int x_1]) S hK (c_X7_hoursMask l G z ((v (6 + 2 * i_5) 3) - p4) ((v (6 + 2 * i_5) 4) + p4) r_13 e_14) gX0_blockedHours_X7_hoursMask_n144 (xm 19 rfl) (xm 20 rfl) hK.2.2.2.2.2 rfl 2 (by decide +kernel) rfl ⟨Nat.le_of_ble_eq_true rfl, Nat.le_of_ble_eq_true rfl⟩ rfl hl.1 rfl (Nat.le_of_ble_eq_true rfl) dX0_blockedHours_85 hL ⟨Nat.zero_le _, Nat.zero_le _⟩ (fun H1 locs hL hpost => ?_)
              subst hpost
              refine lv_ior hx hb dX0_blockedHours_88 ?_
              obtain ⟨x_15, ex_15, hf⟩ := xl_some hf
              refine x_top ex_15 ?_
              refine lv_istore (lv' := [(5, .int x_15), (10, .int p4), (9, .ref (b + (6 + 2 * i_5))), (1, .int p1), (2, .int p2), (3, .int p3), (4, .int p4), (6, .ref (b + 5)), (7, .int 12), (8, .int x_2)]) hx hb dX0_blockedHours_89 hl (by decide) rfl (fun ls hl => ?_)
              obtain ⟨x_16, ex_16, hf⟩ := xl_some hf
              refine lv_iinc (v := x_16) (lv' := [(8, .int x_16), (5, .int x_15), (10, .int p4), (9, .ref (b + (6 + 2 * i_5))), (1, .int p1), (2, .int p2), (3, .int p3), (4, .int p4), (6, .ref (b + 5)), (7, .int 12)]) hx hb dX0_blockedHours_91 hl (k := 9) rfl (by rw [ex_16]; rfl) (by decide) rfl (fun ls hl => ?_)
              refine lv_goto (tgt := 17) hx hb dX0_blockedHours_94 (by decide) ?_
              exact ih_17 x_15 x_16 _ _ hL (lv_sub hl [4, 5, 6, 7, 1, 8, 9, 0] rfl) hf
            · have hf := (if_pos c_12).symm.trans hf
              refine lv_iconst (v := 0) hx hb dX0_blockedHours_59 (by decide) ?_
              refine lv_goto (tgt := 65) hx hb dX0_blockedHours_60 (by decide) ?_
              refine lv_istore (lv' := [(10, .int 0), (9, .ref (b + (6 + 2 * i_5))), (1, .int p1), (2, .int p2), (3, .int p3), (4, .int p4), (5, .int x_1), (6, .ref (b + 5)), (7, .int 12), (8, .int x_2)]) hx hb dX0_blockedHours_65 hl (by decide) rfl (fun ls hl => ?_)
              refine lv_iload hx hb dX0_blockedHours_67 (lv_at hl 6 rfl) ?_
              refine lv_aload hx hb dX0_blockedHours_69 (lv_at hl 1 rfl) ?_
              refine x_get S hK h_bk (6 + 2 * i_5) (by omega) rfl (bkE_hire G b i_5 hi_i_5 _) rfl in1 3 (by decide) (xm 4 rfl) (x := .int (v (6 + 2 * i_5) 3)) rfl dX0_blockedHours_71 ?_
              refine lv_iload hx hb dX0_blockedHours_74 (lv_at hl 0 rfl) ?_
              refine lv_isub hx hb dX0_blockedHours_76 ?_
              refine lv_aload hx hb dX0_blockedHours_77 (lv_at hl 1 rfl) ?_
              refine x_get S hK h_bk (6 + 2 * i_5) (by omega) rfl (bkE_hire G b i_5 hi_i_5 _) rfl in1 4 (by decide) (xm 5 rfl) (x := .int (v (6 + 2 * i_5) 4)) rfl dX0_blockedHours_79 ?_
              refine lv_iload hx hb dX0_blockedHours_82 (lv_at hl 0 rfl) ?_
              refine lv_iadd hx hb dX0_blockedHours_84 ?_
              obtain ⟨r_17, e_18, hf⟩ := xb_some hf
              refine x_callNi (As := [.int ((v (6 + 2 * i_5) 3) - 0), .int ((v (6 + 2 * i_5) 4) + 0)]) (rest := [.int x_1]) S hK (c_X7_hoursMask l G z ((v (6 + 2 * i_5) 3) - 0) ((v (6 + 2 * i_5) 4) + 0) r_17 e_18) gX0_blockedHours_X7_hoursMask_n144 (xm 19 rfl) (xm 20 rfl) hK.2.2.2.2.2 rfl 2 (by decide +kernel) rfl ⟨Nat.le_of_ble_eq_true rfl, Nat.le_of_ble_eq_true rfl⟩ rfl hl.1 rfl (Nat.le_of_ble_eq_true rfl) dX0_blockedHours_85 hL ⟨Nat.zero_le _, Nat.zero_le _⟩ (fun H1 locs hL hpost => ?_)
              subst hpost
              refine lv_ior hx hb dX0_blockedHours_88 ?_
              obtain ⟨x_19, ex_19, hf⟩ := xl_some hf
              refine x_top ex_19 ?_
              refine lv_istore (lv' := [(5, .int x_19), (10, .int 0), (9, .ref (b + (6 + 2 * i_5))), (1, .int p1), (2, .int p2), (3, .int p3), (4, .int p4), (6, .ref (b + 5)), (7, .int 12), (8, .int x_2)]) hx hb dX0_blockedHours_89 hl (by decide) rfl (fun ls hl => ?_)
              obtain ⟨x_20, ex_20, hf⟩ := xl_some hf
              refine lv_iinc (v := x_20) (lv' := [(8, .int x_20), (5, .int x_19), (10, .int 0), (9, .ref (b + (6 + 2 * i_5))), (1, .int p1), (2, .int p2), (3, .int p3), (4, .int p4), (6, .ref (b + 5)), (7, .int 12)]) hx hb dX0_blockedHours_91 hl (k := 9) rfl (by rw [ex_20]; rfl) (by decide) rfl (fun ls hl => ?_)
              refine lv_goto (tgt := 17) hx hb dX0_blockedHours_94 (by decide) ?_
              exact ih_17 x_19 x_20 _ _ hL (lv_sub hl [4, 5, 6, 7, 1, 8, 9, 0] rfl) hf
  refine lp_17 _ (fun x_21 x_22 locs ls hL hl hf => ?_) 100000 0 0 _ _ hL (lv_sub hl [5, 6, 7, 8, 3, 2, 1, 0] rfl) hf
  refine lv_iload hx hb dX0_blockedHours_97 (lv_at hl 0 rfl) ?_
  have q0 := Option.some.inj hf
  subst r0
  subst hQ
  refine x_iret (post := (fun H H1 => H1 = H)) S hr hlocks rfl ?_ hL dX0_blockedHours_99
  exact rfl
set_option maxRecDepth 100000 in
set_option maxHeartbeats 4000000 in
theorem c_X0_isHirer (l : Launch) (G : xG) (z : Nat) (b : Nat) (v : xV) (p1 : Int32) (r0 : Int32)  (hf : f_X0_isHirer v p1 = some r0) : xM l yX0_isHirer wsX0_isHirer 0 0 G z [.ref b, .int p1] (fun H => PX G b 37 (bkE G b) v H) (some (.int r0)) (fun H H1 => H1 = H) := by
  refine xM.of (cc := cX0_isHirer) (maxL := 2) (ret := (some .boolean)) (by decide +kernel) rfl (Nat.le_of_ble_eq_true rfl) ?_
  intro p e s m args below meth c ls Q hQ S hr hlocks hK hP hl
  obtain ⟨hx, hb, hml, hown, hts⟩ := id S
  have h_bk := hP
  have hL : ∀ q ∈ ([] : List Loc), z ≤ q.base := fun q h => absurd h List.not_mem_nil
  have hl : lv_has ls 2 [(0, .ref b), (1, .int p1)] := hl
  have in0 : ∀ w ∈ u_ws RX0 TX0 9, w ∈ wsX0_isHirer := fun _ h => List.mem_cons_of_mem _ (List.mem_append_right _ h)
  unfold f_X0_isHirer at hf
  refine lv_iload_n hx hb dX0_isHirer_0 rfl (lv_at hl 1 rfl) ?_
  refine lv_if_lt (tgt := 22) hx hb dX0_isHirer_1 (by decide) (fun c_1 => ?_) (fun c_1 => ?_)
  · have hf := (if_pos c_1).symm.trans hf
    refine lv_iconst (v := 0) hx hb dX0_isHirer_22 (by decide) ?_
    have q0 := Option.some.inj hf
    subst r0
    subst hQ
    refine x_zret (post := (fun H H1 => H1 = H)) S hr hlocks (by decide) rfl ?_ hL dX0_isHirer_23
    exact rfl
  · have hf := (if_neg c_1).symm.trans hf
    refine lv_iload_n hx hb dX0_isHirer_4 rfl (lv_at hl 1 rfl) ?_
    refine lv_aload_n hx hb dX0_isHirer_5 rfl (lv_at hl 0 rfl) ?_
    refine x_get S hK h_bk 0 (by decide) rfl rfl rfl in0 1 (by decide) (xm 1 rfl) (x := .int (v 0 1)) rfl dX0_isHirer_6 ?_
    refine lv_icmp_ge (tgt := 22) hx hb dX0_isHirer_9 (by decide) (fun c_2 => ?_) (fun c_2 => ?_)
    · have hf := (if_pos c_2).symm.trans hf
      refine lv_iconst (v := 0) hx hb dX0_isHirer_22 (by decide) ?_
      have q0 := Option.some.inj hf
      subst r0
      subst hQ
      refine x_zret (post := (fun H H1 => H1 = H)) S hr hlocks (by decide) rfl ?_ hL dX0_isHirer_23
      exact rfl
    · have hf := (if_neg c_2).symm.trans hf
      refine lv_iload_n hx hb dX0_isHirer_12 rfl (lv_at hl 1 rfl) ?_
      refine lv_bipush (v := 10) hx hb dX0_isHirer_13 (by decide) ?_
      refine lv_icmp_ge (tgt := 22) hx hb dX0_isHirer_15 (by decide) (fun c_3 => ?_) (fun c_3 => ?_)
      · have hf := (if_pos c_3).symm.trans hf
        refine lv_iconst (v := 0) hx hb dX0_isHirer_22 (by decide) ?_
        have q0 := Option.some.inj hf
        subst r0
        subst hQ
        refine x_zret (post := (fun H H1 => H1 = H)) S hr hlocks (by decide) rfl ?_ hL dX0_isHirer_23
        exact rfl
      · have hf := (if_neg c_3).symm.trans hf
        refine lv_iconst (v := 1) hx hb dX0_isHirer_18 (by decide) ?_
        refine lv_goto (tgt := 23) hx hb dX0_isHirer_19 (by decide) ?_
        have q0 := Option.some.inj hf
        subst r0
        subst hQ
        refine x_zret (post := (fun H H1 => H1 = H)) S hr hlocks (by decide) rfl ?_ hL dX0_isHirer_23
        exact rfl
set_option maxRecDepth 100000 in
set_option maxHeartbeats 4000000 in
theorem c_X0_charge (l : Launch) (G : xG) (z : Nat) (b : Nat) (v : xV) (p1 : Int32) (p2 : Int32) (p3 : Int32) (v' : xV) (hz_bk : z ≤ b) (hf : f_X0_charge v p1 p2 p3 = some v') : xM l yX0_charge wsX0_charge 1 21 G z [.ref b, .int p1, .int p2, .int p3] (fun H => PX G b 37 (bkE G b) v H) none (fun H H1 => PX G b 37 (bkE G b) v' H1 ∧ XF (fun q => (b ≤ q ∧ q < b + 37)) H H1) := by
  refine xM.of (cc := cX0_charge) (maxL := 4) (ret := none) (by decide +kernel) rfl (Nat.le_of_ble_eq_true rfl) ?_
  intro p e s m args below meth c ls Q hQ S hr hlocks hK hP hl
  obtain ⟨hx, hb, hml, hown, hts⟩ := id S
  have h_bk := hP
  have hL : ∀ q ∈ ([] : List Loc), z ≤ q.base := fun q h => absurd h List.not_mem_nil
  have hF : XF (fun q => (b ≤ q ∧ q < b + 37)) s.heap s.heap := XF.rf
  have hl : lv_has ls 4 [(0, .ref b), (1, .int p1), (2, .int p2), (3, .int p3)] := hl
  have in0 : ∀ w ∈ u_ws RX0 TX0 9, w ∈ wsX0_charge := fun _ h => List.mem_cons_of_mem _ (List.mem_append_right _ h)
  unfold f_X0_charge at hf
  refine lv_aload_n hx hb dX0_charge_0 rfl (lv_at hl 0 rfl) ?_
  refine lv_iload_n hx hb dX0_charge_1 rfl (lv_at hl 1 rfl) ?_
  obtain ⟨r_1, e_2, hf⟩ := xb_some hf
  refine x_callVi (As := [.int p1]) (rest := []) S hK (c_X0_isHirer l G z b v p1 r_1 e_2) gX0_charge_X0_isHirer rfl 1 (by decide +kernel) rfl ⟨Nat.le_of_ble_eq_true rfl, Nat.le_of_ble_eq_true rfl⟩ h_bk 0 (by decide) rfl rfl rfl h_bk hl.1 rfl (Nat.le_of_ble_eq_true rfl) dX0_charge_2 hL ⟨Nat.zero_le _, Nat.zero_le _⟩ (fun H1 locs hL hpost => ?_)
  subst hpost
  refine lv_if_eq (tgt := 38) hx hb dX0_charge_5 (by decide) (fun c_3 => ?_) (fun c_3 => ?_)
  · have hf := (if_pos c_3).symm.trans hf
    have q0 := Option.some.inj hf
    subst v'
    subst hQ
    refine x_vret (post := (fun H H1 => PX G b 37 (bkE G b) v H1 ∧ XF (fun q => (b ≤ q ∧ q < b + 37)) H H1)) S hr hlocks rfl ?_ hL dX0_charge_38
    exact ⟨h_bk, hF⟩
  · have hf := (if_neg c_3).symm.trans hf
    refine lv_iload_n hx hb dX0_charge_8 rfl (lv_at hl 3 rfl) ?_
    refine lv_if_lt (tgt := 38) hx hb dX0_charge_9 (by decide) (fun c_4 => ?_) (fun c_4 => ?_)
    · have hf := (if_pos c_4).symm.trans hf
      have q0 := Option.some.inj hf
      subst v'
      subst hQ
      refine x_vret (post := (fun H H1 => PX G b 37 (bkE G b) v H1 ∧ XF (fun q => (b ≤ q ∧ q < b + 37)) H H1)) S hr hlocks rfl ?_ hL dX0_charge_38
      exact ⟨h_bk, hF⟩
    · have hf := (if_neg c_4).symm.trans hf
      refine lv_iload_n hx hb dX0_charge_12 rfl (lv_at hl 3 rfl) ?_
      refine lv_bipush (v := 9) hx hb dX0_charge_13 (by decide) ?_
      refine lv_icmp_ge (tgt := 38) hx hb dX0_charge_15 (by decide) (fun c_5 => ?_) (fun c_5 => ?_)
      · have hf := (if_pos c_5).symm.trans hf
        have q0 := Option.some.inj hf
        subst v'
        subst hQ
        refine x_vret (post := (fun H H1 => PX G b 37 (bkE G b) v H1 ∧ XF (fun q => (b ≤ q ∧ q < b + 37)) H H1)) S hr hlocks rfl ?_ hL dX0_charge_38
        exact ⟨h_bk, hF⟩
      · have hf := (if_neg c_5).symm.trans hf
        refine lv_aload_n hx hb dX0_charge_18 rfl (lv_at hl 0 rfl) ?_
        refine x_get S hK h_bk 0 (by decide) rfl rfl rfl in0 5 (by decide) (xm 1 rfl) (x := .ref (b + 3)) rfl dX0_charge_19 ?_
        refine lv_iload_n hx hb dX0_charge_22 rfl (lv_at hl 1 rfl) ?_
        refine lv_dup2_11 hx hb dX0_charge_23 rfl rfl ?_
        obtain ⟨g_6, hf⟩ := xg_some hf
        refine x_iald S hK h_bk 3 (by decide) rfl rfl p1.toNatClampNeg rfl g_6 dX0_charge_24 ?_
        refine lv_iload_n hx hb dX0_charge_25 rfl (lv_at hl 2 rfl) ?_
        refine lv_iadd hx hb dX0_charge_26 ?_
        obtain ⟨g_7, hf⟩ := xg_some hf
        obtain ⟨v_8, ev_8, hf⟩ := xl_some hf
        refine x_iast S hK h_bk hz_bk hL 3 (by decide) rfl rfl p1.toNatClampNeg rfl g_7 rfl ev_8 dX0_charge_27 (fun H1 locs hL h_bk hfr => ?_)
        have hF := hF.step hfr (fun q h => by (try dsimp only at h ⊢); omega)
        refine lv_aload_n hx hb dX0_charge_28 rfl (lv_at hl 0 rfl) ?_
        refine x_get S hK h_bk 0 (by decide) rfl rfl rfl in0 4 (by decide) (xm 2 rfl) (x := .ref (b + 2)) rfl dX0_charge_29 ?_
        refine lv_iload_n hx hb dX0_charge_32 rfl (lv_at hl 3 rfl) ?_
        refine lv_dup2_11 hx hb dX0_charge_33 rfl rfl ?_
        obtain ⟨g_9, hf⟩ := xg_some hf
        refine x_iald S hK h_bk 2 (by decide) rfl rfl p3.toNatClampNeg rfl g_9 dX0_charge_34 ?_
        refine lv_iload_n hx hb dX0_charge_35 rfl (lv_at hl 2 rfl) ?_
        refine lv_iadd hx hb dX0_charge_36 ?_
        obtain ⟨g_10, hf⟩ := xg_some hf
        obtain ⟨v_11, ev_11, hf⟩ := xl_some hf
        refine x_iast S hK h_bk hz_bk hL 2 (by decide) rfl rfl p3.toNatClampNeg rfl g_10 rfl ev_11 dX0_charge_37 (fun H1 locs hL h_bk hfr => ?_)
        have hF := hF.step hfr (fun q h => by (try dsimp only at h ⊢); omega)
        have q0 := Option.some.inj hf
        subst v'
        subst hQ
        refine x_vret (post := (fun H H1 => PX G b 37 (bkE G b) v_11 H1 ∧ XF (fun q => (b ≤ q ∧ q < b + 37)) H H1)) S hr hlocks rfl ?_ hL dX0_charge_38
        exact ⟨h_bk, hF⟩
set_option maxRecDepth 100000 in
set_option maxHeartbeats 4000000 in
theorem c_X0_sessionNumber (l : Launch) (G : xG) (z : Nat) (b : Nat) (v : xV) (i : Nat) (p2 : Int32) (r0 : Int32) (hi_i : i < 12) (hf : f_X0_sessionNumber v i p2 = some r0) : xM l yX0_sessionNumber wsX0_sessionNumber 1 23 G z [.ref b, .ref (b + (6 + 2 * i)), .int p2] (fun H => PX G b 37 (bkE G b) v H) (some (.int r0)) (fun H H1 => H1 = H) := by
  refine xM.of (cc := cX0_sessionNumber) (maxL := 3) (ret := (some .int)) (by decide +kernel) rfl (Nat.le_of_ble_eq_true rfl) ?_
  intro p e s m args below meth c ls Q hQ S hr hlocks hK hP hl
  obtain ⟨hx, hb, hml, hown, hts⟩ := id S
  have h_bk := hP
  have hL : ∀ q ∈ ([] : List Loc), z ≤ q.base := fun q h => absurd h List.not_mem_nil
  have hl : lv_has ls 3 [(0, .ref b), (1, .ref (b + (6 + 2 * i))), (2, .int p2)] := hl
  have in1 : ∀ w ∈ u_ws RX1 TX1 15, w ∈ wsX0_sessionNumber := fun _ h => List.mem_cons_of_mem _ (List.mem_append_right _ h)
  unfold f_X0_sessionNumber at hf
  refine lv_aload_n hx hb dX0_sessionNumber_0 rfl (lv_at hl 1 rfl) ?_
  refine x_get S hK h_bk (6 + 2 * i) (by omega) rfl (bkE_hire G b i hi_i _) rfl in1 0 (by decide) (xm 1 rfl) (x := .int (v (6 + 2 * i) 0)) rfl dX0_sessionNumber_1 ?_
  refine lv_bipush (v := 20) hx hb dX0_sessionNumber_4 (by decide) ?_
  refine lv_imul hx hb dX0_sessionNumber_6 ?_
  refine lv_aload_n hx hb dX0_sessionNumber_7 rfl (lv_at hl 1 rfl) ?_
  refine lv_iload_n hx hb dX0_sessionNumber_8 rfl (lv_at hl 2 rfl) ?_
  obtain ⟨r_1, e_2, hf⟩ := xb_some hf
  refine x_callVi (As := [.int p2]) (rest := [.int ((v (6 + 2 * i) 0) * 20)]) S hK (c_X1_indexOn l G z b v i p2 r_1 hi_i e_2) gX0_sessionNumber_X1_indexOn rfl 1 (by decide +kernel) rfl ⟨Nat.le_of_ble_eq_true rfl, Nat.le_of_ble_eq_true rfl⟩ h_bk (6 + 2 * i) (by omega) rfl (bkE_hire G b i hi_i _) rfl h_bk hl.1 rfl (Nat.le_of_ble_eq_true rfl) dX0_sessionNumber_9 hL ⟨Nat.zero_le _, Nat.zero_le _⟩ (fun H1 locs hL hpost => ?_)
  subst hpost
  refine lv_iadd hx hb dX0_sessionNumber_12 ?_
  have q0 := Option.some.inj hf
  subst r0
  subst hQ
  refine x_iret (post := (fun H H1 => H1 = H)) S hr hlocks rfl ?_ hL dX0_sessionNumber_13
  exact rfl
set_option maxRecDepth 100000 in
set_option maxHeartbeats 4000000 in
theorem c_X0_standsAgainst (l : Launch) (G : xG) (z : Nat) (b : Nat) (w : Nat) (v : xV) (wv : xV) (i : Nat) (r0 : Int32) (hi_i : i < 12) (hf : f_X0_standsAgainst v wv i = some r0) : xM l yX0_standsAgainst wsX0_standsAgainst 0 0 G z [.ref b, .ref (b + (6 + 2 * i)), .ref w] (fun H => PX G b 37 (bkE G b) v H ∧ PX G w 1 wsE wv H) (some (.int r0)) (fun H H1 => H1 = H) := by
  refine xM.of (cc := cX0_standsAgainst) (maxL := 4) (ret := (some .boolean)) (by decide +kernel) rfl (Nat.le_of_ble_eq_true rfl) ?_
  intro p e s m args below meth c ls Q hQ S hr hlocks hK hP hl
  obtain ⟨hx, hb, hml, hown, hts⟩ := id S
  obtain ⟨h_bk, h_ws⟩ := hP
  have hL : ∀ q ∈ ([] : List Loc), z ≤ q.base := fun q h => absurd h List.not_mem_nil
  have hl : lv_has ls 4 [(0, .ref b), (1, .ref (b + (6 + 2 * i))), (2, .ref w)] := hl
  have in0 : ∀ w ∈ u_ws RX0 TX0 9, w ∈ wsX0_standsAgainst := fun _ h => List.mem_cons_of_mem _ (List.mem_append_right _ h)
  have in1 : ∀ w ∈ u_ws RX1 TX1 15, w ∈ wsX0_standsAgainst := fun _ h => List.mem_cons_of_mem _ (List.mem_append_left _ (List.mem_append_left _ (List.mem_append_right _ h)))
  have in6 : ∀ w ∈ u_ws RX6 TX6 7, w ∈ wsX0_standsAgainst := fun _ h => List.mem_cons_of_mem _ (List.mem_append_left _ (List.mem_append_right _ h))
  unfold f_X0_standsAgainst at hf
  refine lv_aload_n hx hb dX0_standsAgainst_0 rfl (lv_at hl 1 rfl) ?_
  refine x_get S hK h_bk (6 + 2 * i) (by omega) rfl (bkE_hire G b i hi_i _) rfl in1 1 (by decide) (xm 1 rfl) (x := .int (v (6 + 2 * i) 1)) rfl dX0_standsAgainst_1 ?_
  refine lv_aload_n hx hb dX0_standsAgainst_4 rfl (lv_at hl 2 rfl) ?_
  refine x_get S hK h_ws 0 (by decide) rfl rfl rfl in6 0 (by decide) (xm 2 rfl) (x := .int (wv 0 0)) rfl dX0_standsAgainst_5 ?_
  refine lv_icmp_ne (tgt := 15) hx hb dX0_standsAgainst_8 (by decide) (fun c_1 => ?_) (fun c_1 => ?_)
  · have hf := (if_neg c_1).symm.trans hf
    refine lv_aload_n hx hb dX0_standsAgainst_15 rfl (lv_at hl 0 rfl) ?_
    refine x_get S hK h_bk 0 (by decide) rfl rfl rfl in0 3 (by decide) (xm 3 rfl) (x := .ref (b + 1)) rfl dX0_standsAgainst_16 ?_
    refine lv_iconst (v := 4) hx hb dX0_standsAgainst_19 (by decide) ?_
    refine x_iald S hK h_bk 1 (by decide) rfl rfl 4 (by decide) (by decide) dX0_standsAgainst_20 ?_
    obtain ⟨x_2, ex_2, hf⟩ := xl_some hf
    refine x_top ex_2 ?_
    refine lv_istore_n (lv' := [(3, .int x_2), (0, .ref b), (1, .ref (b + (6 + 2 * i))), (2, .ref w)]) hx hb dX0_standsAgainst_21 rfl hl (by decide) rfl (fun ls hl => ?_)
    refine lv_aload_n hx hb dX0_standsAgainst_22 rfl (lv_at hl 2 rfl) ?_
    refine x_get S hK h_bk (6 + 2 * i) (by omega) rfl (bkE_hire G b i hi_i _) rfl in1 2 (by decide) (xm 4 rfl) (x := .int (v (6 + 2 * i) 2)) rfl dX0_standsAgainst_23 ?_
    refine lv_aload_n hx hb dX0_standsAgainst_26 rfl (lv_at hl 3 rfl) ?_
    refine x_get S hK h_ws 0 (by decide) rfl rfl rfl in6 1 (by decide) (xm 5 rfl) (x := .int (wv 0 1)) rfl dX0_standsAgainst_27 ?_
    refine lv_iand hx hb dX0_standsAgainst_30 ?_
    refine lv_if_eq (tgt := 64) hx hb dX0_standsAgainst_31 (by decide) (fun c_3 => ?_) (fun c_3 => ?_)
    · have hf := (if_pos c_3).symm.trans hf
      refine lv_iconst (v := 0) hx hb dX0_standsAgainst_64 (by decide) ?_
      have q0 := Option.some.inj hf
      subst r0
      subst hQ
      refine x_zret (post := (fun H H1 => H1 = H)) S hr hlocks (by decide) rfl ?_ hL dX0_standsAgainst_65
      exact rfl
    · have hf := (if_neg c_3).symm.trans hf
      refine lv_aload_n hx hb dX0_standsAgainst_34 rfl (lv_at hl 3 rfl) ?_
      refine x_get S hK h_ws 0 (by decide) rfl rfl rfl in6 2 (by decide) (xm 6 rfl) (x := .int (wv 0 2)) rfl dX0_standsAgainst_35 ?_
      refine lv_aload_n hx hb dX0_standsAgainst_38 rfl (lv_at hl 2 rfl) ?_
      refine x_get S hK h_bk (6 + 2 * i) (by omega) rfl (bkE_hire G b i hi_i _) rfl in1 4 (by decide) (xm 7 rfl) (x := .int (v (6 + 2 * i) 4)) rfl dX0_standsAgainst_39 ?_
      refine lv_iload_n hx hb dX0_standsAgainst_42 rfl (lv_at hl 0 rfl) ?_
      refine lv_iadd hx hb dX0_standsAgainst_43 ?_
      refine lv_icmp_ge (tgt := 64) hx hb dX0_standsAgainst_44 (by decide) (fun c_4 => ?_) (fun c_4 => ?_)
      · have hf := (if_pos c_4).symm.trans hf
        refine lv_iconst (v := 0) hx hb dX0_standsAgainst_64 (by decide) ?_
        have q0 := Option.some.inj hf
        subst r0
        subst hQ
        refine x_zret (post := (fun H H1 => H1 = H)) S hr hlocks (by decide) rfl ?_ hL dX0_standsAgainst_65
        exact rfl
      · have hf := (if_neg c_4).symm.trans hf
        refine lv_aload_n hx hb dX0_standsAgainst_47 rfl (lv_at hl 2 rfl) ?_
        refine x_get S hK h_bk (6 + 2 * i) (by omega) rfl (bkE_hire G b i hi_i _) rfl in1 3 (by decide) (xm 8 rfl) (x := .int (v (6 + 2 * i) 3)) rfl dX0_standsAgainst_48 ?_
        refine lv_aload_n hx hb dX0_standsAgainst_51 rfl (lv_at hl 3 rfl) ?_
        refine x_get S hK h_ws 0 (by decide) rfl rfl rfl in6 3 (by decide) (xm 9 rfl) (x := .int (wv 0 3)) rfl dX0_standsAgainst_52 ?_
        refine lv_iload_n hx hb dX0_standsAgainst_55 rfl (lv_at hl 0 rfl) ?_
        refine lv_iadd hx hb dX0_standsAgainst_56 ?_
        refine lv_icmp_ge (tgt := 64) hx hb dX0_standsAgainst_57 (by decide) (fun c_5 => ?_) (fun c_5 => ?_)
        · have hf := (if_pos c_5).symm.trans hf
          refine lv_iconst (v := 0) hx hb dX0_standsAgainst_64 (by decide) ?_
          have q0 := Option.some.inj hf
          subst r0
          subst hQ
          refine x_zret (post := (fun H H1 => H1 = H)) S hr hlocks (by decide) rfl ?_ hL dX0_standsAgainst_65
          exact rfl
        · have hf := (if_neg c_5).symm.trans hf
          refine lv_iconst (v := 1) hx hb dX0_standsAgainst_60 (by decide) ?_
          refine lv_goto (tgt := 65) hx hb dX0_standsAgainst_61 (by decide) ?_
          have q0 := Option.some.inj hf
          subst r0
          subst hQ
          refine x_zret (post := (fun H H1 => H1 = H)) S hr hlocks (by decide) rfl ?_ hL dX0_standsAgainst_65
          exact rfl
  · have hf := (if_pos c_1).symm.trans hf
    refine lv_iconst (v := 0) hx hb dX0_standsAgainst_11 (by decide) ?_
    refine lv_goto (tgt := 21) hx hb dX0_standsAgainst_12 (by decide) ?_
    refine lv_istore_n (lv' := [(3, .int 0), (0, .ref b), (1, .ref (b + (6 + 2 * i))), (2, .ref w)]) hx hb dX0_standsAgainst_21 rfl hl (by decide) rfl (fun ls hl => ?_)
    refine lv_aload_n hx hb dX0_standsAgainst_22 rfl (lv_at hl 2 rfl) ?_
    refine x_get S hK h_bk (6 + 2 * i) (by omega) rfl (bkE_hire G b i hi_i _) rfl in1 2 (by decide) (xm 4 rfl) (x := .int (v (6 + 2 * i) 2)) rfl dX0_standsAgainst_23 ?_
    refine lv_aload_n hx hb dX0_standsAgainst_26 rfl (lv_at hl 3 rfl) ?_
    refine x_get S hK h_ws 0 (by decide) rfl rfl rfl in6 1 (by decide) (xm 5 rfl) (x := .int (wv 0 1)) rfl dX0_standsAgainst_27 ?_
    refine lv_iand hx hb dX0_standsAgainst_30 ?_
    refine lv_if_eq (tgt := 64) hx hb dX0_standsAgainst_31 (by decide) (fun c_6 => ?_) (fun c_6 => ?_)
    · have hf := (if_pos c_6).symm.trans hf
      refine lv_iconst (v := 0) hx hb dX0_standsAgainst_64 (by decide) ?_
      have q0 := Option.some.inj hf
      subst r0
      subst hQ
      refine x_zret (post := (fun H H1 => H1 = H)) S hr hlocks (by decide) rfl ?_ hL dX0_standsAgainst_65
      exact rfl
    · have hf := (if_neg c_6).symm.trans hf
      refine lv_aload_n hx hb dX0_standsAgainst_34 rfl (lv_at hl 3 rfl) ?_
      refine x_get S hK h_ws 0 (by decide) rfl rfl rfl in6 2 (by decide) (xm 6 rfl) (x := .int (wv 0 2)) rfl dX0_standsAgainst_35 ?_
      refine lv_aload_n hx hb dX0_standsAgainst_38 rfl (lv_at hl 2 rfl) ?_
      refine x_get S hK h_bk (6 + 2 * i) (by omega) rfl (bkE_hire G b i hi_i _) rfl in1 4 (by decide) (xm 7 rfl) (x := .int (v (6 + 2 * i) 4)) rfl dX0_standsAgainst_39 ?_
      refine lv_iload_n hx hb dX0_standsAgainst_42 rfl (lv_at hl 0 rfl) ?_
      refine lv_iadd hx hb dX0_standsAgainst_43 ?_
      refine lv_icmp_ge (tgt := 64) hx hb dX0_standsAgainst_44 (by decide) (fun c_7 => ?_) (fun c_7 => ?_)
      · have hf := (if_pos c_7).symm.trans hf
        refine lv_iconst (v := 0) hx hb dX0_standsAgainst_64 (by decide) ?_
        have q0 := Option.some.inj hf
        subst r0
        subst hQ
        refine x_zret (post := (fun H H1 => H1 = H)) S hr hlocks (by decide) rfl ?_ hL dX0_standsAgainst_65
        exact rfl
      · have hf := (if_neg c_7).symm.trans hf
        refine lv_aload_n hx hb dX0_standsAgainst_47 rfl (lv_at hl 2 rfl) ?_
        refine x_get S hK h_bk (6 + 2 * i) (by omega) rfl (bkE_hire G b i hi_i _) rfl in1 3 (by decide) (xm 8 rfl) (x := .int (v (6 + 2 * i) 3)) rfl dX0_standsAgainst_48 ?_
        refine lv_aload_n hx hb dX0_standsAgainst_51 rfl (lv_at hl 3 rfl) ?_
        refine x_get S hK h_ws 0 (by decide) rfl rfl rfl in6 3 (by decide) (xm 9 rfl) (x := .int (wv 0 3)) rfl dX0_standsAgainst_52 ?_
        refine lv_iload_n hx hb dX0_standsAgainst_55 rfl (lv_at hl 0 rfl) ?_
        refine lv_iadd hx hb dX0_standsAgainst_56 ?_
        refine lv_icmp_ge (tgt := 64) hx hb dX0_standsAgainst_57 (by decide) (fun c_8 => ?_) (fun c_8 => ?_)
        · have hf := (if_pos c_8).symm.trans hf
          refine lv_iconst (v := 0) hx hb dX0_standsAgainst_64 (by decide) ?_
          have q0 := Option.some.inj hf
          subst r0
          subst hQ
          refine x_zret (post := (fun H H1 => H1 = H)) S hr hlocks (by decide) rfl ?_ hL dX0_standsAgainst_65
          exact rfl
        · have hf := (if_neg c_8).symm.trans hf
          refine lv_iconst (v := 1) hx hb dX0_standsAgainst_60 (by decide) ?_
          refine lv_goto (tgt := 65) hx hb dX0_standsAgainst_61 (by decide) ?_
          have q0 := Option.some.inj hf
          subst r0
          subst hQ
          refine x_zret (post := (fun H H1 => H1 = H)) S hr hlocks (by decide) rfl ?_ hL dX0_standsAgainst_65
          exact rfl
set_option maxRecDepth 100000 in
set_option maxHeartbeats 4000000 in
theorem c_X0_clashOn (l : Launch) (G : xG) (z : Nat) (b : Nat) (w : Nat) (v : xV) (wv : xV) (p1 : Int32) (r0 : Int32)  (hf : f_X0_clashOn v wv p1 = some r0) : xM l yX0_clashOn wsX0_clashOn 2 45 G z [.ref b, .int p1, .ref w] (fun H => PX G b 37 (bkE G b) v H ∧ PX G w 1 wsE wv H) (some (.int r0)) (fun H H1 => H1 = H) := by
  refine xM.of (cc := cX0_clashOn) (maxL := 8) (ret := (some .int)) (by decide +kernel) rfl (Nat.le_of_ble_eq_true rfl) ?_
  intro p e s m args below meth c ls Q hQ S hr hlocks hK hP hl
  obtain ⟨hx, hb, hml, hown, hts⟩ := id S
  obtain ⟨h_bk, h_ws⟩ := hP
  have hL : ∀ q ∈ ([] : List Loc), z ≤ q.base := fun q h => absurd h List.not_mem_nil
  have hl : lv_has ls 8 [(0, .ref b), (1, .int p1), (2, .ref w)] := hl
  have in0 : ∀ w ∈ u_ws RX0 TX0 9, w ∈ wsX0_clashOn := fun _ h => List.mem_cons_of_mem _ (List.mem_append_left _ (List.mem_append_left _ (List.mem_append_right _ h)))
  unfold f_X0_clashOn at hf
  refine lv_null hx hb dX0_clashOn_0 ?_
  refine lv_astore_nN (lv' := [(3, .null), (0, .ref b), (1, .int p1), (2, .ref w)]) hx hb dX0_clashOn_1 rfl hl (by decide) rfl (fun ls hl => ?_)
  refine lv_aload_n hx hb dX0_clashOn_2 rfl (lv_at hl 1 rfl) ?_
  refine x_get S hK h_bk 0 (by decide) rfl rfl rfl in0 7 (by decide) (xm 1 rfl) (x := .ref (b + 5)) rfl dX0_clashOn_3 ?_
  refine lv_astore (lv' := [(4, .ref (b + 5)), (3, .null), (0, .ref b), (1, .int p1), (2, .ref w)]) hx hb dX0_clashOn_6 hl (by decide) rfl (fun ls hl => ?_)
  refine lv_aload hx hb dX0_clashOn_8 (lv_at hl 0 rfl) ?_
  refine x_alen S hK h_bk 5 (by decide) rfl rfl 2 rfl (r := 12) rfl dX0_clashOn_10 ?_
  refine lv_istore (lv' := [(5, .int 12), (4, .ref (b + 5)), (3, .null), (0, .ref b), (1, .int p1), (2, .ref w)]) hx hb dX0_clashOn_11 hl (by decide) rfl (fun ls hl => ?_)
  refine lv_iconst (v := 0) hx hb dX0_clashOn_13 (by decide) ?_
  refine lv_istore (lv' := [(6, .int 0), (5, .int 12), (4, .ref (b + 5)), (3, .null), (0, .ref b), (1, .int p1), (2, .ref w)]) hx hb dX0_clashOn_14 hl (by decide) rfl (fun ls hl => ?_)
  have lp_16 : ∀ (K_16 : (Option Nat) → Int32 → Option Int32), (∀ (o_1 : Option Nat) (x_2 : Int32) (locs : List Loc) (ls : Array Slot), (∀ q ∈ locs, z ≤ q.base) → lv_has ls 8 [(0, .ref b), (1, .int p1), (3, (va_rf (Option.map (fun i => b + (6 + 2 * i)) o_1)))] → K_16 o_1 x_2 = some r0 → W p l e { frames := 2, cells := 0, slots := 0, locals := 45 } s m args below meth c s.heap locs 0 0 Q (F0 m 71 ls [])) → ∀ (n : Nat) (o_1 : Option Nat) (x_2 : Int32) (locs : List Loc) (ls : Array Slot), (∀ q ∈ locs, z ≤ q.base) → lv_has ls 8 [(0, .ref b), (1, .int p1), (2, .ref w), (3, (va_rf (Option.map (fun i => b + (6 + 2 * i)) o_1))), (4, .ref (b + 5)), (5, .int 12), (6, .int x_2)] → L_X0_clashOn_16 K_16 v wv p1 n o_1 x_2 = some r0 → W p l e { frames := 2, cells := 0, slots := 0, locals := 45 } s m args below meth c s.heap locs 0 0 Q (F0 m 16 ls []) := by
    intro K_16 hK_16 n
    induction n with
    | zero =>
      intro o_1 x_2 locs ls hL hl hf
      cases hf
    | succ n ih_16 =>
      intro o_1 x_2 locs ls hL hl hf
      unfold L_X0_clashOn_16 at hf
      refine lv_iload hx hb dX0_clashOn_16 (lv_at hl 6 rfl) ?_
      refine lv_iload hx hb dX0_clashOn_18 (lv_at hl 5 rfl) ?_
      refine lv_icmp_ge (tgt := 71) hx hb dX0_clashOn_20 (by decide) (fun c_3 => ?_) (fun c_3 => ?_)
      · have hf := (if_pos c_3).symm.trans hf
        exact hK_16 o_1 x_2 _ _ hL (lv_sub hl [0, 1, 3] rfl) hf
      · have hf := (if_neg c_3).symm.trans hf
        refine lv_aload hx hb dX0_clashOn_23 (lv_at hl 4 rfl) ?_
        refine lv_iload hx hb dX0_clashOn_25 (lv_at hl 6 rfl) ?_
        obtain ⟨g_4, hf⟩ := xg_some hf
        obtain ⟨i_5, ei_5, hf⟩ := xl_some hf
        have hi_i_5 : i_5 < 12 := by rw [ei_5]; exact xin_lt g_4
        refine x_aald S hK h_bk 5 (by decide) rfl rfl 2 rfl i_5 ei_5.symm g_4 (r := (b + (6 + 2 * i_5))) rfl dX0_clashOn_27 ?_
        refine lv_astore (lv' := [(7, .ref (b + (6 + 2 * i_5))), (0, .ref b), (1, .int p1), (2, .ref w), (3, (va_rf (Option.map (fun i => b + (6 + 2 * i)) o_1))), (4, .ref (b + 5)), (5, .int 12), (6, .int x_2)]) hx hb dX0_clashOn_28 hl (by decide) rfl (fun ls hl => ?_)
        refine lv_aload hx hb dX0_clashOn_30 (lv_at hl 0 rfl) ?_
        refine lv_iload_n hx hb dX0_clashOn_32 rfl (lv_at hl 2 rfl) ?_
        obtain ⟨r_6, e_7, hf⟩ := xb_some hf
        refine x_callVi (As := [.int p1]) (rest := []) S hK (c_X1_isOn l G z b v i_5 p1 r_6 hi_i_5 e_7) gX0_clashOn_X1_isOn rfl 1 (by decide +kernel) rfl ⟨Nat.le_of_ble_eq_true rfl, Nat.le_of_ble_eq_true rfl⟩ h_bk (6 + 2 * i_5) (by omega) rfl (bkE_hire G b i_5 hi_i_5 _) rfl h_bk hl.1 rfl (Nat.le_of_ble_eq_true rfl) dX0_clashOn_33 hL ⟨Nat.zero_le _, Nat.zero_le _⟩ (fun H1 locs hL hpost => ?_)
        subst hpost
        refine lv_if_eq (tgt := 65) hx hb dX0_clashOn_36 (by decide) (fun c_8 => ?_) (fun c_8 => ?_)
        · have hf := (if_pos c_8).symm.trans hf
          obtain ⟨x_9, ex_9, hf⟩ := xl_some hf
          refine lv_iinc (v := x_9) (lv' := [(6, .int x_9), (7, .ref (b + (6 + 2 * i_5))), (0, .ref b), (1, .int p1), (2, .ref w), (3, (va_rf (Option.map (fun i => b + (6 + 2 * i)) o_1))), (4, .ref (b + 5)), (5, .int 12)]) hx hb dX0_clashOn_65 hl (k := 7) rfl (by rw [ex_9]; rfl) (by decide) rfl (fun ls hl => ?_)
          refine lv_goto (tgt := 16) hx hb dX0_clashOn_68 (by decide) ?_
          exact ih_16 o_1 x_9 _ _ hL (lv_sub hl [2, 3, 4, 5, 6, 7, 0] rfl) hf
        · have hf := (if_neg c_8).symm.trans hf
          refine lv_aload_n hx hb dX0_clashOn_39 rfl (lv_at hl 1 rfl) ?_
          refine lv_aload hx hb dX0_clashOn_40 (lv_at hl 0 rfl) ?_
          refine lv_aload_n hx hb dX0_clashOn_42 rfl (lv_at hl 3 rfl) ?_
          obtain ⟨r_10, e_11, hf⟩ := xb_some hf
          refine x_callVi (As := [.ref (b + (6 + 2 * i_5)), .ref w]) (rest := []) S hK (c_X0_standsAgainst l G z b w v wv i_5 r_10 hi_i_5 e_11) gX0_clashOn_X0_standsAgainst rfl 2 (by decide +kernel) rfl ⟨Nat.le_of_ble_eq_true rfl, Nat.le_of_ble_eq_true rfl⟩ h_bk 0 (by decide) rfl rfl rfl ⟨h_bk, h_ws⟩ hl.1 rfl (Nat.le_of_ble_eq_true rfl) dX0_clashOn_43 hL ⟨Nat.zero_le _, Nat.zero_le _⟩ (fun H1 locs hL hpost => ?_)
          subst hpost
          refine lv_if_eq (tgt := 65) hx hb dX0_clashOn_46 (by decide) (fun c_12 => ?_) (fun c_12 => ?_)
          · have hf := (if_pos c_12).symm.trans hf
            obtain ⟨x_13, ex_13, hf⟩ := xl_some hf
            refine lv_iinc (v := x_13) (lv' := [(6, .int x_13), (7, .ref (b + (6 + 2 * i_5))), (0, .ref b), (1, .int p1), (2, .ref w), (3, (va_rf (Option.map (fun i => b + (6 + 2 * i)) o_1))), (4, .ref (b + 5)), (5, .int 12)]) hx hb dX0_clashOn_65 hl (k := 7) rfl (by rw [ex_13]; rfl) (by decide) rfl (fun ls hl => ?_)
            refine lv_goto (tgt := 16) hx hb dX0_clashOn_68 (by decide) ?_
            exact ih_16 o_1 x_13 _ _ hL (lv_sub hl [2, 3, 4, 5, 6, 7, 0] rfl) hf
          · have hf := (if_neg c_12).symm.trans hf
            obtain _ | i_14 := o_1
            · have hf := (xo_n _ _).symm.trans hf
              refine lv_aload_nN hx hb dX0_clashOn_49 rfl (lv_at hl 4 rfl) ?_
              refine lv_ifnullN (tgt := 62) hx hb dX0_clashOn_50 (by decide) ?_
              refine lv_aload hx hb dX0_clashOn_62 (lv_at hl 0 rfl) ?_
              refine lv_astore_n (lv' := [(3, .ref (b + (6 + 2 * i_5))), (7, .ref (b + (6 + 2 * i_5))), (0, .ref b), (1, .int p1), (2, .ref w), (4, .ref (b + 5)), (5, .int 12), (6, .int x_2)]) hx hb dX0_clashOn_64 rfl hl (by decide) rfl (fun ls hl => ?_)
              obtain ⟨x_15, ex_15, hf⟩ := xl_some hf
              refine lv_iinc (v := x_15) (lv' := [(6, .int x_15), (3, .ref (b + (6 + 2 * i_5))), (7, .ref (b + (6 + 2 * i_5))), (0, .ref b), (1, .int p1), (2, .ref w), (4, .ref (b + 5)), (5, .int 12)]) hx hb dX0_clashOn_65 hl (k := 7) rfl (by rw [ex_15]; rfl) (by decide) rfl (fun ls hl => ?_)
              refine lv_goto (tgt := 16) hx hb dX0_clashOn_68 (by decide) ?_
              exact ih_16 (some i_5) x_15 _ _ hL (lv_sub hl [3, 4, 5, 1, 6, 7, 0] rfl) hf
            · have hf := (xo_s _ _ _).symm.trans hf
              obtain ⟨hi_i_14, hf⟩ := xg_some hf
              refine lv_aload_n hx hb dX0_clashOn_49 rfl (lv_at hl 4 rfl) ?_
              refine lv_ifnull hx hb dX0_clashOn_50 ?_
              refine lv_aload hx hb dX0_clashOn_53 (lv_at hl 0 rfl) ?_
              refine lv_aload_n hx hb dX0_clashOn_55 rfl (lv_at hl 4 rfl) ?_
              obtain ⟨r_16, e_17, hf⟩ := xb_some hf
              refine x_callVi (As := [.ref (b + (6 + 2 * i_14))]) (rest := []) S hK (c_X1_isAheadOnDay l G z b v i_5 i_14 r_16 hi_i_5 hi_i_14 e_17) gX0_clashOn_X1_isAheadOnDay rfl 1 (by decide +kernel) rfl ⟨Nat.le_of_ble_eq_true rfl, Nat.le_of_ble_eq_true rfl⟩ h_bk (6 + 2 * i_5) (by omega) rfl (bkE_hire G b i_5 hi_i_5 _) rfl h_bk hl.1 rfl (Nat.le_of_ble_eq_true rfl) dX0_clashOn_56 hL ⟨Nat.zero_le _, Nat.zero_le _⟩ (fun H1 locs hL hpost => ?_)
              subst hpost
              refine lv_if_eq (tgt := 65) hx hb dX0_clashOn_59 (by decide) (fun c_18 => ?_) (fun c_18 => ?_)
              · have hf := (if_pos c_18).symm.trans hf
                obtain ⟨x_19, ex_19, hf⟩ := xl_some hf
                refine lv_iinc (v := x_19) (lv' := [(6, .int x_19), (7, .ref (b + (6 + 2 * i_5))), (0, .ref b), (1, .int p1), (2, .ref w), (3, .ref (b + (6 + 2 * i_14))), (4, .ref (b + 5)), (5, .int 12)]) hx hb dX0_clashOn_65 hl (k := 7) rfl (by rw [ex_19]; rfl) (by decide) rfl (fun ls hl => ?_)
                refine lv_goto (tgt := 16) hx hb dX0_clashOn_68 (by decide) ?_
                exact ih_16 (some i_14) x_19 _ _ hL (lv_sub hl [2, 3, 4, 5, 6, 7, 0] rfl) hf
              · have hf := (if_neg c_18).symm.trans hf
                refine lv_aload hx hb dX0_clashOn_62 (lv_at hl 0 rfl) ?_
                refine lv_astore_n (lv' := [(3, .ref (b + (6 + 2 * i_5))), (7, .ref (b + (6 + 2 * i_5))), (0, .ref b), (1, .int p1), (2, .ref w), (4, .ref (b + 5)), (5, .int 12), (6, .int x_2)]) hx hb dX0_clashOn_64 rfl hl (by decide) rfl (fun ls hl => ?_)
                obtain ⟨x_20, ex_20, hf⟩ := xl_some hf
                refine lv_iinc (v := x_20) (lv' := [(6, .int x_20), (3, .ref (b + (6 + 2 * i_5))), (7, .ref (b + (6 + 2 * i_5))), (0, .ref b), (1, .int p1), (2, .ref w), (4, .ref (b + 5)), (5, .int 12)]) hx hb dX0_clashOn_65 hl (k := 7) rfl (by rw [ex_20]; rfl) (by decide) rfl (fun ls hl => ?_)
                refine lv_goto (tgt := 16) hx hb dX0_clashOn_68 (by decide) ?_
                exact ih_16 (some i_5) x_20 _ _ hL (lv_sub hl [3, 4, 5, 1, 6, 7, 0] rfl) hf
  refine lp_16 _ (fun o_21 x_22 locs ls hL hl hf => ?_) 100000 none 0 _ _ hL (lv_sub hl [4, 5, 6, 3, 2, 1, 0] rfl) hf
  obtain _ | i_23 := o_21
  · have hf := (xo_n _ _).symm.trans hf
    refine lv_aload_nN hx hb dX0_clashOn_71 rfl (lv_at hl 2 rfl) ?_
    refine lv_ifnonnullN hx hb dX0_clashOn_72 ?_
    refine lv_iconst (v := (-1)) hx hb dX0_clashOn_75 (by decide) ?_
    refine lv_goto (tgt := 85) hx hb dX0_clashOn_76 (by decide) ?_
    have q0 := Option.some.inj hf
    subst r0
    subst hQ
    refine x_iret (post := (fun H H1 => H1 = H)) S hr hlocks rfl ?_ hL dX0_clashOn_85
    exact rfl
  · have hf := (xo_s _ _ _).symm.trans hf
    obtain ⟨hi_i_23, hf⟩ := xg_some hf
    refine lv_aload_n hx hb dX0_clashOn_71 rfl (lv_at hl 2 rfl) ?_
    refine lv_ifnonnull (tgt := 79) hx hb dX0_clashOn_72 (by decide) ?_
    refine lv_aload_n hx hb dX0_clashOn_79 rfl (lv_at hl 0 rfl) ?_
    refine lv_aload_n hx hb dX0_clashOn_80 rfl (lv_at hl 2 rfl) ?_
    refine lv_iload_n hx hb dX0_clashOn_81 rfl (lv_at hl 1 rfl) ?_
    obtain ⟨r_24, e_25, hf⟩ := xb_some hf
    refine x_callVi (As := [.ref (b + (6 + 2 * i_23)), .int p1]) (rest := []) S hK (c_X0_sessionNumber l G z b v i_23 p1 r_24 hi_i_23 e_25) gX0_clashOn_X0_sessionNumber rfl 2 (by decide +kernel) rfl ⟨Nat.le_of_ble_eq_true rfl, Nat.le_of_ble_eq_true rfl⟩ h_bk 0 (by decide) rfl rfl rfl h_bk hl.1 rfl (Nat.le_of_ble_eq_true rfl) dX0_clashOn_82 hL ⟨Nat.zero_le _, Nat.zero_le _⟩ (fun H1 locs hL hpost => ?_)
    subst hpost
    have q0 := Option.some.inj hf
    subst r0
    subst hQ
    refine x_iret (post := (fun H H1 => H1 = H)) S hr hlocks rfl ?_ hL dX0_clashOn_85
    exact rfl
set_option maxRecDepth 100000 in
set_option maxHeartbeats 4000000 in
theorem c_X0_clashOf (l : Launch) (G : xG) (z : Nat) (b : Nat) (w : Nat) (v : xV) (wv : xV) (r0 : Int32)  (hf : f_X0_clashOf v wv = some r0) : xM l yX0_clashOf wsX0_clashOf 3 72 G z [.ref b, .ref w] (fun H => PX G b 37 (bkE G b) v H ∧ PX G w 1 wsE wv H) (some (.int r0)) (fun H H1 => H1 = H) := by
  refine xM.of (cc := cX0_clashOf) (maxL := 4) (ret := (some .int)) (by decide +kernel) rfl (Nat.le_of_ble_eq_true rfl) ?_
  intro p e s m args below meth c ls Q hQ S hr hlocks hK hP hl
  obtain ⟨hx, hb, hml, hown, hts⟩ := id S
  obtain ⟨h_bk, h_ws⟩ := hP
  have hL : ∀ q ∈ ([] : List Loc), z ≤ q.base := fun q h => absurd h List.not_mem_nil
  have hl : lv_has ls 4 [(0, .ref b), (1, .ref w)] := hl
  have in6 : ∀ w ∈ u_ws RX6 TX6 7, w ∈ wsX0_clashOf := fun _ h => List.mem_cons_of_mem _ (List.mem_append_left _ (List.mem_append_left _ (List.mem_append_right _ h)))
  unfold f_X0_clashOf at hf
  refine lv_iconst (v := 0) hx hb dX0_clashOf_0 (by decide) ?_
  refine lv_istore_n (lv' := [(2, .int 0), (0, .ref b), (1, .ref w)]) hx hb dX0_clashOf_1 rfl hl (by decide) rfl (fun ls hl => ?_)
  have lp_2 : ∀ (K_2 : Int32 → Option Int32), (∀ (x_1 : Int32) (locs : List Loc) (ls : Array Slot), (∀ q ∈ locs, z ≤ q.base) → lv_has ls 4 [] → K_2 x_1 = some r0 → W p l e { frames := 3, cells := 0, slots := 0, locals := 72 } s m args below meth c s.heap locs 0 0 Q (F0 m 40 ls [])) → ∀ (n : Nat) (x_1 : Int32) (locs : List Loc) (ls : Array Slot), (∀ q ∈ locs, z ≤ q.base) → lv_has ls 4 [(0, .ref b), (1, .ref w), (2, .int x_1)] → L_X0_clashOf_2 K_2 v wv n x_1 = some r0 → W p l e { frames := 3, cells := 0, slots := 0, locals := 72 } s m args below meth c s.heap locs 0 0 Q (F0 m 2 ls []) := by
    intro K_2 hK_2 n
    induction n with
    | zero =>
      intro x_1 locs ls hL hl hf
      cases hf
    | succ n ih_2 =>
      intro x_1 locs ls hL hl hf
      unfold L_X0_clashOf_2 at hf
      refine lv_iload_n hx hb dX0_clashOf_2 rfl (lv_at hl 2 rfl) ?_
      refine lv_aload_n hx hb dX0_clashOf_3 rfl (lv_at hl 1 rfl) ?_
      refine x_get S hK h_ws 0 (by decide) rfl rfl rfl in6 5 (by decide) (xm 1 rfl) (x := .int (wv 0 5)) rfl dX0_clashOf_4 ?_
      refine lv_icmp_ge (tgt := 40) hx hb dX0_clashOf_7 (by decide) (fun c_2 => ?_) (fun c_2 => ?_)
      · have hf := (if_pos c_2).symm.trans hf
        exact hK_2 x_1 _ _ hL (lv_sub hl [] rfl) hf
      · have hf := (if_neg c_2).symm.trans hf
        refine lv_aload_n hx hb dX0_clashOf_10 rfl (lv_at hl 0 rfl) ?_
        refine lv_aload_n hx hb dX0_clashOf_11 rfl (lv_at hl 1 rfl) ?_
        refine x_get S hK h_ws 0 (by decide) rfl rfl rfl in6 4 (by decide) (xm 2 rfl) (x := .int (wv 0 4)) rfl dX0_clashOf_12 ?_
        refine lv_iload_n hx hb dX0_clashOf_15 rfl (lv_at hl 2 rfl) ?_
        refine lv_aload_n hx hb dX0_clashOf_16 rfl (lv_at hl 1 rfl) ?_
        refine x_get S hK h_ws 0 (by decide) rfl rfl rfl in6 6 (by decide) (xm 3 rfl) (x := .int (wv 0 6)) rfl dX0_clashOf_17 ?_
        refine lv_imul hx hb dX0_clashOf_20 ?_
        refine lv_iadd hx hb dX0_clashOf_21 ?_
        refine lv_aload_n hx hb dX0_clashOf_22 rfl (lv_at hl 1 rfl) ?_
        obtain ⟨r_3, e_4, hf⟩ := xb_some hf
        refine x_callVi (As := [.int ((wv 0 4) + (x_1 * (wv 0 6))), .ref w]) (rest := []) S hK (c_X0_clashOn l G z b w v wv ((wv 0 4) + (x_1 * (wv 0 6))) r_3 e_4) gX0_clashOf_X0_clashOn rfl 2 (by decide +kernel) rfl ⟨Nat.le_of_ble_eq_true rfl, Nat.le_of_ble_eq_true rfl⟩ h_bk 0 (by decide) rfl rfl rfl ⟨h_bk, h_ws⟩ hl.1 rfl (Nat.le_of_ble_eq_true rfl) dX0_clashOf_23 hL ⟨Nat.zero_le _, Nat.zero_le _⟩ (fun H1 locs hL hpost => ?_)
        subst hpost
        refine lv_istore_n (lv' := [(3, .int r_3), (0, .ref b), (1, .ref w), (2, .int x_1)]) hx hb dX0_clashOf_26 rfl hl (by decide) rfl (fun ls hl => ?_)
        refine lv_iload_n hx hb dX0_clashOf_27 rfl (lv_at hl 0 rfl) ?_
        refine lv_iconst (v := (-1)) hx hb dX0_clashOf_28 (by decide) ?_
        refine lv_icmp_eq (tgt := 34) hx hb dX0_clashOf_29 (by decide) (fun c_5 => ?_) (fun c_5 => ?_)
        · have hf := (if_pos c_5).symm.trans hf
          obtain ⟨x_6, ex_6, hf⟩ := xl_some hf
          refine lv_iinc (v := x_6) (lv' := [(2, .int x_6), (3, .int r_3), (0, .ref b), (1, .ref w)]) hx hb dX0_clashOf_34 hl (k := 3) rfl (by rw [ex_6]; rfl) (by decide) rfl (fun ls hl => ?_)
          refine lv_goto (tgt := 2) hx hb dX0_clashOf_37 (by decide) ?_
          exact ih_2 x_6 _ _ hL (lv_sub hl [2, 3, 0] rfl) hf
        · have hf := (if_neg c_5).symm.trans hf
          refine lv_iload_n hx hb dX0_clashOf_32 rfl (lv_at hl 0 rfl) ?_
          have q0 := Option.some.inj hf
          subst r0
          subst hQ
          refine x_iret (post := (fun H H1 => H1 = H)) S hr hlocks rfl ?_ hL dX0_clashOf_33
          exact rfl
  refine lp_2 _ (fun x_7 locs ls hL hl hf => ?_) 100000 0 _ _ hL (lv_sub hl [1, 2, 0] rfl) hf
  refine lv_iconst (v := (-1)) hx hb dX0_clashOf_40 (by decide) ?_
  have q0 := Option.some.inj hf
  subst r0
  subst hQ
  refine x_iret (post := (fun H H1 => H1 = H)) S hr hlocks rfl ?_ hL dX0_clashOf_41
  exact rfl
set_option maxRecDepth 100000 in
set_option maxHeartbeats 4000000 in
theorem c_X1_copyFrom (l : Launch) (G : xG) (z : Nat) (b : Nat) (o : Nat) (v : xV) (ov : xV) (i : Nat) (j : Nat) (v' : xV) (hz_bk : z ≤ b) (hi_i : i < 12) (hi_j : j < 12) (dj_bk_ok : b + 37 ≤ o ∨ o + 37 ≤ b) (hf : f_X1_copyFrom v ov i j = some v') : xM l yX1_copyFrom wsX1_copyFrom 1 40 G z [.ref (b + (6 + 2 * i)), .ref (o + (6 + 2 * j))] (fun H => PX G b 37 (bkE G b) v H ∧ PX G o 37 (bkE G o) ov H) none (fun H H1 => PX G b 37 (bkE G b) v' H1 ∧ XF (fun q => (b ≤ q ∧ q < b + 37)) H H1) := by
  refine xM.of (cc := cX1_copyFrom) (maxL := 2) (ret := none) (by decide +kernel) rfl (Nat.le_of_ble_eq_true rfl) ?_
  intro p e s m args below meth c ls Q hQ S hr hlocks hK hP hl
  obtain ⟨hx, hb, hml, hown, hts⟩ := id S
  obtain ⟨h_bk, h_ok⟩ := hP
  have hL : ∀ q ∈ ([] : List Loc), z ≤ q.base := fun q h => absurd h List.not_mem_nil
  have hF : XF (fun q => (b ≤ q ∧ q < b + 37)) s.heap s.heap := XF.rf
  have hl : lv_has ls 2 [(0, .ref (b + (6 + 2 * i))), (1, .ref (o + (6 + 2 * j)))] := hl
  have in1 : ∀ w ∈ u_ws RX1 TX1 15, w ∈ wsX1_copyFrom := fun _ h => List.mem_cons_of_mem _ (List.mem_append_right _ h)
  unfold f_X1_copyFrom at hf
  refine lv_aload_n hx hb dX1_copyFrom_0 rfl (lv_at hl 0 rfl) ?_
  refine lv_aload_n hx hb dX1_copyFrom_1 rfl (lv_at hl 1 rfl) ?_
  refine x_get S hK h_ok (6 + 2 * j) (by omega) rfl (bkE_hire G o j hi_j _) rfl in1 1 (by decide) (xm 1 rfl) (x := .int (ov (6 + 2 * j) 1)) rfl dX1_copyFrom_2 ?_
  obtain ⟨v_1, ev_1, hf⟩ := xl_some hf
  refine x_put S hK h_bk hz_bk hL (6 + 2 * i) (by omega) rfl (bkE_hire G b i hi_i _) rfl in1 tyX1 tyX1_ok nmX1 1 (by decide) (xm 1 rfl) rfl (vp_nar_int _) rfl (Nat.le_of_ble_eq_true rfl) (bkE_hire G b i hi_i _) ev_1 dX1_copyFrom_5 (fun H1 locs hL h_bk hfr => ?_)
  have h_ok := h_ok.kept hfr (fun q h1 h2 h3 => by (try dsimp only at h3); omega)
  have hF := hF.step hfr (fun q h => by (try dsimp only at h ⊢); omega)
  refine lv_aload_n hx hb dX1_copyFrom_8 rfl (lv_at hl 0 rfl) ?_
  refine lv_aload_n hx hb dX1_copyFrom_9 rfl (lv_at hl 1 rfl) ?_
  refine x_get S hK h_ok (6 + 2 * j) (by omega) rfl (bkE_hire G o j hi_j _) rfl in1 2 (by decide) (xm 2 rfl) (x := .int (ov (6 + 2 * j) 2)) rfl dX1_copyFrom_10 ?_
  obtain ⟨v_2, ev_2, hf⟩ := xl_some hf
  refine x_put S hK h_bk hz_bk hL (6 + 2 * i) (by omega) rfl (bkE_hire G b i hi_i _) rfl in1 tyX1 tyX1_ok nmX1 2 (by decide) (xm 2 rfl) rfl (vp_nar_int _) rfl (Nat.le_of_ble_eq_true rfl) (bkE_hire G b i hi_i _) ev_2 dX1_copyFrom_13 (fun H1 locs hL h_bk hfr => ?_)
  have h_ok := h_ok.kept hfr (fun q h1 h2 h3 => by (try dsimp only at h3); omega)
  have hF := hF.step hfr (fun q h => by (try dsimp only at h ⊢); omega)
  refine lv_aload_n hx hb dX1_copyFrom_16 rfl (lv_at hl 0 rfl) ?_
  refine lv_aload_n hx hb dX1_copyFrom_17 rfl (lv_at hl 1 rfl) ?_
  refine x_get S hK h_ok (6 + 2 * j) (by omega) rfl (bkE_hire G o j hi_j _) rfl in1 3 (by decide) (xm 3 rfl) (x := .int (ov (6 + 2 * j) 3)) rfl dX1_copyFrom_18 ?_
  obtain ⟨v_3, ev_3, hf⟩ := xl_some hf
  refine x_put S hK h_bk hz_bk hL (6 + 2 * i) (by omega) rfl (bkE_hire G b i hi_i _) rfl in1 tyX1 tyX1_ok nmX1 3 (by decide) (xm 3 rfl) rfl (vp_nar_int _) rfl (Nat.le_of_ble_eq_true rfl) (bkE_hire G b i hi_i _) ev_3 dX1_copyFrom_21 (fun H1 locs hL h_bk hfr => ?_)
  have h_ok := h_ok.kept hfr (fun q h1 h2 h3 => by (try dsimp only at h3); omega)
  have hF := hF.step hfr (fun q h => by (try dsimp only at h ⊢); omega)
  refine lv_aload_n hx hb dX1_copyFrom_24 rfl (lv_at hl 0 rfl) ?_
  refine lv_aload_n hx hb dX1_copyFrom_25 rfl (lv_at hl 1 rfl) ?_
  refine x_get S hK h_ok (6 + 2 * j) (by omega) rfl (bkE_hire G o j hi_j _) rfl in1 4 (by decide) (xm 4 rfl) (x := .int (ov (6 + 2 * j) 4)) rfl dX1_copyFrom_26 ?_
  obtain ⟨v_4, ev_4, hf⟩ := xl_some hf
  refine x_put S hK h_bk hz_bk hL (6 + 2 * i) (by omega) rfl (bkE_hire G b i hi_i _) rfl in1 tyX1 tyX1_ok nmX1 4 (by decide) (xm 4 rfl) rfl (vp_nar_int _) rfl (Nat.le_of_ble_eq_true rfl) (bkE_hire G b i hi_i _) ev_4 dX1_copyFrom_29 (fun H1 locs hL h_bk hfr => ?_)
  have h_ok := h_ok.kept hfr (fun q h1 h2 h3 => by (try dsimp only at h3); omega)
  have hF := hF.step hfr (fun q h => by (try dsimp only at h ⊢); omega)
  refine lv_aload_n hx hb dX1_copyFrom_32 rfl (lv_at hl 0 rfl) ?_
  refine lv_aload_n hx hb dX1_copyFrom_33 rfl (lv_at hl 1 rfl) ?_
  refine x_get S hK h_ok (6 + 2 * j) (by omega) rfl (bkE_hire G o j hi_j _) rfl in1 5 (by decide) (xm 5 rfl) (x := .int (ov (6 + 2 * j) 5)) rfl dX1_copyFrom_34 ?_
  obtain ⟨v_5, ev_5, hf⟩ := xl_some hf
  refine x_put S hK h_bk hz_bk hL (6 + 2 * i) (by omega) rfl (bkE_hire G b i hi_i _) rfl in1 tyX1 tyX1_ok nmX1 5 (by decide) (xm 5 rfl) rfl (vp_nar_int _) rfl (Nat.le_of_ble_eq_true rfl) (bkE_hire G b i hi_i _) ev_5 dX1_copyFrom_37 (fun H1 locs hL h_bk hfr => ?_)
  have h_ok := h_ok.kept hfr (fun q h1 h2 h3 => by (try dsimp only at h3); omega)
  have hF := hF.step hfr (fun q h => by (try dsimp only at h ⊢); omega)
  refine lv_aload_n hx hb dX1_copyFrom_40 rfl (lv_at hl 0 rfl) ?_
  refine lv_aload_n hx hb dX1_copyFrom_41 rfl (lv_at hl 1 rfl) ?_
  refine x_get S hK h_ok (6 + 2 * j) (by omega) rfl (bkE_hire G o j hi_j _) rfl in1 6 (by decide) (xm 6 rfl) (x := .int (ov (6 + 2 * j) 6)) rfl dX1_copyFrom_42 ?_
  obtain ⟨v_6, ev_6, hf⟩ := xl_some hf
  refine x_put S hK h_bk hz_bk hL (6 + 2 * i) (by omega) rfl (bkE_hire G b i hi_i _) rfl in1 tyX1 tyX1_ok nmX1 6 (by decide) (xm 6 rfl) rfl (vp_nar_int _) rfl (Nat.le_of_ble_eq_true rfl) (bkE_hire G b i hi_i _) ev_6 dX1_copyFrom_45 (fun H1 locs hL h_bk hfr => ?_)
  have h_ok := h_ok.kept hfr (fun q h1 h2 h3 => by (try dsimp only at h3); omega)
  have hF := hF.step hfr (fun q h => by (try dsimp only at h ⊢); omega)
  refine lv_aload_n hx hb dX1_copyFrom_48 rfl (lv_at hl 0 rfl) ?_
  refine lv_aload_n hx hb dX1_copyFrom_49 rfl (lv_at hl 1 rfl) ?_
  refine x_get S hK h_ok (6 + 2 * j) (by omega) rfl (bkE_hire G o j hi_j _) rfl in1 7 (by decide) (xm 7 rfl) (x := .int (ov (6 + 2 * j) 7)) rfl dX1_copyFrom_50 ?_
  obtain ⟨v_7, ev_7, hf⟩ := xl_some hf
  refine x_put S hK h_bk hz_bk hL (6 + 2 * i) (by omega) rfl (bkE_hire G b i hi_i _) rfl in1 tyX1 tyX1_ok nmX1 7 (by decide) (xm 7 rfl) rfl (vp_nar_int _) rfl (Nat.le_of_ble_eq_true rfl) (bkE_hire G b i hi_i _) ev_7 dX1_copyFrom_53 (fun H1 locs hL h_bk hfr => ?_)
  have h_ok := h_ok.kept hfr (fun q h1 h2 h3 => by (try dsimp only at h3); omega)
  have hF := hF.step hfr (fun q h => by (try dsimp only at h ⊢); omega)
  refine lv_aload_n hx hb dX1_copyFrom_56 rfl (lv_at hl 0 rfl) ?_
  refine lv_aload_n hx hb dX1_copyFrom_57 rfl (lv_at hl 1 rfl) ?_
  refine x_get S hK h_ok (6 + 2 * j) (by omega) rfl (bkE_hire G o j hi_j _) rfl in1 8 (by decide) (xm 8 rfl) (x := .int (ov (6 + 2 * j) 8)) rfl dX1_copyFrom_58 ?_
  obtain ⟨v_8, ev_8, hf⟩ := xl_some hf
  refine x_put S hK h_bk hz_bk hL (6 + 2 * i) (by omega) rfl (bkE_hire G b i hi_i _) rfl in1 tyX1 tyX1_ok nmX1 8 (by decide) (xm 8 rfl) rfl (vp_nar_int _) rfl (Nat.le_of_ble_eq_true rfl) (bkE_hire G b i hi_i _) ev_8 dX1_copyFrom_61 (fun H1 locs hL h_bk hfr => ?_)
  have h_ok := h_ok.kept hfr (fun q h1 h2 h3 => by (try dsimp only at h3); omega)
  have hF := hF.step hfr (fun q h => by (try dsimp only at h ⊢); omega)
  refine lv_aload_n hx hb dX1_copyFrom_64 rfl (lv_at hl 0 rfl) ?_
  refine lv_aload_n hx hb dX1_copyFrom_65 rfl (lv_at hl 1 rfl) ?_
  refine x_get S hK h_ok (6 + 2 * j) (by omega) rfl (bkE_hire G o j hi_j _) rfl in1 9 (by decide) (xm 9 rfl) (x := .int (ov (6 + 2 * j) 9)) rfl dX1_copyFrom_66 ?_
  obtain ⟨v_9, ev_9, hf⟩ := xl_some hf
  refine x_put S hK h_bk hz_bk hL (6 + 2 * i) (by omega) rfl (bkE_hire G b i hi_i _) rfl in1 tyX1 tyX1_ok nmX1 9 (by decide) (xm 9 rfl) rfl (vp_nar_int _) rfl (Nat.le_of_ble_eq_true rfl) (bkE_hire G b i hi_i _) ev_9 dX1_copyFrom_69 (fun H1 locs hL h_bk hfr => ?_)
  have h_ok := h_ok.kept hfr (fun q h1 h2 h3 => by (try dsimp only at h3); omega)
  have hF := hF.step hfr (fun q h => by (try dsimp only at h ⊢); omega)
  refine lv_aload_n hx hb dX1_copyFrom_72 rfl (lv_at hl 0 rfl) ?_
  refine lv_aload_n hx hb dX1_copyFrom_73 rfl (lv_at hl 1 rfl) ?_
  refine x_get S hK h_ok (6 + 2 * j) (by omega) rfl (bkE_hire G o j hi_j _) rfl in1 10 (by decide) (xm 10 rfl) (x := .int (ov (6 + 2 * j) 10)) rfl dX1_copyFrom_74 ?_
  obtain ⟨v_10, ev_10, hf⟩ := xl_some hf
  refine x_put S hK h_bk hz_bk hL (6 + 2 * i) (by omega) rfl (bkE_hire G b i hi_i _) rfl in1 tyX1 tyX1_ok nmX1 10 (by decide) (xm 10 rfl) rfl (vp_nar_int _) rfl (Nat.le_of_ble_eq_true rfl) (bkE_hire G b i hi_i _) ev_10 dX1_copyFrom_77 (fun H1 locs hL h_bk hfr => ?_)
  have h_ok := h_ok.kept hfr (fun q h1 h2 h3 => by (try dsimp only at h3); omega)
  have hF := hF.step hfr (fun q h => by (try dsimp only at h ⊢); omega)
  refine lv_aload_n hx hb dX1_copyFrom_80 rfl (lv_at hl 0 rfl) ?_
  refine lv_aload_n hx hb dX1_copyFrom_81 rfl (lv_at hl 1 rfl) ?_
  refine x_get S hK h_ok (6 + 2 * j) (by omega) rfl (bkE_hire G o j hi_j _) rfl in1 11 (by decide) (xm 11 rfl) (x := .int (ov (6 + 2 * j) 11)) rfl dX1_copyFrom_82 ?_
  obtain ⟨v_11, ev_11, hf⟩ := xl_some hf
  refine x_put S hK h_bk hz_bk hL (6 + 2 * i) (by omega) rfl (bkE_hire G b i hi_i _) rfl in1 tyX1 tyX1_ok nmX1 11 (by decide) (xm 11 rfl) rfl (vp_nar_int _) rfl (Nat.le_of_ble_eq_true rfl) (bkE_hire G b i hi_i _) ev_11 dX1_copyFrom_85 (fun H1 locs hL h_bk hfr => ?_)
  have h_ok := h_ok.kept hfr (fun q h1 h2 h3 => by (try dsimp only at h3); omega)
  have hF := hF.step hfr (fun q h => by (try dsimp only at h ⊢); omega)
  refine lv_aload_n hx hb dX1_copyFrom_88 rfl (lv_at hl 0 rfl) ?_
  refine lv_aload_n hx hb dX1_copyFrom_89 rfl (lv_at hl 1 rfl) ?_
  refine x_get S hK h_ok (6 + 2 * j) (by omega) rfl (bkE_hire G o j hi_j _) rfl in1 12 (by decide) (xm 12 rfl) (x := .int (ov (6 + 2 * j) 12)) rfl dX1_copyFrom_90 ?_
  obtain ⟨v_12, ev_12, hf⟩ := xl_some hf
  refine x_put S hK h_bk hz_bk hL (6 + 2 * i) (by omega) rfl (bkE_hire G b i hi_i _) rfl in1 tyX1 tyX1_ok nmX1 12 (by decide) (xm 12 rfl) rfl (vp_nar_int _) rfl (Nat.le_of_ble_eq_true rfl) (bkE_hire G b i hi_i _) ev_12 dX1_copyFrom_93 (fun H1 locs hL h_bk hfr => ?_)
  have h_ok := h_ok.kept hfr (fun q h1 h2 h3 => by (try dsimp only at h3); omega)
  have hF := hF.step hfr (fun q h => by (try dsimp only at h ⊢); omega)
  refine lv_aload_n hx hb dX1_copyFrom_96 rfl (lv_at hl 0 rfl) ?_
  refine lv_aload_n hx hb dX1_copyFrom_97 rfl (lv_at hl 1 rfl) ?_
  refine x_get S hK h_ok (6 + 2 * j) (by omega) rfl (bkE_hire G o j hi_j _) rfl in1 13 (by decide) (xm 13 rfl) (x := .int (ov (6 + 2 * j) 13)) rfl dX1_copyFrom_98 ?_
  obtain ⟨g_13, hf⟩ := xg_some hf
  obtain ⟨v_14, ev_14, hf⟩ := xl_some hf
  refine x_put S hK h_bk hz_bk hL (6 + 2 * i) (by omega) rfl (bkE_hire G b i hi_i _) rfl in1 tyX1 tyX1_ok nmX1 13 (by decide) (xm 13 rfl) rfl (by rcases g_13 with h9 | h9 <;> rw [h9] <;> rfl) (by rcases g_13 with h9 | h9 <;> rw [h9] <;> rfl) (Nat.le_of_ble_eq_true rfl) (bkE_hire G b i hi_i _) ev_14 dX1_copyFrom_101 (fun H1 locs hL h_bk hfr => ?_)
  have h_ok := h_ok.kept hfr (fun q h1 h2 h3 => by (try dsimp only at h3); omega)
  have hF := hF.step hfr (fun q h => by (try dsimp only at h ⊢); omega)
  refine lv_aload_n hx hb dX1_copyFrom_104 rfl (lv_at hl 1 rfl) ?_
  refine x_get S hK h_ok (6 + 2 * j) (by omega) rfl (bkE_hire G o j hi_j _) rfl in1 14 (by decide) (xm 14 rfl) (x := .ref (o + (7 + 2 * j))) rfl dX1_copyFrom_105 ?_
  refine lv_iconst (v := 0) hx hb dX1_copyFrom_108 (by decide) ?_
  refine lv_aload_n hx hb dX1_copyFrom_109 rfl (lv_at hl 0 rfl) ?_
  refine x_get S hK h_bk (6 + 2 * i) (by omega) rfl (bkE_hire G b i hi_i _) rfl in1 14 (by decide) (xm 14 rfl) (x := .ref (b + (7 + 2 * i))) rfl dX1_copyFrom_110 ?_
  refine lv_iconst (v := 0) hx hb dX1_copyFrom_113 (by decide) ?_
  refine lv_aload_n hx hb dX1_copyFrom_114 rfl (lv_at hl 0 rfl) ?_
  refine x_get S hK h_bk (6 + 2 * i) (by omega) rfl (bkE_hire G b i hi_i _) rfl in1 14 (by decide) (xm 14 rfl) (x := .ref (b + (7 + 2 * i))) rfl dX1_copyFrom_115 ?_
  refine x_alen S hK h_bk (7 + 2 * i) (by omega) rfl (bkE_frow G b i hi_i _) 0 rfl (r := 32) rfl dX1_copyFrom_118 ?_
  obtain ⟨v_15, ev_15, hf⟩ := xl_some hf
  refine x_copy S hK h_bk h_ok hz_bk hL (7 + 2 * i) (by omega) rfl (by omega) rfl (bkE_frow G b i hi_i _) (bkE_frow G o j hi_j _) (by decide) (by decide) (by omega) (xm 15 rfl) (xm 16 rfl) (xm 17 rfl) (xm 18 rfl) (w := (fun j9 => if j9 < 32 then ov (7 + 2 * j) j9 else v_14 (7 + 2 * i) j9)) rfl (bkE_frow G b i hi_i _) ev_15 hl.1 (Nat.le_of_ble_eq_true rfl) (Nat.le_of_ble_eq_true rfl) dX1_copyFrom_119 (fun H1 locs hL h_bk hfr => ?_)
  have h_ok := h_ok.kept hfr (fun q h1 h2 h3 => by (try dsimp only at h3); omega)
  have hF := hF.step hfr (fun q h => by (try dsimp only at h ⊢); omega)
  have q0 := Option.some.inj hf
  subst v'
  subst hQ
  refine x_vret (post := (fun H H1 => PX G b 37 (bkE G b) v_15 H1 ∧ XF (fun q => (b ≤ q ∧ q < b + 37)) H H1)) S hr hlocks rfl ?_ hL dX1_copyFrom_122
  exact ⟨h_bk, hF⟩
set_option maxRecDepth 100000 in
set_option maxHeartbeats 4000000 in
theorem c_X3_copyFrom (l : Launch) (G : xG) (z : Nat) (b : Nat) (o : Nat) (v : xV) (ov : xV) (i : Nat) (j : Nat) (v' : xV) (hz_bk : z ≤ b) (hi_i : i < 6) (hi_j : j < 6) (dj_bk_ok : b + 37 ≤ o ∨ o + 37 ≤ b) (hf : f_X3_copyFrom v ov i j = some v') : xM l yX3_copyFrom wsX3_copyFrom 0 0 G z [.ref (b + (31 + i)), .ref (o + (31 + j))] (fun H => PX G b 37 (bkE G b) v H ∧ PX G o 37 (bkE G o) ov H) none (fun H H1 => PX G b 37 (bkE G b) v' H1 ∧ XF (fun q => (b ≤ q ∧ q < b + 37)) H H1) := by
  refine xM.of (cc := cX3_copyFrom) (maxL := 2) (ret := none) (by decide +kernel) rfl (Nat.le_of_ble_eq_true rfl) ?_
  intro p e s m args below meth c ls Q hQ S hr hlocks hK hP hl
  obtain ⟨hx, hb, hml, hown, hts⟩ := id S
  obtain ⟨h_bk, h_ok⟩ := hP
  have hL : ∀ q ∈ ([] : List Loc), z ≤ q.base := fun q h => absurd h List.not_mem_nil
  have hF : XF (fun q => (b ≤ q ∧ q < b + 37)) s.heap s.heap := XF.rf
  have hl : lv_has ls 2 [(0, .ref (b + (31 + i))), (1, .ref (o + (31 + j)))] := hl
  have in3 : ∀ w ∈ u_ws RX3 TX3 3, w ∈ wsX3_copyFrom := fun _ h => List.mem_cons_of_mem _ (List.mem_append_right _ h)
  unfold f_X3_copyFrom at hf
  refine lv_aload_n hx hb dX3_copyFrom_0 rfl (lv_at hl 0 rfl) ?_
  refine lv_aload_n hx hb dX3_copyFrom_1 rfl (lv_at hl 1 rfl) ?_
  refine x_get S hK h_ok (31 + j) (by omega) rfl (bkE_key G o j _) rfl in3 1 (by decide) (xm 1 rfl) (x := .int (ov (31 + j) 1)) rfl dX3_copyFrom_2 ?_
  obtain ⟨v_1, ev_1, hf⟩ := xl_some hf
  refine x_put S hK h_bk hz_bk hL (31 + i) (by omega) rfl (bkE_key G b i _) rfl in3 tyX3 tyX3_ok nmX3 1 (by decide) (xm 1 rfl) rfl (vp_nar_int _) rfl (Nat.le_of_ble_eq_true rfl) (bkE_key G b i _) ev_1 dX3_copyFrom_5 (fun H1 locs hL h_bk hfr => ?_)
  have h_ok := h_ok.kept hfr (fun q h1 h2 h3 => by (try dsimp only at h3); omega)
  have hF := hF.step hfr (fun q h => by (try dsimp only at h ⊢); omega)
  refine lv_aload_n hx hb dX3_copyFrom_8 rfl (lv_at hl 0 rfl) ?_
  refine lv_aload_n hx hb dX3_copyFrom_9 rfl (lv_at hl 1 rfl) ?_
  refine x_get S hK h_ok (31 + j) (by omega) rfl (bkE_key G o j _) rfl in3 2 (by decide) (xm 2 rfl) (x := .int (ov (31 + j) 2)) rfl dX3_copyFrom_10 ?_
  obtain ⟨v_2, ev_2, hf⟩ := xl_some hf
  refine x_put S hK h_bk hz_bk hL (31 + i) (by omega) rfl (bkE_key G b i _) rfl in3 tyX3 tyX3_ok nmX3 2 (by decide) (xm 2 rfl) rfl (vp_nar_int _) rfl (Nat.le_of_ble_eq_true rfl) (bkE_key G b i _) ev_2 dX3_copyFrom_13 (fun H1 locs hL h_bk hfr => ?_)
  have h_ok := h_ok.kept hfr (fun q h1 h2 h3 => by (try dsimp only at h3); omega)
  have hF := hF.step hfr (fun q h => by (try dsimp only at h ⊢); omega)
  have q0 := Option.some.inj hf
  subst v'
  subst hQ
  refine x_vret (post := (fun H H1 => PX G b 37 (bkE G b) v_2 H1 ∧ XF (fun q => (b ≤ q ∧ q < b + 37)) H H1)) S hr hlocks rfl ?_ hL dX3_copyFrom_16
  exact ⟨h_bk, hF⟩
set_option maxRecDepth 100000 in
set_option maxHeartbeats 4000000 in
theorem c_X0_copyFrom (l : Launch) (G : xG) (z : Nat) (b : Nat) (o : Nat) (v : xV) (ov : xV) (v' : xV) (hz_bk : z ≤ b) (dj_bk_ok : b + 37 ≤ o ∨ o + 37 ≤ b) (hf : f_X0_copyFrom v ov = some v') : xM l yX0_copyFrom wsX0_copyFrom 2 61 G z [.ref b, .ref o] (fun H => PX G b 37 (bkE G b) v H ∧ PX G o 37 (bkE G o) ov H) none (fun H H1 => PX G b 37 (bkE G b) v' H1 ∧ XF (fun q => (b ≤ q ∧ q < b + 37)) H H1) := by
  refine xM.of (cc := cX0_copyFrom) (maxL := 3) (ret := none) (by decide +kernel) rfl (Nat.le_of_ble_eq_true rfl) ?_
  intro p e s m args below meth c ls Q hQ S hr hlocks hK hP hl
  obtain ⟨hx, hb, hml, hown, hts⟩ := id S
  obtain ⟨h_bk, h_ok⟩ := hP
  have hL : ∀ q ∈ ([] : List Loc), z ≤ q.base := fun q h => absurd h List.not_mem_nil
  have hF : XF (fun q => (b ≤ q ∧ q < b + 37)) s.heap s.heap := XF.rf
  have hl : lv_has ls 3 [(0, .ref b), (1, .ref o)] := hl
  have in0 : ∀ w ∈ u_ws RX0 TX0 9, w ∈ wsX0_copyFrom := fun _ h => List.mem_cons_of_mem _ (List.mem_append_left _ (List.mem_append_left _ (List.mem_append_right _ h)))
  unfold f_X0_copyFrom at hf
  refine lv_aload_n hx hb dX0_copyFrom_0 rfl (lv_at hl 0 rfl) ?_
  refine lv_aload_n hx hb dX0_copyFrom_1 rfl (lv_at hl 1 rfl) ?_
  refine x_get S hK h_ok 0 (by decide) rfl rfl rfl in0 0 (by decide) (xm 1 rfl) (x := .int (ov 0 0)) rfl dX0_copyFrom_2 ?_
  obtain ⟨v_1, ev_1, hf⟩ := xl_some hf
  refine x_put S hK h_bk hz_bk hL 0 (by decide) rfl rfl rfl in0 tyX0 tyX0_ok nmX0 0 (by decide) (xm 1 rfl) rfl (vp_nar_int _) rfl (Nat.le_of_ble_eq_true rfl) rfl ev_1 dX0_copyFrom_5 (fun H1 locs hL h_bk hfr => ?_)
  have h_ok := h_ok.kept hfr (fun q h1 h2 h3 => by (try dsimp only at h3); omega)
  have hF := hF.step hfr (fun q h => by (try dsimp only at h ⊢); omega)
  refine lv_aload_n hx hb dX0_copyFrom_8 rfl (lv_at hl 0 rfl) ?_
  refine lv_aload_n hx hb dX0_copyFrom_9 rfl (lv_at hl 1 rfl) ?_
  refine x_get S hK h_ok 0 (by decide) rfl rfl rfl in0 1 (by decide) (xm 2 rfl) (x := .int (ov 0 1)) rfl dX0_copyFrom_10 ?_
  obtain ⟨v_2, ev_2, hf⟩ := xl_some hf
  refine x_put S hK h_bk hz_bk hL 0 (by decide) rfl rfl rfl in0 tyX0 tyX0_ok nmX0 1 (by decide) (xm 2 rfl) rfl (vp_nar_int _) rfl (Nat.le_of_ble_eq_true rfl) rfl ev_2 dX0_copyFrom_13 (fun H1 locs hL h_bk hfr => ?_)
  have h_ok := h_ok.kept hfr (fun q h1 h2 h3 => by (try dsimp only at h3); omega)
  have hF := hF.step hfr (fun q h => by (try dsimp only at h ⊢); omega)
  refine lv_aload_n hx hb dX0_copyFrom_16 rfl (lv_at hl 0 rfl) ?_
  refine lv_aload_n hx hb dX0_copyFrom_17 rfl (lv_at hl 1 rfl) ?_
  refine x_get S hK h_ok 0 (by decide) rfl rfl rfl in0 2 (by decide) (xm 3 rfl) (x := .int (ov 0 2)) rfl dX0_copyFrom_18 ?_
  obtain ⟨v_3, ev_3, hf⟩ := xl_some hf
  refine x_put S hK h_bk hz_bk hL 0 (by decide) rfl rfl rfl in0 tyX0 tyX0_ok nmX0 2 (by decide) (xm 3 rfl) rfl (vp_nar_int _) rfl (Nat.le_of_ble_eq_true rfl) rfl ev_3 dX0_copyFrom_21 (fun H1 locs hL h_bk hfr => ?_)
  have h_ok := h_ok.kept hfr (fun q h1 h2 h3 => by (try dsimp only at h3); omega)
  have hF := hF.step hfr (fun q h => by (try dsimp only at h ⊢); omega)
  refine lv_aload_n hx hb dX0_copyFrom_24 rfl (lv_at hl 1 rfl) ?_
  refine x_get S hK h_ok 0 (by decide) rfl rfl rfl in0 3 (by decide) (xm 4 rfl) (x := .ref (o + 1)) rfl dX0_copyFrom_25 ?_
  refine lv_iconst (v := 0) hx hb dX0_copyFrom_28 (by decide) ?_
  refine lv_aload_n hx hb dX0_copyFrom_29 rfl (lv_at hl 0 rfl) ?_
  refine x_get S hK h_bk 0 (by decide) rfl rfl rfl in0 3 (by decide) (xm 4 rfl) (x := .ref (b + 1)) rfl dX0_copyFrom_30 ?_
  refine lv_iconst (v := 0) hx hb dX0_copyFrom_33 (by decide) ?_
  refine lv_aload_n hx hb dX0_copyFrom_34 rfl (lv_at hl 0 rfl) ?_
  refine x_get S hK h_bk 0 (by decide) rfl rfl rfl in0 3 (by decide) (xm 4 rfl) (x := .ref (b + 1)) rfl dX0_copyFrom_35 ?_
  refine x_alen S hK h_bk 1 (by decide) rfl rfl 0 rfl (r := 8) rfl dX0_copyFrom_38 ?_
  obtain ⟨v_4, ev_4, hf⟩ := xl_some hf
  refine x_copy S hK h_bk h_ok hz_bk hL 1 (by decide) rfl (by decide) rfl rfl rfl (by decide) (by decide) (by omega) (xm 5 rfl) (xm 6 rfl) (xm 7 rfl) (xm 8 rfl) (w := (fun j9 => if j9 < 8 then ov 1 j9 else v_3 1 j9)) rfl rfl ev_4 hl.1 (Nat.le_of_ble_eq_true rfl) (Nat.le_of_ble_eq_true rfl) dX0_copyFrom_39 (fun H1 locs hL h_bk hfr => ?_)
  have h_ok := h_ok.kept hfr (fun q h1 h2 h3 => by (try dsimp only at h3); omega)
  have hF := hF.step hfr (fun q h => by (try dsimp only at h ⊢); omega)
  refine lv_aload_n hx hb dX0_copyFrom_42 rfl (lv_at hl 1 rfl) ?_
  refine x_get S hK h_ok 0 (by decide) rfl rfl rfl in0 4 (by decide) (xm 9 rfl) (x := .ref (o + 2)) rfl dX0_copyFrom_43 ?_
  refine lv_iconst (v := 0) hx hb dX0_copyFrom_46 (by decide) ?_
  refine lv_aload_n hx hb dX0_copyFrom_47 rfl (lv_at hl 0 rfl) ?_
  refine x_get S hK h_bk 0 (by decide) rfl rfl rfl in0 4 (by decide) (xm 9 rfl) (x := .ref (b + 2)) rfl dX0_copyFrom_48 ?_
  refine lv_iconst (v := 0) hx hb dX0_copyFrom_51 (by decide) ?_
  refine lv_aload_n hx hb dX0_copyFrom_52 rfl (lv_at hl 0 rfl) ?_
  refine x_get S hK h_bk 0 (by decide) rfl rfl rfl in0 4 (by decide) (xm 9 rfl) (x := .ref (b + 2)) rfl dX0_copyFrom_53 ?_
  refine x_alen S hK h_bk 2 (by decide) rfl rfl 0 rfl (r := 9) rfl dX0_copyFrom_56 ?_
  obtain ⟨v_5, ev_5, hf⟩ := xl_some hf
  refine x_copy S hK h_bk h_ok hz_bk hL 2 (by decide) rfl (by decide) rfl rfl rfl (by decide) (by decide) (by omega) (xm 5 rfl) (xm 6 rfl) (xm 7 rfl) (xm 8 rfl) (w := (fun j9 => if j9 < 9 then ov 2 j9 else v_4 2 j9)) rfl rfl ev_5 hl.1 (Nat.le_of_ble_eq_true rfl) (Nat.le_of_ble_eq_true rfl) dX0_copyFrom_57 (fun H1 locs hL h_bk hfr => ?_)
  have h_ok := h_ok.kept hfr (fun q h1 h2 h3 => by (try dsimp only at h3); omega)
  have hF := hF.step hfr (fun q h => by (try dsimp only at h ⊢); omega)
  refine lv_aload_n hx hb dX0_copyFrom_60 rfl (lv_at hl 1 rfl) ?_
  refine x_get S hK h_ok 0 (by decide) rfl rfl rfl in0 5 (by decide) (xm 10 rfl) (x := .ref (o + 3)) rfl dX0_copyFrom_61 ?_
  refine lv_iconst (v := 0) hx hb dX0_copyFrom_64 (by decide) ?_
  refine lv_aload_n hx hb dX0_copyFrom_65 rfl (lv_at hl 0 rfl) ?_
  refine x_get S hK h_bk 0 (by decide) rfl rfl rfl in0 5 (by decide) (xm 10 rfl) (x := .ref (b + 3)) rfl dX0_copyFrom_66 ?_
  refine lv_iconst (v := 0) hx hb dX0_copyFrom_69 (by decide) ?_
  refine lv_aload_n hx hb dX0_copyFrom_70 rfl (lv_at hl 0 rfl) ?_
  refine x_get S hK h_bk 0 (by decide) rfl rfl rfl in0 5 (by decide) (xm 10 rfl) (x := .ref (b + 3)) rfl dX0_copyFrom_71 ?_
  refine x_alen S hK h_bk 3 (by decide) rfl rfl 0 rfl (r := 10) rfl dX0_copyFrom_74 ?_
  obtain ⟨v_6, ev_6, hf⟩ := xl_some hf
  refine x_copy S hK h_bk h_ok hz_bk hL 3 (by decide) rfl (by decide) rfl rfl rfl (by decide) (by decide) (by omega) (xm 5 rfl) (xm 6 rfl) (xm 7 rfl) (xm 8 rfl) (w := (fun j9 => if j9 < 10 then ov 3 j9 else v_5 3 j9)) rfl rfl ev_6 hl.1 (Nat.le_of_ble_eq_true rfl) (Nat.le_of_ble_eq_true rfl) dX0_copyFrom_75 (fun H1 locs hL h_bk hfr => ?_)
  have h_ok := h_ok.kept hfr (fun q h1 h2 h3 => by (try dsimp only at h3); omega)
  have hF := hF.step hfr (fun q h => by (try dsimp only at h ⊢); omega)
  refine lv_aload_n hx hb dX0_copyFrom_78 rfl (lv_at hl 1 rfl) ?_
  refine x_get S hK h_ok 0 (by decide) rfl rfl rfl in0 6 (by decide) (xm 11 rfl) (x := .ref (o + 4)) rfl dX0_copyFrom_79 ?_
  refine lv_iconst (v := 0) hx hb dX0_copyFrom_82 (by decide) ?_
  refine lv_aload_n hx hb dX0_copyFrom_83 rfl (lv_at hl 0 rfl) ?_
  refine x_get S hK h_bk 0 (by decide) rfl rfl rfl in0 6 (by decide) (xm 11 rfl) (x := .ref (b + 4)) rfl dX0_copyFrom_84 ?_
  refine lv_iconst (v := 0) hx hb dX0_copyFrom_87 (by decide) ?_
  refine lv_aload_n hx hb dX0_copyFrom_88 rfl (lv_at hl 0 rfl) ?_
  refine x_get S hK h_bk 0 (by decide) rfl rfl rfl in0 6 (by decide) (xm 11 rfl) (x := .ref (b + 4)) rfl dX0_copyFrom_89 ?_
  refine x_alen S hK h_bk 4 (by decide) rfl rfl 0 rfl (r := 10) rfl dX0_copyFrom_92 ?_
  obtain ⟨v_7, ev_7, hf⟩ := xl_some hf
  refine x_copy S hK h_bk h_ok hz_bk hL 4 (by decide) rfl (by decide) rfl rfl rfl (by decide) (by decide) (by omega) (xm 5 rfl) (xm 6 rfl) (xm 7 rfl) (xm 8 rfl) (w := (fun j9 => if j9 < 10 then ov 4 j9 else v_6 4 j9)) rfl rfl ev_7 hl.1 (Nat.le_of_ble_eq_true rfl) (Nat.le_of_ble_eq_true rfl) dX0_copyFrom_93 (fun H1 locs hL h_bk hfr => ?_)
  have h_ok := h_ok.kept hfr (fun q h1 h2 h3 => by (try dsimp only at h3); omega)
  have hF := hF.step hfr (fun q h => by (try dsimp only at h ⊢); omega)
  refine lv_iconst (v := 0) hx hb dX0_copyFrom_96 (by decide) ?_
  refine lv_istore_n (lv' := [(2, .int 0), (0, .ref b), (1, .ref o)]) hx hb dX0_copyFrom_97 rfl hl (by decide) rfl (fun ls hl => ?_)
  have lp_98 : ∀ (K_98 : Int32 → xV → Option xV), (∀ (x_8 : Int32) (v_9 : xV) (H : Heap) (locs : List Loc) (ls : Array Slot), (∀ q ∈ locs, z ≤ q.base) → PX G b 37 (bkE G b) v_9 H → PX G o 37 (bkE G o) ov H → XF (fun q => (b ≤ q ∧ q < b + 37)) s.heap H → lv_has ls 3 [(0, .ref b), (1, .ref o)] → K_98 x_8 v_9 = some v' → W p l e { frames := 2, cells := 0, slots := 0, locals := 61 } s m args below meth c H locs 0 0 Q (F0 m 128 ls [])) → ∀ (n : Nat) (x_8 : Int32) (v_9 : xV) (H : Heap) (locs : List Loc) (ls : Array Slot), (∀ q ∈ locs, z ≤ q.base) → PX G b 37 (bkE G b) v_9 H → PX G o 37 (bkE G o) ov H → XF (fun q => (b ≤ q ∧ q < b + 37)) s.heap H → lv_has ls 3 [(0, .ref b), (1, .ref o), (2, .int x_8)] → L_X0_copyFrom_98 K_98 ov n x_8 v_9 = some v' → W p l e { frames := 2, cells := 0, slots := 0, locals := 61 } s m args below meth c H locs 0 0 Q (F0 m 98 ls []) := by
    intro K_98 hK_98 n
    induction n with
    | zero =>
      intro x_8 v_9 H locs ls hL h_bk h_ok hF hl hf
      cases hf
    | succ n ih_98 =>
      intro x_8 v_9 H locs ls hL h_bk h_ok hF hl hf
      unfold L_X0_copyFrom_98 at hf
      refine lv_iload_n hx hb dX0_copyFrom_98 rfl (lv_at hl 2 rfl) ?_
      refine lv_aload_n hx hb dX0_copyFrom_99 rfl (lv_at hl 0 rfl) ?_
      refine x_get S hK h_bk 0 (by decide) rfl rfl rfl in0 7 (by decide) (xm 12 rfl) (x := .ref (b + 5)) rfl dX0_copyFrom_100 ?_
      refine x_alen S hK h_bk 5 (by decide) rfl rfl 2 rfl (r := 12) rfl dX0_copyFrom_103 ?_
      refine lv_icmp_ge (tgt := 128) hx hb dX0_copyFrom_104 (by decide) (fun c_10 => ?_) (fun c_10 => ?_)
      · have hf := (if_pos c_10).symm.trans hf
        exact hK_98 x_8 v_9 _ _ _ hL h_bk h_ok hF (lv_sub hl [0, 1] rfl) hf
      · have hf := (if_neg c_10).symm.trans hf
        refine lv_aload_n hx hb dX0_copyFrom_107 rfl (lv_at hl 0 rfl) ?_
        refine x_get S hK h_bk 0 (by decide) rfl rfl rfl in0 7 (by decide) (xm 12 rfl) (x := .ref (b + 5)) rfl dX0_copyFrom_108 ?_
        refine lv_iload_n hx hb dX0_copyFrom_111 rfl (lv_at hl 2 rfl) ?_
        obtain ⟨g_11, hf⟩ := xg_some hf
        obtain ⟨i_12, ei_12, hf⟩ := xl_some hf
        have hi_i_12 : i_12 < 12 := by rw [ei_12]; exact xin_lt g_11
        refine x_aald S hK h_bk 5 (by decide) rfl rfl 2 rfl i_12 ei_12.symm g_11 (r := (b + (6 + 2 * i_12))) rfl dX0_copyFrom_112 ?_
        refine lv_aload_n hx hb dX0_copyFrom_113 rfl (lv_at hl 1 rfl) ?_
        refine x_get S hK h_ok 0 (by decide) rfl rfl rfl in0 7 (by decide) (xm 12 rfl) (x := .ref (o + 5)) rfl dX0_copyFrom_114 ?_
        refine lv_iload_n hx hb dX0_copyFrom_117 rfl (lv_at hl 2 rfl) ?_
        obtain ⟨g_13, hf⟩ := xg_some hf
        obtain ⟨i_14, ei_14, hf⟩ := xl_some hf
        have hi_i_14 : i_14 < 12 := by rw [ei_14]; exact xin_lt g_13
        refine x_aald S hK h_ok 5 (by decide) rfl rfl 2 rfl i_14 ei_14.symm g_13 (r := (o + (6 + 2 * i_14))) rfl dX0_copyFrom_118 ?_
        obtain ⟨v_15, e_16, hf⟩ := xb_some hf
        refine x_callVv (As := [.ref (o + (6 + 2 * i_14))]) (rest := []) S hK (c_X1_copyFrom l G z b o v_9 ov i_12 i_14 v_15 (by omega) hi_i_12 hi_i_14 (by omega) e_16) gX0_copyFrom_X1_copyFrom rfl 1 (by decide +kernel) rfl ⟨Nat.le_of_ble_eq_true rfl, Nat.le_of_ble_eq_true rfl⟩ h_bk (6 + 2 * i_12) (by omega) rfl (bkE_hire G b i_12 hi_i_12 _) rfl ⟨h_bk, h_ok⟩ hl.1 rfl (Nat.le_of_ble_eq_true rfl) dX0_copyFrom_119 hL ⟨Nat.zero_le _, Nat.zero_le _⟩ (fun H1 locs hL hpost => ?_)
        obtain ⟨n_bk, hfr⟩ := hpost
        have h_bk := n_bk
        have h_ok := h_ok.kept hfr (fun q h1 h2 h3 => by (try dsimp only at h3); omega)
        have hF := hF.step hfr (fun q h => by (try dsimp only at h ⊢); omega)
        obtain ⟨x_17, ex_17, hf⟩ := xl_some hf
        refine lv_iinc (v := x_17) (lv' := [(2, .int x_17), (0, .ref b), (1, .ref o)]) hx hb dX0_copyFrom_122 hl (k := 2) rfl (by rw [ex_17]; rfl) (by decide) rfl (fun ls hl => ?_)
        refine lv_goto (tgt := 98) hx hb dX0_copyFrom_125 (by decide) ?_
        exact ih_98 x_17 v_15 _ _ _ hL h_bk h_ok hF (lv_sub hl [1, 2, 0] rfl) hf
  refine lp_98 _ (fun x_18 v_19 H locs ls hL h_bk h_ok hF hl hf => ?_) 100000 0 v_7 _ _ _ hL h_bk h_ok hF (lv_sub hl [1, 2, 0] rfl) hf
  refine lv_iconst (v := 0) hx hb dX0_copyFrom_128 (by decide) ?_
  refine lv_istore_n (lv' := [(2, .int 0), (0, .ref b), (1, .ref o)]) hx hb dX0_copyFrom_129 rfl hl (by decide) rfl (fun ls hl => ?_)
  have lp_130 : ∀ (K_130 : Int32 → xV → Option xV), (∀ (x_20 : Int32) (v_21 : xV) (H : Heap) (locs : List Loc) (ls : Array Slot), (∀ q ∈ locs, z ≤ q.base) → PX G b 37 (bkE G b) v_21 H → PX G o 37 (bkE G o) ov H → XF (fun q => (b ≤ q ∧ q < b + 37)) s.heap H → lv_has ls 3 [] → K_130 x_20 v_21 = some v' → W p l e { frames := 2, cells := 0, slots := 0, locals := 61 } s m args below meth c H locs 0 0 Q (F0 m 160 ls [])) → ∀ (n : Nat) (x_20 : Int32) (v_21 : xV) (H : Heap) (locs : List Loc) (ls : Array Slot), (∀ q ∈ locs, z ≤ q.base) → PX G b 37 (bkE G b) v_21 H → PX G o 37 (bkE G o) ov H → XF (fun q => (b ≤ q ∧ q < b + 37)) s.heap H → lv_has ls 3 [(0, .ref b), (1, .ref o), (2, .int x_20)] → L_X0_copyFrom_130 K_130 ov n x_20 v_21 = some v' → W p l e { frames := 2, cells := 0, slots := 0, locals := 61 } s m args below meth c H locs 0 0 Q (F0 m 130 ls []) := by
    intro K_130 hK_130 n
    induction n with
    | zero =>
      intro x_20 v_21 H locs ls hL h_bk h_ok hF hl hf
      cases hf
    | succ n ih_130 =>
      intro x_20 v_21 H locs ls hL h_bk h_ok hF hl hf
      unfold L_X0_copyFrom_130 at hf
      refine lv_iload_n hx hb dX0_copyFrom_130 rfl (lv_at hl 2 rfl) ?_
      refine lv_aload_n hx hb dX0_copyFrom_131 rfl (lv_at hl 0 rfl) ?_
      refine x_get S hK h_bk 0 (by decide) rfl rfl rfl in0 8 (by decide) (xm 13 rfl) (x := .ref (b + 30)) rfl dX0_copyFrom_132 ?_
      refine x_alen S hK h_bk 30 (by decide) rfl rfl 3 rfl (r := 6) rfl dX0_copyFrom_135 ?_
      refine lv_icmp_ge (tgt := 160) hx hb dX0_copyFrom_136 (by decide) (fun c_22 => ?_) (fun c_22 => ?_)
      · have hf := (if_pos c_22).symm.trans hf
        exact hK_130 x_20 v_21 _ _ _ hL h_bk h_ok hF (lv_sub hl [] rfl) hf
      · have hf := (if_neg c_22).symm.trans hf
        refine lv_aload_n hx hb dX0_copyFrom_139 rfl (lv_at hl 0 rfl) ?_
        refine x_get S hK h_bk 0 (by decide) rfl rfl rfl in0 8 (by decide) (xm 13 rfl) (x := .ref (b + 30)) rfl dX0_copyFrom_140 ?_
        refine lv_iload_n hx hb dX0_copyFrom_143 rfl (lv_at hl 2 rfl) ?_
        obtain ⟨g_23, hf⟩ := xg_some hf
        obtain ⟨i_24, ei_24, hf⟩ := xl_some hf
        have hi_i_24 : i_24 < 6 := by rw [ei_24]; exact xin_lt g_23
        refine x_aald S hK h_bk 30 (by decide) rfl rfl 3 rfl i_24 ei_24.symm g_23 (r := (b + (31 + i_24))) rfl dX0_copyFrom_144 ?_
        refine lv_aload_n hx hb dX0_copyFrom_145 rfl (lv_at hl 1 rfl) ?_
        refine x_get S hK h_ok 0 (by decide) rfl rfl rfl in0 8 (by decide) (xm 13 rfl) (x := .ref (o + 30)) rfl dX0_copyFrom_146 ?_
        refine lv_iload_n hx hb dX0_copyFrom_149 rfl (lv_at hl 2 rfl) ?_
        obtain ⟨g_25, hf⟩ := xg_some hf
        obtain ⟨i_26, ei_26, hf⟩ := xl_some hf
        have hi_i_26 : i_26 < 6 := by rw [ei_26]; exact xin_lt g_25
        refine x_aald S hK h_ok 30 (by decide) rfl rfl 3 rfl i_26 ei_26.symm g_25 (r := (o + (31 + i_26))) rfl dX0_copyFrom_150 ?_
        obtain ⟨v_27, e_28, hf⟩ := xb_some hf
        refine x_callVv (As := [.ref (o + (31 + i_26))]) (rest := []) S hK (c_X3_copyFrom l G z b o v_21 ov i_24 i_26 v_27 (by omega) hi_i_24 hi_i_26 (by omega) e_28) gX0_copyFrom_X3_copyFrom rfl 1 (by decide +kernel) rfl ⟨Nat.le_of_ble_eq_true rfl, Nat.le_of_ble_eq_true rfl⟩ h_bk (31 + i_24) (by omega) rfl (bkE_key G b i_24 _) rfl ⟨h_bk, h_ok⟩ hl.1 rfl (Nat.le_of_ble_eq_true rfl) dX0_copyFrom_151 hL ⟨Nat.zero_le _, Nat.zero_le _⟩ (fun H1 locs hL hpost => ?_)
        obtain ⟨n_bk, hfr⟩ := hpost
        have h_bk := n_bk
        have h_ok := h_ok.kept hfr (fun q h1 h2 h3 => by (try dsimp only at h3); omega)
        have hF := hF.step hfr (fun q h => by (try dsimp only at h ⊢); omega)
        obtain ⟨x_29, ex_29, hf⟩ := xl_some hf
        refine lv_iinc (v := x_29) (lv' := [(2, .int x_29), (0, .ref b), (1, .ref o)]) hx hb dX0_copyFrom_154 hl (k := 2) rfl (by rw [ex_29]; rfl) (by decide) rfl (fun ls hl => ?_)
        refine lv_goto (tgt := 130) hx hb dX0_copyFrom_157 (by decide) ?_
        exact ih_130 x_29 v_27 _ _ _ hL h_bk h_ok hF (lv_sub hl [1, 2, 0] rfl) hf
  refine lp_130 _ (fun x_30 v_31 H locs ls hL h_bk h_ok hF hl hf => ?_) 100000 0 v_19 _ _ _ hL h_bk h_ok hF (lv_sub hl [1, 2, 0] rfl) hf
  have q0 := Option.some.inj hf
  subst v'
  subst hQ
  refine x_vret (post := (fun H H1 => PX G b 37 (bkE G b) v_31 H1 ∧ XF (fun q => (b ≤ q ∧ q < b + 37)) H H1)) S hr hlocks rfl ?_ hL dX0_copyFrom_160
  exact ⟨h_bk, hF⟩
