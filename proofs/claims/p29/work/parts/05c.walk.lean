/-! ===== the methods, walked (written by program) ===== -/
set_option maxRecDepth 100000 in
set_option maxHeartbeats 4000000 in
theorem c_X1_plannedSessions (l : Launch) (G : xG) (z : Nat) (b : Nat) (v : xV) (i : Nat) (r0 : Int32) (hi_i : i < 12) (hf : f_X1_plannedSessions v i = some r0) : xM l yX1_plannedSessions wsX1_plannedSessions 1 20 G z [.ref (b + (6 + 2 * i))] (fun H => PX G b 37 (bkE G b) v H) (some (.int r0)) (fun H H1 => H1 = H) := by
  refine xM.of (cc := cX1_plannedSessions) (maxL := 1) (ret := (some .int)) (by decide +kernel) rfl (Nat.le_of_ble_eq_true rfl) ?_
  intro p e s m args below meth c ls Q hQ S hr hlocks hK hP hl
  obtain ⟨hx, hb, hml, hown, hts⟩ := id S
  have h_bk := hP
  have hL : ∀ q ∈ ([] : List Loc), z ≤ q.base := fun q h => absurd h List.not_mem_nil
  have hl : lv_has ls 1 [(0, .ref (b + (6 + 2 * i)))] := hl
  have in1 : ∀ w ∈ u_ws RX1 TX1 15, w ∈ wsX1_plannedSessions := fun _ h => List.mem_cons_of_mem _ (List.mem_append_right _ h)
  unfold f_X1_plannedSessions at hf
  refine lv_aload_n hx hb dX1_plannedSessions_0 rfl (lv_at hl 0 rfl) ?_
  refine x_get S hK h_bk (6 + 2 * i) (by omega) rfl (bkE_hire G b i hi_i _) rfl in1 5 (by decide) (xm 1 rfl) (x := .int (v (6 + 2 * i) 5)) rfl dX1_plannedSessions_1 ?_
  refine lv_aload_n hx hb dX1_plannedSessions_4 rfl (lv_at hl 0 rfl) ?_
  refine x_get S hK h_bk (6 + 2 * i) (by omega) rfl (bkE_hire G b i hi_i _) rfl in1 9 (by decide) (xm 2 rfl) (x := .int (v (6 + 2 * i) 9)) rfl dX1_plannedSessions_5 ?_
  refine lv_aload_n hx hb dX1_plannedSessions_8 rfl (lv_at hl 0 rfl) ?_
  refine x_get S hK h_bk (6 + 2 * i) (by omega) rfl (bkE_hire G b i hi_i _) rfl in1 10 (by decide) (xm 3 rfl) (x := .int (v (6 + 2 * i) 10)) rfl dX1_plannedSessions_9 ?_
  refine lv_ior hx hb dX1_plannedSessions_12 ?_
  obtain ⟨r_1, e_2, hf⟩ := xb_some hf
  refine x_callTi (As := [.int ((v (6 + 2 * i) 9) ||| (v (6 + 2 * i) 10))]) (rest := [.int (v (6 + 2 * i) 5)]) S hK (c_J6_bitCount_0f7a4 l G z ((v (6 + 2 * i) 9) ||| (v (6 + 2 * i) 10)) r_1 e_2) gX1_plannedSessions_J6_bitCount_0f7a4 rfl 1 (by decide +kernel) rfl ⟨Nat.le_of_ble_eq_true rfl, Nat.le_of_ble_eq_true rfl⟩ rfl hl.1 rfl (Nat.le_of_ble_eq_true rfl) dX1_plannedSessions_13 hL ⟨Nat.zero_le _, Nat.zero_le _⟩ (fun H1 locs hL hpost => ?_)
  subst hpost
  refine lv_isub hx hb dX1_plannedSessions_16 ?_
  have q0 := Option.some.inj hf
  subst r0
  subst hQ
  refine x_iret (post := (fun H H1 => H1 = H)) S hr hlocks rfl ?_ hL dX1_plannedSessions_17
  exact rfl
set_option maxRecDepth 100000 in
set_option maxHeartbeats 4000000 in
theorem c_X0_plannedOf (l : Launch) (G : xG) (z : Nat) (b : Nat) (v : xV) (p1 : Int32) (r0 : Int32)  (hf : f_X0_plannedOf v p1 = some r0) : xM l yX0_plannedOf wsX0_plannedOf 2 40 G z [.ref b, .int p1] (fun H => PX G b 37 (bkE G b) v H) (some (.int r0)) (fun H H1 => H1 = H) := by
  refine xM.of (cc := cX0_plannedOf) (maxL := 7) (ret := (some .int)) (by decide +kernel) rfl (Nat.le_of_ble_eq_true rfl) ?_
  intro p e s m args below meth c ls Q hQ S hr hlocks hK hP hl
  obtain ⟨hx, hb, hml, hown, hts⟩ := id S
  have h_bk := hP
  have hL : ∀ q ∈ ([] : List Loc), z ≤ q.base := fun q h => absurd h List.not_mem_nil
  have hl : lv_has ls 7 [(0, .ref b), (1, .int p1)] := hl
  have in0 : ∀ w ∈ u_ws RX0 TX0 9, w ∈ wsX0_plannedOf := fun _ h => List.mem_cons_of_mem _ (List.mem_append_left _ (List.mem_append_right _ h))
  have in1 : ∀ w ∈ u_ws RX1 TX1 15, w ∈ wsX0_plannedOf := fun _ h => List.mem_cons_of_mem _ (List.mem_append_right _ h)
  unfold f_X0_plannedOf at hf
  refine lv_iconst (v := 0) hx hb dX0_plannedOf_0 (by decide) ?_
  refine lv_istore_n (lv' := [(2, .int 0), (0, .ref b), (1, .int p1)]) hx hb dX0_plannedOf_1 rfl hl (by decide) rfl (fun ls hl => ?_)
  refine lv_aload_n hx hb dX0_plannedOf_2 rfl (lv_at hl 1 rfl) ?_
  refine x_get S hK h_bk 0 (by decide) rfl rfl rfl in0 7 (by decide) (xm 1 rfl) (x := .ref (b + 5)) rfl dX0_plannedOf_3 ?_
  refine lv_astore_n (lv' := [(3, .ref (b + 5)), (2, .int 0), (0, .ref b), (1, .int p1)]) hx hb dX0_plannedOf_6 rfl hl (by decide) rfl (fun ls hl => ?_)
  refine lv_aload_n hx hb dX0_plannedOf_7 rfl (lv_at hl 0 rfl) ?_
  refine x_alen S hK h_bk 5 (by decide) rfl rfl 2 rfl (r := 12) rfl dX0_plannedOf_8 ?_
  refine lv_istore (lv' := [(4, .int 12), (3, .ref (b + 5)), (2, .int 0), (0, .ref b), (1, .int p1)]) hx hb dX0_plannedOf_9 hl (by decide) rfl (fun ls hl => ?_)
  refine lv_iconst (v := 0) hx hb dX0_plannedOf_11 (by decide) ?_
  refine lv_istore (lv' := [(5, .int 0), (4, .int 12), (3, .ref (b + 5)), (2, .int 0), (0, .ref b), (1, .int p1)]) hx hb dX0_plannedOf_12 hl (by decide) rfl (fun ls hl => ?_)
  have lp_14 : ∀ (K_14 : Int32 → Int32 → Option Int32), (∀ (x_1 : Int32) (x_2 : Int32) (locs : List Loc) (ls : Array Slot), (∀ q ∈ locs, z ≤ q.base) → lv_has ls 7 [(2, .int x_1)] → K_14 x_1 x_2 = some r0 → W p l e { frames := 2, cells := 0, slots := 0, locals := 40 } s m args below meth c s.heap locs 0 0 Q (F0 m 54 ls [])) → ∀ (n : Nat) (x_1 : Int32) (x_2 : Int32) (locs : List Loc) (ls : Array Slot), (∀ q ∈ locs, z ≤ q.base) → lv_has ls 7 [(1, .int p1), (2, .int x_1), (3, .ref (b + 5)), (4, .int 12), (5, .int x_2)] → L_X0_plannedOf_14 K_14 v p1 n x_1 x_2 = some r0 → W p l e { frames := 2, cells := 0, slots := 0, locals := 40 } s m args below meth c s.heap locs 0 0 Q (F0 m 14 ls []) := by
    intro K_14 hK_14 n
    induction n with
    | zero =>
      intro x_1 x_2 locs ls hL hl hf
      cases hf
    | succ n ih_14 =>
      intro x_1 x_2 locs ls hL hl hf
      unfold L_X0_plannedOf_14 at hf
      refine lv_iload hx hb dX0_plannedOf_14 (lv_at hl 4 rfl) ?_
      refine lv_iload hx hb dX0_plannedOf_16 (lv_at hl 3 rfl) ?_
      refine lv_icmp_ge (tgt := 54) hx hb dX0_plannedOf_18 (by decide) (fun c_3 => ?_) (fun c_3 => ?_)
      · have hf := (if_pos c_3).symm.trans hf
        exact hK_14 x_1 x_2 _ _ hL (lv_sub hl [1] rfl) hf
      · have hf := (if_neg c_3).symm.trans hf
        refine lv_aload_n hx hb dX0_plannedOf_21 rfl (lv_at hl 2 rfl) ?_
        refine lv_iload hx hb dX0_plannedOf_22 (lv_at hl 4 rfl) ?_
        obtain ⟨g_4, hf⟩ := xg_some hf
        obtain ⟨i_5, ei_5, hf⟩ := xl_some hf
        have hi_i_5 : i_5 < 12 := by rw [ei_5]; exact xin_lt g_4
        refine x_aald S hK h_bk 5 (by decide) rfl rfl 2 rfl i_5 ei_5.symm g_4 (r := (b + (6 + 2 * i_5))) rfl dX0_plannedOf_24 ?_
        refine lv_astore (lv' := [(6, .ref (b + (6 + 2 * i_5))), (1, .int p1), (2, .int x_1), (3, .ref (b + 5)), (4, .int 12), (5, .int x_2)]) hx hb dX0_plannedOf_25 hl (by decide) rfl (fun ls hl => ?_)
        refine lv_iload_n hx hb dX0_plannedOf_27 rfl (lv_at hl 2 rfl) ?_
        refine lv_aload hx hb dX0_plannedOf_28 (lv_at hl 0 rfl) ?_
        refine x_get S hK h_bk (6 + 2 * i_5) (by omega) rfl (bkE_hire G b i_5 hi_i_5 _) rfl in1 1 (by decide) (xm 2 rfl) (x := .int (v (6 + 2 * i_5) 1)) rfl dX0_plannedOf_30 ?_
        refine lv_iload_n hx hb dX0_plannedOf_33 rfl (lv_at hl 1 rfl) ?_
        refine lv_icmp_ne (tgt := 45) hx hb dX0_plannedOf_34 (by decide) (fun c_6 => ?_) (fun c_6 => ?_)
        · have hf := (if_neg c_6).symm.trans hf
          refine lv_iconst (v := 0) hx hb dX0_plannedOf_45 (by decide) ?_
          refine lv_iadd hx hb dX0_plannedOf_46 ?_
          obtain ⟨x_7, ex_7, hf⟩ := xl_some hf
          refine x_top ex_7 ?_
          refine lv_istore_n (lv' := [(2, .int x_7), (6, .ref (b + (6 + 2 * i_5))), (1, .int p1), (3, .ref (b + 5)), (4, .int 12), (5, .int x_2)]) hx hb dX0_plannedOf_47 rfl hl (by decide) rfl (fun ls hl => ?_)
          obtain ⟨x_8, ex_8, hf⟩ := xl_some hf
          refine lv_iinc (v := x_8) (lv' := [(5, .int x_8), (2, .int x_7), (6, .ref (b + (6 + 2 * i_5))), (1, .int p1), (3, .ref (b + 5)), (4, .int 12)]) hx hb dX0_plannedOf_48 hl (k := 5) rfl (by rw [ex_8]; rfl) (by decide) rfl (fun ls hl => ?_)
          refine lv_goto (tgt := 14) hx hb dX0_plannedOf_51 (by decide) ?_
          exact ih_14 x_7 x_8 _ _ hL (lv_sub hl [3, 1, 4, 5, 0] rfl) hf
        · have hf := (if_pos c_6).symm.trans hf
          refine lv_aload hx hb dX0_plannedOf_37 (lv_at hl 0 rfl) ?_
          obtain ⟨r_9, e_10, hf⟩ := xb_some hf
          refine x_callVi (As := []) (rest := [.int x_1]) S hK (c_X1_plannedSessions l G z b v i_5 r_9 hi_i_5 e_10) gX0_plannedOf_X1_plannedSessions rfl 0 (by decide +kernel) rfl ⟨Nat.le_of_ble_eq_true rfl, Nat.le_of_ble_eq_true rfl⟩ h_bk (6 + 2 * i_5) (by omega) rfl (bkE_hire G b i_5 hi_i_5 _) rfl h_bk hl.1 rfl (Nat.le_of_ble_eq_true rfl) dX0_plannedOf_39 hL ⟨Nat.zero_le _, Nat.zero_le _⟩ (fun H1 locs hL hpost => ?_)
          subst hpost
          refine lv_goto (tgt := 46) hx hb dX0_plannedOf_42 (by decide) ?_
          refine lv_iadd hx hb dX0_plannedOf_46 ?_
          obtain ⟨x_11, ex_11, hf⟩ := xl_some hf
          refine x_top ex_11 ?_
          refine lv_istore_n (lv' := [(2, .int x_11), (6, .ref (b + (6 + 2 * i_5))), (1, .int p1), (3, .ref (b + 5)), (4, .int 12), (5, .int x_2)]) hx hb dX0_plannedOf_47 rfl hl (by decide) rfl (fun ls hl => ?_)
          obtain ⟨x_12, ex_12, hf⟩ := xl_some hf
          refine lv_iinc (v := x_12) (lv' := [(5, .int x_12), (2, .int x_11), (6, .ref (b + (6 + 2 * i_5))), (1, .int p1), (3, .ref (b + 5)), (4, .int 12)]) hx hb dX0_plannedOf_48 hl (k := 5) rfl (by rw [ex_12]; rfl) (by decide) rfl (fun ls hl => ?_)
          refine lv_goto (tgt := 14) hx hb dX0_plannedOf_51 (by decide) ?_
          exact ih_14 x_11 x_12 _ _ hL (lv_sub hl [3, 1, 4, 5, 0] rfl) hf
  refine lp_14 _ (fun x_13 x_14 locs ls hL hl hf => ?_) 100000 0 0 _ _ hL (lv_sub hl [5, 3, 2, 1, 0] rfl) hf
  refine lv_iload_n hx hb dX0_plannedOf_54 rfl (lv_at hl 0 rfl) ?_
  have q0 := Option.some.inj hf
  subst r0
  subst hQ
  refine x_iret (post := (fun H H1 => H1 = H)) S hr hlocks rfl ?_ hL dX0_plannedOf_55
  exact rfl
set_option maxRecDepth 100000 in
set_option maxHeartbeats 4000000 in
theorem c_X1_roomHoursHeld (l : Launch) (G : xG) (z : Nat) (b : Nat) (v : xV) (i : Nat) (r0 : Int32) (hi_i : i < 12) (hf : f_X1_roomHoursHeld v i = some r0) : xM l yX1_roomHoursHeld wsX1_roomHoursHeld 1 20 G z [.ref (b + (6 + 2 * i))] (fun H => PX G b 37 (bkE G b) v H) (some (.int r0)) (fun H H1 => H1 = H) := by
  refine xM.of (cc := cX1_roomHoursHeld) (maxL := 1) (ret := (some .int)) (by decide +kernel) rfl (Nat.le_of_ble_eq_true rfl) ?_
  intro p e s m args below meth c ls Q hQ S hr hlocks hK hP hl
  obtain ⟨hx, hb, hml, hown, hts⟩ := id S
  have h_bk := hP
  have hL : ∀ q ∈ ([] : List Loc), z ≤ q.base := fun q h => absurd h List.not_mem_nil
  have hl : lv_has ls 1 [(0, .ref (b + (6 + 2 * i)))] := hl
  have in1 : ∀ w ∈ u_ws RX1 TX1 15, w ∈ wsX1_roomHoursHeld := fun _ h => List.mem_cons_of_mem _ (List.mem_append_right _ h)
  unfold f_X1_roomHoursHeld at hf
  refine lv_aload_n hx hb dX1_roomHoursHeld_0 rfl (lv_at hl 0 rfl) ?_
  refine x_get S hK h_bk (6 + 2 * i) (by omega) rfl (bkE_hire G b i hi_i _) rfl in1 9 (by decide) (xm 1 rfl) (x := .int (v (6 + 2 * i) 9)) rfl dX1_roomHoursHeld_1 ?_
  obtain ⟨r_1, e_2, hf⟩ := xb_some hf
  refine x_callTi (As := [.int (v (6 + 2 * i) 9)]) (rest := []) S hK (c_J6_bitCount_0f7a4 l G z (v (6 + 2 * i) 9) r_1 e_2) gX1_roomHoursHeld_J6_bitCount_0f7a4 rfl 1 (by decide +kernel) rfl ⟨Nat.le_of_ble_eq_true rfl, Nat.le_of_ble_eq_true rfl⟩ rfl hl.1 rfl (Nat.le_of_ble_eq_true rfl) dX1_roomHoursHeld_4 hL ⟨Nat.zero_le _, Nat.zero_le _⟩ (fun H1 locs hL hpost => ?_)
  subst hpost
  refine lv_aload_n hx hb dX1_roomHoursHeld_7 rfl (lv_at hl 0 rfl) ?_
  refine x_get S hK h_bk (6 + 2 * i) (by omega) rfl (bkE_hire G b i hi_i _) rfl in1 2 (by decide) (xm 2 rfl) (x := .int (v (6 + 2 * i) 2)) rfl dX1_roomHoursHeld_8 ?_
  obtain ⟨r_3, e_4, hf⟩ := xb_some hf
  refine x_callTi (As := [.int (v (6 + 2 * i) 2)]) (rest := [.int r_1]) S hK (c_J6_bitCount_0f7a4 l G z (v (6 + 2 * i) 2) r_3 e_4) gX1_roomHoursHeld_J6_bitCount_0f7a4 rfl 1 (by decide +kernel) rfl ⟨Nat.le_of_ble_eq_true rfl, Nat.le_of_ble_eq_true rfl⟩ rfl hl.1 rfl (Nat.le_of_ble_eq_true rfl) dX1_roomHoursHeld_11 hL ⟨Nat.zero_le _, Nat.zero_le _⟩ (fun H1 locs hL hpost => ?_)
  subst hpost
  refine lv_imul hx hb dX1_roomHoursHeld_14 ?_
  refine lv_aload_n hx hb dX1_roomHoursHeld_15 rfl (lv_at hl 0 rfl) ?_
  refine x_get S hK h_bk (6 + 2 * i) (by omega) rfl (bkE_hire G b i hi_i _) rfl in1 4 (by decide) (xm 3 rfl) (x := .int (v (6 + 2 * i) 4)) rfl dX1_roomHoursHeld_16 ?_
  refine lv_aload_n hx hb dX1_roomHoursHeld_19 rfl (lv_at hl 0 rfl) ?_
  refine x_get S hK h_bk (6 + 2 * i) (by omega) rfl (bkE_hire G b i hi_i _) rfl in1 3 (by decide) (xm 4 rfl) (x := .int (v (6 + 2 * i) 3)) rfl dX1_roomHoursHeld_20 ?_
  refine lv_isub hx hb dX1_roomHoursHeld_23 ?_
  refine lv_imul hx hb dX1_roomHoursHeld_24 ?_
  have q0 := Option.some.inj hf
  subst r0
  subst hQ
  refine x_iret (post := (fun H H1 => H1 = H)) S hr hlocks rfl ?_ hL dX1_roomHoursHeld_25
  exact rfl
set_option maxRecDepth 100000 in
set_option maxHeartbeats 4000000 in
theorem c_X0_roomHoursHeld (l : Launch) (G : xG) (z : Nat) (b : Nat) (v : xV) (r0 : Int32)  (hf : f_X0_roomHoursHeld v = some r0) : xM l yX0_roomHoursHeld wsX0_roomHoursHeld 2 40 G z [.ref b] (fun H => PX G b 37 (bkE G b) v H) (some (.int r0)) (fun H H1 => H1 = H) := by
  refine xM.of (cc := cX0_roomHoursHeld) (maxL := 6) (ret := (some .int)) (by decide +kernel) rfl (Nat.le_of_ble_eq_true rfl) ?_
  intro p e s m args below meth c ls Q hQ S hr hlocks hK hP hl
  obtain ⟨hx, hb, hml, hown, hts⟩ := id S
  have h_bk := hP
  have hL : ∀ q ∈ ([] : List Loc), z ≤ q.base := fun q h => absurd h List.not_mem_nil
  have hl : lv_has ls 6 [(0, .ref b)] := hl
  have in0 : ∀ w ∈ u_ws RX0 TX0 9, w ∈ wsX0_roomHoursHeld := fun _ h => List.mem_cons_of_mem _ (List.mem_append_left _ (List.mem_append_right _ h))
  unfold f_X0_roomHoursHeld at hf
  refine lv_iconst (v := 0) hx hb dX0_roomHoursHeld_0 (by decide) ?_
  refine lv_istore_n (lv' := [(1, .int 0), (0, .ref b)]) hx hb dX0_roomHoursHeld_1 rfl hl (by decide) rfl (fun ls hl => ?_)
  refine lv_aload_n hx hb dX0_roomHoursHeld_2 rfl (lv_at hl 1 rfl) ?_
  refine x_get S hK h_bk 0 (by decide) rfl rfl rfl in0 7 (by decide) (xm 1 rfl) (x := .ref (b + 5)) rfl dX0_roomHoursHeld_3 ?_
  refine lv_astore_n (lv' := [(2, .ref (b + 5)), (1, .int 0), (0, .ref b)]) hx hb dX0_roomHoursHeld_6 rfl hl (by decide) rfl (fun ls hl => ?_)
  refine lv_aload_n hx hb dX0_roomHoursHeld_7 rfl (lv_at hl 0 rfl) ?_
  refine x_alen S hK h_bk 5 (by decide) rfl rfl 2 rfl (r := 12) rfl dX0_roomHoursHeld_8 ?_
  refine lv_istore_n (lv' := [(3, .int 12), (2, .ref (b + 5)), (1, .int 0), (0, .ref b)]) hx hb dX0_roomHoursHeld_9 rfl hl (by decide) rfl (fun ls hl => ?_)
  refine lv_iconst (v := 0) hx hb dX0_roomHoursHeld_10 (by decide) ?_
  refine lv_istore (lv' := [(4, .int 0), (3, .int 12), (2, .ref (b + 5)), (1, .int 0), (0, .ref b)]) hx hb dX0_roomHoursHeld_11 hl (by decide) rfl (fun ls hl => ?_)
  have lp_13 : ∀ (K_13 : Int32 → Int32 → Option Int32), (∀ (x_1 : Int32) (x_2 : Int32) (locs : List Loc) (ls : Array Slot), (∀ q ∈ locs, z ≤ q.base) → lv_has ls 6 [(1, .int x_1)] → K_13 x_1 x_2 = some r0 → W p l e { frames := 2, cells := 0, slots := 0, locals := 40 } s m args below meth c s.heap locs 0 0 Q (F0 m 39 ls [])) → ∀ (n : Nat) (x_1 : Int32) (x_2 : Int32) (locs : List Loc) (ls : Array Slot), (∀ q ∈ locs, z ≤ q.base) → lv_has ls 6 [(1, .int x_1), (2, .ref (b + 5)), (3, .int 12), (4, .int x_2)] → L_X0_roomHoursHeld_13 K_13 v n x_1 x_2 = some r0 → W p l e { frames := 2, cells := 0, slots := 0, locals := 40 } s m args below meth c s.heap locs 0 0 Q (F0 m 13 ls []) := by
    intro K_13 hK_13 n
    induction n with
    | zero =>
      intro x_1 x_2 locs ls hL hl hf
      cases hf
    | succ n ih_13 =>
      intro x_1 x_2 locs ls hL hl hf
      unfold L_X0_roomHoursHeld_13 at hf
      refine lv_iload hx hb dX0_roomHoursHeld_13 (lv_at hl 3 rfl) ?_
      refine lv_iload_n hx hb dX0_roomHoursHeld_15 rfl (lv_at hl 2 rfl) ?_
      refine lv_icmp_ge (tgt := 39) hx hb dX0_roomHoursHeld_16 (by decide) (fun c_3 => ?_) (fun c_3 => ?_)
      · have hf := (if_pos c_3).symm.trans hf
        exact hK_13 x_1 x_2 _ _ hL (lv_sub hl [0] rfl) hf
      · have hf := (if_neg c_3).symm.trans hf
        refine lv_aload_n hx hb dX0_roomHoursHeld_19 rfl (lv_at hl 1 rfl) ?_
        refine lv_iload hx hb dX0_roomHoursHeld_20 (lv_at hl 3 rfl) ?_
        obtain ⟨g_4, hf⟩ := xg_some hf
        obtain ⟨i_5, ei_5, hf⟩ := xl_some hf
        have hi_i_5 : i_5 < 12 := by rw [ei_5]; exact xin_lt g_4
        refine x_aald S hK h_bk 5 (by decide) rfl rfl 2 rfl i_5 ei_5.symm g_4 (r := (b + (6 + 2 * i_5))) rfl dX0_roomHoursHeld_22 ?_
        refine lv_astore (lv' := [(5, .ref (b + (6 + 2 * i_5))), (1, .int x_1), (2, .ref (b + 5)), (3, .int 12), (4, .int x_2)]) hx hb dX0_roomHoursHeld_23 hl (by decide) rfl (fun ls hl => ?_)
        refine lv_iload_n hx hb dX0_roomHoursHeld_25 rfl (lv_at hl 1 rfl) ?_
        refine lv_aload hx hb dX0_roomHoursHeld_26 (lv_at hl 0 rfl) ?_
        obtain ⟨r_6, e_7, hf⟩ := xb_some hf
        refine x_callVi (As := []) (rest := [.int x_1]) S hK (c_X1_roomHoursHeld l G z b v i_5 r_6 hi_i_5 e_7) gX0_roomHoursHeld_X1_roomHoursHeld rfl 0 (by decide +kernel) rfl ⟨Nat.le_of_ble_eq_true rfl, Nat.le_of_ble_eq_true rfl⟩ h_bk (6 + 2 * i_5) (by omega) rfl (bkE_hire G b i_5 hi_i_5 _) rfl h_bk hl.1 rfl (Nat.le_of_ble_eq_true rfl) dX0_roomHoursHeld_28 hL ⟨Nat.zero_le _, Nat.zero_le _⟩ (fun H1 locs hL hpost => ?_)
        subst hpost
        refine lv_iadd hx hb dX0_roomHoursHeld_31 ?_
        obtain ⟨x_8, ex_8, hf⟩ := xl_some hf
        refine x_top ex_8 ?_
        refine lv_istore_n (lv' := [(1, .int x_8), (5, .ref (b + (6 + 2 * i_5))), (2, .ref (b + 5)), (3, .int 12), (4, .int x_2)]) hx hb dX0_roomHoursHeld_32 rfl hl (by decide) rfl (fun ls hl => ?_)
        obtain ⟨x_9, ex_9, hf⟩ := xl_some hf
        refine lv_iinc (v := x_9) (lv' := [(4, .int x_9), (1, .int x_8), (5, .ref (b + (6 + 2 * i_5))), (2, .ref (b + 5)), (3, .int 12)]) hx hb dX0_roomHoursHeld_33 hl (k := 4) rfl (by rw [ex_9]; rfl) (by decide) rfl (fun ls hl => ?_)
        refine lv_goto (tgt := 13) hx hb dX0_roomHoursHeld_36 (by decide) ?_
        exact ih_13 x_8 x_9 _ _ hL (lv_sub hl [1, 3, 4, 0] rfl) hf
  refine lp_13 _ (fun x_10 x_11 locs ls hL hl hf => ?_) 100000 0 0 _ _ hL (lv_sub hl [3, 2, 1, 0] rfl) hf
  refine lv_iload_n hx hb dX0_roomHoursHeld_39 rfl (lv_at hl 0 rfl) ?_
  have q0 := Option.some.inj hf
  subst r0
  subst hQ
  refine x_iret (post := (fun H H1 => H1 = H)) S hr hlocks rfl ?_ hL dX0_roomHoursHeld_40
  exact rfl
set_option maxRecDepth 100000 in
set_option maxHeartbeats 4000000 in
theorem c_X0_sessionInOrder (l : Launch) (G : xG) (z : Nat) (b : Nat) (v : xV) (p1 : Int32) (p2 : Int32) (r0 : Int32)  (hf : f_X0_sessionInOrder v p1 p2 = some r0) : xM l yX0_sessionInOrder wsX0_sessionInOrder 3 71 G z [.ref b, .int p1, .int p2] (fun H => PX G b 37 (bkE G b) v H) (some (.int r0)) (fun H H1 => H1 = H) := by
  refine xM.of (cc := cX0_sessionInOrder) (maxL := 7) (ret := (some .int)) (by decide +kernel) rfl (Nat.le_of_ble_eq_true rfl) ?_
  intro p e s m args below meth c ls Q hQ S hr hlocks hK hP hl
  obtain ⟨hx, hb, hml, hown, hts⟩ := id S
  have h_bk := hP
  have hL : ∀ q ∈ ([] : List Loc), z ≤ q.base := fun q h => absurd h List.not_mem_nil
  have hl : lv_has ls 7 [(0, .ref b), (1, .int p1), (2, .int p2)] := hl
  have in0 : ∀ w ∈ u_ws RX0 TX0 9, w ∈ wsX0_sessionInOrder := fun _ h => List.mem_cons_of_mem _ (List.mem_append_left _ (List.mem_append_right _ h))
  unfold f_X0_sessionInOrder at hf
  refine lv_aload_n hx hb dX0_sessionInOrder_0 rfl (lv_at hl 0 rfl) ?_
  refine x_get S hK h_bk 0 (by decide) rfl rfl rfl in0 7 (by decide) (xm 1 rfl) (x := .ref (b + 5)) rfl dX0_sessionInOrder_1 ?_
  refine lv_astore_n (lv' := [(3, .ref (b + 5)), (0, .ref b), (1, .int p1), (2, .int p2)]) hx hb dX0_sessionInOrder_4 rfl hl (by decide) rfl (fun ls hl => ?_)
  refine lv_aload_n hx hb dX0_sessionInOrder_5 rfl (lv_at hl 0 rfl) ?_
  refine x_alen S hK h_bk 5 (by decide) rfl rfl 2 rfl (r := 12) rfl dX0_sessionInOrder_6 ?_
  refine lv_istore (lv' := [(4, .int 12), (3, .ref (b + 5)), (0, .ref b), (1, .int p1), (2, .int p2)]) hx hb dX0_sessionInOrder_7 hl (by decide) rfl (fun ls hl => ?_)
  refine lv_iconst (v := 0) hx hb dX0_sessionInOrder_9 (by decide) ?_
  refine lv_istore (lv' := [(5, .int 0), (4, .int 12), (3, .ref (b + 5)), (0, .ref b), (1, .int p1), (2, .int p2)]) hx hb dX0_sessionInOrder_10 hl (by decide) rfl (fun ls hl => ?_)
  have lp_12 : ∀ (K_12 : Int32 → Option Int32), (∀ (x_1 : Int32) (locs : List Loc) (ls : Array Slot), (∀ q ∈ locs, z ≤ q.base) → lv_has ls 7 [] → K_12 x_1 = some r0 → W p l e { frames := 3, cells := 0, slots := 0, locals := 71 } s m args below meth c s.heap locs 0 0 Q (F0 m 59 ls [])) → ∀ (n : Nat) (x_1 : Int32) (locs : List Loc) (ls : Array Slot), (∀ q ∈ locs, z ≤ q.base) → lv_has ls 7 [(0, .ref b), (1, .int p1), (2, .int p2), (3, .ref (b + 5)), (4, .int 12), (5, .int x_1)] → L_X0_sessionInOrder_12 K_12 v p1 p2 n x_1 = some r0 → W p l e { frames := 3, cells := 0, slots := 0, locals := 71 } s m args below meth c s.heap locs 0 0 Q (F0 m 12 ls []) := by
    intro K_12 hK_12 n
    induction n with
    | zero =>
      intro x_1 locs ls hL hl hf
      cases hf
    | succ n ih_12 =>
      intro x_1 locs ls hL hl hf
      unfold L_X0_sessionInOrder_12 at hf
      refine lv_iload hx hb dX0_sessionInOrder_12 (lv_at hl 5 rfl) ?_
      refine lv_iload hx hb dX0_sessionInOrder_14 (lv_at hl 4 rfl) ?_
      refine lv_icmp_ge (tgt := 59) hx hb dX0_sessionInOrder_16 (by decide) (fun c_2 => ?_) (fun c_2 => ?_)
      · have hf := (if_pos c_2).symm.trans hf
        exact hK_12 x_1 _ _ hL (lv_sub hl [] rfl) hf
      · have hf := (if_neg c_2).symm.trans hf
        refine lv_aload_n hx hb dX0_sessionInOrder_19 rfl (lv_at hl 3 rfl) ?_
        refine lv_iload hx hb dX0_sessionInOrder_20 (lv_at hl 5 rfl) ?_
        obtain ⟨g_3, hf⟩ := xg_some hf
        obtain ⟨i_4, ei_4, hf⟩ := xl_some hf
        have hi_i_4 : i_4 < 12 := by rw [ei_4]; exact xin_lt g_3
        refine x_aald S hK h_bk 5 (by decide) rfl rfl 2 rfl i_4 ei_4.symm g_3 (r := (b + (6 + 2 * i_4))) rfl dX0_sessionInOrder_22 ?_
        refine lv_astore (lv' := [(6, .ref (b + (6 + 2 * i_4))), (0, .ref b), (1, .int p1), (2, .int p2), (3, .ref (b + 5)), (4, .int 12), (5, .int x_1)]) hx hb dX0_sessionInOrder_23 hl (by decide) rfl (fun ls hl => ?_)
        refine lv_aload hx hb dX0_sessionInOrder_25 (lv_at hl 0 rfl) ?_
        refine lv_iload_n hx hb dX0_sessionInOrder_27 rfl (lv_at hl 2 rfl) ?_
        obtain ⟨r_5, e_6, hf⟩ := xb_some hf
        refine x_callVi (As := [.int p1]) (rest := []) S hK (c_X1_isOn l G z b v i_4 p1 r_5 hi_i_4 e_6) gX0_sessionInOrder_X1_isOn rfl 1 (by decide +kernel) rfl ⟨Nat.le_of_ble_eq_true rfl, Nat.le_of_ble_eq_true rfl⟩ h_bk (6 + 2 * i_4) (by omega) rfl (bkE_hire G b i_4 hi_i_4 _) rfl h_bk hl.1 rfl (Nat.le_of_ble_eq_true rfl) dX0_sessionInOrder_28 hL ⟨Nat.zero_le _, Nat.zero_le _⟩ (fun H1 locs hL hpost => ?_)
        subst hpost
        refine lv_if_eq (tgt := 53) hx hb dX0_sessionInOrder_31 (by decide) (fun c_7 => ?_) (fun c_7 => ?_)
        · have hf := (if_pos c_7).symm.trans hf
          obtain ⟨x_8, ex_8, hf⟩ := xl_some hf
          refine lv_iinc (v := x_8) (lv' := [(5, .int x_8), (6, .ref (b + (6 + 2 * i_4))), (0, .ref b), (1, .int p1), (2, .int p2), (3, .ref (b + 5)), (4, .int 12)]) hx hb dX0_sessionInOrder_53 hl (k := 6) rfl (by rw [ex_8]; rfl) (by decide) rfl (fun ls hl => ?_)
          refine lv_goto (tgt := 12) hx hb dX0_sessionInOrder_56 (by decide) ?_
          exact ih_12 x_8 _ _ hL (lv_sub hl [2, 3, 4, 5, 6, 0] rfl) hf
        · have hf := (if_neg c_7).symm.trans hf
          refine lv_aload_n hx hb dX0_sessionInOrder_34 rfl (lv_at hl 1 rfl) ?_
          refine lv_aload hx hb dX0_sessionInOrder_35 (lv_at hl 0 rfl) ?_
          refine lv_iload_n hx hb dX0_sessionInOrder_37 rfl (lv_at hl 2 rfl) ?_
          obtain ⟨r_9, e_10, hf⟩ := xb_some hf
          refine x_callVi (As := [.ref (b + (6 + 2 * i_4)), .int p1]) (rest := []) S hK (c_X0_aheadOnDay l G z b v i_4 p1 r_9 hi_i_4 e_10) gX0_sessionInOrder_X0_aheadOnDay rfl 2 (by decide +kernel) rfl ⟨Nat.le_of_ble_eq_true rfl, Nat.le_of_ble_eq_true rfl⟩ h_bk 0 (by decide) rfl rfl rfl h_bk hl.1 rfl (Nat.le_of_ble_eq_true rfl) dX0_sessionInOrder_38 hL ⟨Nat.zero_le _, Nat.zero_le _⟩ (fun H1 locs hL hpost => ?_)
          subst hpost
          refine lv_iload_n hx hb dX0_sessionInOrder_41 rfl (lv_at hl 3 rfl) ?_
          refine lv_icmp_ne (tgt := 53) hx hb dX0_sessionInOrder_42 (by decide) (fun c_11 => ?_) (fun c_11 => ?_)
          · have hf := (if_neg c_11).symm.trans hf
            obtain ⟨x_12, ex_12, hf⟩ := xl_some hf
            refine lv_iinc (v := x_12) (lv' := [(5, .int x_12), (6, .ref (b + (6 + 2 * i_4))), (0, .ref b), (1, .int p1), (2, .int p2), (3, .ref (b + 5)), (4, .int 12)]) hx hb dX0_sessionInOrder_53 hl (k := 6) rfl (by rw [ex_12]; rfl) (by decide) rfl (fun ls hl => ?_)
            refine lv_goto (tgt := 12) hx hb dX0_sessionInOrder_56 (by decide) ?_
            exact ih_12 x_12 _ _ hL (lv_sub hl [2, 3, 4, 5, 6, 0] rfl) hf
          · have hf := (if_pos c_11).symm.trans hf
            refine lv_aload_n hx hb dX0_sessionInOrder_45 rfl (lv_at hl 1 rfl) ?_
            refine lv_aload hx hb dX0_sessionInOrder_46 (lv_at hl 0 rfl) ?_
            refine lv_iload_n hx hb dX0_sessionInOrder_48 rfl (lv_at hl 2 rfl) ?_
            obtain ⟨r_13, e_14, hf⟩ := xb_some hf
            refine x_callVi (As := [.ref (b + (6 + 2 * i_4)), .int p1]) (rest := []) S hK (c_X0_sessionNumber l G z b v i_4 p1 r_13 hi_i_4 e_14) gX0_sessionInOrder_X0_sessionNumber rfl 2 (by decide +kernel) rfl ⟨Nat.le_of_ble_eq_true rfl, Nat.le_of_ble_eq_true rfl⟩ h_bk 0 (by decide) rfl rfl rfl h_bk hl.1 rfl (Nat.le_of_ble_eq_true rfl) dX0_sessionInOrder_49 hL ⟨Nat.zero_le _, Nat.zero_le _⟩ (fun H1 locs hL hpost => ?_)
            subst hpost
            have q0 := Option.some.inj hf
            subst r0
            subst hQ
            refine x_iret (post := (fun H H1 => H1 = H)) S hr hlocks rfl ?_ hL dX0_sessionInOrder_52
            exact rfl
  refine lp_12 _ (fun x_15 locs ls hL hl hf => ?_) 100000 0 _ _ hL (lv_sub hl [3, 4, 5, 2, 1, 0] rfl) hf
  refine lv_ldc (v := (-2000000004)) hx hb hown (hts _ (xm 2 rfl)) dX0_sessionInOrder_59 ?_
  have q0 := Option.some.inj hf
  subst r0
  subst hQ
  refine x_iret (post := (fun H H1 => H1 = H)) S hr hlocks rfl ?_ hL dX0_sessionInOrder_61
  exact rfl
set_option maxRecDepth 100000 in
set_option maxHeartbeats 4000000 in
theorem c_X0_sessionsNotCancelled (l : Launch) (G : xG) (z : Nat) (b : Nat) (v : xV) (r0 : Int32)  (hf : f_X0_sessionsNotCancelled v = some r0) : xM l yX0_sessionsNotCancelled wsX0_sessionsNotCancelled 1 20 G z [.ref b] (fun H => PX G b 37 (bkE G b) v H) (some (.int r0)) (fun H H1 => H1 = H) := by
  refine xM.of (cc := cX0_sessionsNotCancelled) (maxL := 6) (ret := (some .int)) (by decide +kernel) rfl (Nat.le_of_ble_eq_true rfl) ?_
  intro p e s m args below meth c ls Q hQ S hr hlocks hK hP hl
  obtain ⟨hx, hb, hml, hown, hts⟩ := id S
  have h_bk := hP
  have hL : ∀ q ∈ ([] : List Loc), z ≤ q.base := fun q h => absurd h List.not_mem_nil
  have hl : lv_has ls 6 [(0, .ref b)] := hl
  have in0 : ∀ w ∈ u_ws RX0 TX0 9, w ∈ wsX0_sessionsNotCancelled := fun _ h => List.mem_cons_of_mem _ (List.mem_append_left _ (List.mem_append_right _ h))
  have in1 : ∀ w ∈ u_ws RX1 TX1 15, w ∈ wsX0_sessionsNotCancelled := fun _ h => List.mem_cons_of_mem _ (List.mem_append_right _ h)
  unfold f_X0_sessionsNotCancelled at hf
  refine lv_iconst (v := 0) hx hb dX0_sessionsNotCancelled_0 (by decide) ?_
  refine lv_istore_n (lv' := [(1, .int 0), (0, .ref b)]) hx hb dX0_sessionsNotCancelled_1 rfl hl (by decide) rfl (fun ls hl => ?_)
  refine lv_aload_n hx hb dX0_sessionsNotCancelled_2 rfl (lv_at hl 1 rfl) ?_
  refine x_get S hK h_bk 0 (by decide) rfl rfl rfl in0 7 (by decide) (xm 1 rfl) (x := .ref (b + 5)) rfl dX0_sessionsNotCancelled_3 ?_
  refine lv_astore_n (lv' := [(2, .ref (b + 5)), (1, .int 0), (0, .ref b)]) hx hb dX0_sessionsNotCancelled_6 rfl hl (by decide) rfl (fun ls hl => ?_)
  refine lv_aload_n hx hb dX0_sessionsNotCancelled_7 rfl (lv_at hl 0 rfl) ?_
  refine x_alen S hK h_bk 5 (by decide) rfl rfl 2 rfl (r := 12) rfl dX0_sessionsNotCancelled_8 ?_
  refine lv_istore_n (lv' := [(3, .int 12), (2, .ref (b + 5)), (1, .int 0), (0, .ref b)]) hx hb dX0_sessionsNotCancelled_9 rfl hl (by decide) rfl (fun ls hl => ?_)
  refine lv_iconst (v := 0) hx hb dX0_sessionsNotCancelled_10 (by decide) ?_
  refine lv_istore (lv' := [(4, .int 0), (3, .int 12), (2, .ref (b + 5)), (1, .int 0), (0, .ref b)]) hx hb dX0_sessionsNotCancelled_11 hl (by decide) rfl (fun ls hl => ?_)
  have lp_13 : ∀ (K_13 : Int32 → Int32 → Option Int32), (∀ (x_1 : Int32) (x_2 : Int32) (locs : List Loc) (ls : Array Slot), (∀ q ∈ locs, z ≤ q.base) → lv_has ls 6 [(1, .int x_1)] → K_13 x_1 x_2 = some r0 → W p l e { frames := 1, cells := 0, slots := 0, locals := 20 } s m args below meth c s.heap locs 0 0 Q (F0 m 48 ls [])) → ∀ (n : Nat) (x_1 : Int32) (x_2 : Int32) (locs : List Loc) (ls : Array Slot), (∀ q ∈ locs, z ≤ q.base) → lv_has ls 6 [(1, .int x_1), (2, .ref (b + 5)), (3, .int 12), (4, .int x_2)] → L_X0_sessionsNotCancelled_13 K_13 v n x_1 x_2 = some r0 → W p l e { frames := 1, cells := 0, slots := 0, locals := 20 } s m args below meth c s.heap locs 0 0 Q (F0 m 13 ls []) := by
    intro K_13 hK_13 n
    induction n with
    | zero =>
      intro x_1 x_2 locs ls hL hl hf
      cases hf
    | succ n ih_13 =>
      intro x_1 x_2 locs ls hL hl hf
      unfold L_X0_sessionsNotCancelled_13 at hf
      refine lv_iload hx hb dX0_sessionsNotCancelled_13 (lv_at hl 3 rfl) ?_
      refine lv_iload_n hx hb dX0_sessionsNotCancelled_15 rfl (lv_at hl 2 rfl) ?_
      refine lv_icmp_ge (tgt := 48) hx hb dX0_sessionsNotCancelled_16 (by decide) (fun c_3 => ?_) (fun c_3 => ?_)
      · have hf := (if_pos c_3).symm.trans hf
        exact hK_13 x_1 x_2 _ _ hL (lv_sub hl [0] rfl) hf
      · have hf := (if_neg c_3).symm.trans hf
        refine lv_aload_n hx hb dX0_sessionsNotCancelled_19 rfl (lv_at hl 1 rfl) ?_
        refine lv_iload hx hb dX0_sessionsNotCancelled_20 (lv_at hl 3 rfl) ?_
        obtain ⟨g_4, hf⟩ := xg_some hf
        obtain ⟨i_5, ei_5, hf⟩ := xl_some hf
        have hi_i_5 : i_5 < 12 := by rw [ei_5]; exact xin_lt g_4
        refine x_aald S hK h_bk 5 (by decide) rfl rfl 2 rfl i_5 ei_5.symm g_4 (r := (b + (6 + 2 * i_5))) rfl dX0_sessionsNotCancelled_22 ?_
        refine lv_astore (lv' := [(5, .ref (b + (6 + 2 * i_5))), (1, .int x_1), (2, .ref (b + 5)), (3, .int 12), (4, .int x_2)]) hx hb dX0_sessionsNotCancelled_23 hl (by decide) rfl (fun ls hl => ?_)
        refine lv_iload_n hx hb dX0_sessionsNotCancelled_25 rfl (lv_at hl 1 rfl) ?_
        refine lv_aload hx hb dX0_sessionsNotCancelled_26 (lv_at hl 0 rfl) ?_
        refine x_get S hK h_bk (6 + 2 * i_5) (by omega) rfl (bkE_hire G b i_5 hi_i_5 _) rfl in1 5 (by decide) (xm 2 rfl) (x := .int (v (6 + 2 * i_5) 5)) rfl dX0_sessionsNotCancelled_28 ?_
        refine lv_aload hx hb dX0_sessionsNotCancelled_31 (lv_at hl 0 rfl) ?_
        refine x_get S hK h_bk (6 + 2 * i_5) (by omega) rfl (bkE_hire G b i_5 hi_i_5 _) rfl in1 10 (by decide) (xm 3 rfl) (x := .int (v (6 + 2 * i_5) 10)) rfl dX0_sessionsNotCancelled_33 ?_
        obtain ⟨r_6, e_7, hf⟩ := xb_some hf
        refine x_callTi (As := [.int (v (6 + 2 * i_5) 10)]) (rest := [.int (v (6 + 2 * i_5) 5), .int x_1]) S hK (c_J6_bitCount_0f7a4 l G z (v (6 + 2 * i_5) 10) r_6 e_7) gX0_sessionsNotCancelled_J6_bitCount_0f7a4 rfl 1 (by decide +kernel) rfl ⟨Nat.le_of_ble_eq_true rfl, Nat.le_of_ble_eq_true rfl⟩ rfl hl.1 rfl (Nat.le_of_ble_eq_true rfl) dX0_sessionsNotCancelled_36 hL ⟨Nat.zero_le _, Nat.zero_le _⟩ (fun H1 locs hL hpost => ?_)
        subst hpost
        refine lv_isub hx hb dX0_sessionsNotCancelled_39 ?_
        refine lv_iadd hx hb dX0_sessionsNotCancelled_40 ?_
        obtain ⟨x_8, ex_8, hf⟩ := xl_some hf
        refine x_top ex_8 ?_
        refine lv_istore_n (lv' := [(1, .int x_8), (5, .ref (b + (6 + 2 * i_5))), (2, .ref (b + 5)), (3, .int 12), (4, .int x_2)]) hx hb dX0_sessionsNotCancelled_41 rfl hl (by decide) rfl (fun ls hl => ?_)
        obtain ⟨x_9, ex_9, hf⟩ := xl_some hf
        refine lv_iinc (v := x_9) (lv' := [(4, .int x_9), (1, .int x_8), (5, .ref (b + (6 + 2 * i_5))), (2, .ref (b + 5)), (3, .int 12)]) hx hb dX0_sessionsNotCancelled_42 hl (k := 4) rfl (by rw [ex_9]; rfl) (by decide) rfl (fun ls hl => ?_)
        refine lv_goto (tgt := 13) hx hb dX0_sessionsNotCancelled_45 (by decide) ?_
        exact ih_13 x_8 x_9 _ _ hL (lv_sub hl [1, 3, 4, 0] rfl) hf
  refine lp_13 _ (fun x_10 x_11 locs ls hL hl hf => ?_) 100000 0 0 _ _ hL (lv_sub hl [3, 2, 1, 0] rfl) hf
  refine lv_iload_n hx hb dX0_sessionsNotCancelled_48 rfl (lv_at hl 0 rfl) ?_
  have q0 := Option.some.inj hf
  subst r0
  subst hQ
  refine x_iret (post := (fun H H1 => H1 = H)) S hr hlocks rfl ?_ hL dX0_sessionsNotCancelled_49
  exact rfl
set_option maxRecDepth 100000 in
set_option maxHeartbeats 4000000 in
theorem c_X0_sessionsOn (l : Launch) (G : xG) (z : Nat) (b : Nat) (v : xV) (p1 : Int32) (r0 : Int32)  (hf : f_X0_sessionsOn v p1 = some r0) : xM l yX0_sessionsOn wsX0_sessionsOn 2 44 G z [.ref b, .int p1] (fun H => PX G b 37 (bkE G b) v H) (some (.int r0)) (fun H H1 => H1 = H) := by
  refine xM.of (cc := cX0_sessionsOn) (maxL := 7) (ret := (some .int)) (by decide +kernel) rfl (Nat.le_of_ble_eq_true rfl) ?_
  intro p e s m args below meth c ls Q hQ S hr hlocks hK hP hl
  obtain ⟨hx, hb, hml, hown, hts⟩ := id S
  have h_bk := hP
  have hL : ∀ q ∈ ([] : List Loc), z ≤ q.base := fun q h => absurd h List.not_mem_nil
  have hl : lv_has ls 7 [(0, .ref b), (1, .int p1)] := hl
  have in0 : ∀ w ∈ u_ws RX0 TX0 9, w ∈ wsX0_sessionsOn := fun _ h => List.mem_cons_of_mem _ (List.mem_append_left _ (List.mem_append_right _ h))
  unfold f_X0_sessionsOn at hf
  refine lv_iconst (v := 0) hx hb dX0_sessionsOn_0 (by decide) ?_
  refine lv_istore_n (lv' := [(2, .int 0), (0, .ref b), (1, .int p1)]) hx hb dX0_sessionsOn_1 rfl hl (by decide) rfl (fun ls hl => ?_)
  refine lv_aload_n hx hb dX0_sessionsOn_2 rfl (lv_at hl 1 rfl) ?_
  refine x_get S hK h_bk 0 (by decide) rfl rfl rfl in0 7 (by decide) (xm 1 rfl) (x := .ref (b + 5)) rfl dX0_sessionsOn_3 ?_
  refine lv_astore_n (lv' := [(3, .ref (b + 5)), (2, .int 0), (0, .ref b), (1, .int p1)]) hx hb dX0_sessionsOn_6 rfl hl (by decide) rfl (fun ls hl => ?_)
  refine lv_aload_n hx hb dX0_sessionsOn_7 rfl (lv_at hl 0 rfl) ?_
  refine x_alen S hK h_bk 5 (by decide) rfl rfl 2 rfl (r := 12) rfl dX0_sessionsOn_8 ?_
  refine lv_istore (lv' := [(4, .int 12), (3, .ref (b + 5)), (2, .int 0), (0, .ref b), (1, .int p1)]) hx hb dX0_sessionsOn_9 hl (by decide) rfl (fun ls hl => ?_)
  refine lv_iconst (v := 0) hx hb dX0_sessionsOn_11 (by decide) ?_
  refine lv_istore (lv' := [(5, .int 0), (4, .int 12), (3, .ref (b + 5)), (2, .int 0), (0, .ref b), (1, .int p1)]) hx hb dX0_sessionsOn_12 hl (by decide) rfl (fun ls hl => ?_)
  have lp_14 : ∀ (K_14 : Int32 → Int32 → Option Int32), (∀ (x_1 : Int32) (x_2 : Int32) (locs : List Loc) (ls : Array Slot), (∀ q ∈ locs, z ≤ q.base) → lv_has ls 7 [(2, .int x_1)] → K_14 x_1 x_2 = some r0 → W p l e { frames := 2, cells := 0, slots := 0, locals := 44 } s m args below meth c s.heap locs 0 0 Q (F0 m 50 ls [])) → ∀ (n : Nat) (x_1 : Int32) (x_2 : Int32) (locs : List Loc) (ls : Array Slot), (∀ q ∈ locs, z ≤ q.base) → lv_has ls 7 [(1, .int p1), (2, .int x_1), (3, .ref (b + 5)), (4, .int 12), (5, .int x_2)] → L_X0_sessionsOn_14 K_14 v p1 n x_1 x_2 = some r0 → W p l e { frames := 2, cells := 0, slots := 0, locals := 44 } s m args below meth c s.heap locs 0 0 Q (F0 m 14 ls []) := by
    intro K_14 hK_14 n
    induction n with
    | zero =>
      intro x_1 x_2 locs ls hL hl hf
      cases hf
    | succ n ih_14 =>
      intro x_1 x_2 locs ls hL hl hf
      unfold L_X0_sessionsOn_14 at hf
      refine lv_iload hx hb dX0_sessionsOn_14 (lv_at hl 4 rfl) ?_
      refine lv_iload hx hb dX0_sessionsOn_16 (lv_at hl 3 rfl) ?_
      refine lv_icmp_ge (tgt := 50) hx hb dX0_sessionsOn_18 (by decide) (fun c_3 => ?_) (fun c_3 => ?_)
      · have hf := (if_pos c_3).symm.trans hf
        exact hK_14 x_1 x_2 _ _ hL (lv_sub hl [1] rfl) hf
      · have hf := (if_neg c_3).symm.trans hf
        refine lv_aload_n hx hb dX0_sessionsOn_21 rfl (lv_at hl 2 rfl) ?_
        refine lv_iload hx hb dX0_sessionsOn_22 (lv_at hl 4 rfl) ?_
        obtain ⟨g_4, hf⟩ := xg_some hf
        obtain ⟨i_5, ei_5, hf⟩ := xl_some hf
        have hi_i_5 : i_5 < 12 := by rw [ei_5]; exact xin_lt g_4
        refine x_aald S hK h_bk 5 (by decide) rfl rfl 2 rfl i_5 ei_5.symm g_4 (r := (b + (6 + 2 * i_5))) rfl dX0_sessionsOn_24 ?_
        refine lv_astore (lv' := [(6, .ref (b + (6 + 2 * i_5))), (1, .int p1), (2, .int x_1), (3, .ref (b + 5)), (4, .int 12), (5, .int x_2)]) hx hb dX0_sessionsOn_25 hl (by decide) rfl (fun ls hl => ?_)
        refine lv_iload_n hx hb dX0_sessionsOn_27 rfl (lv_at hl 2 rfl) ?_
        refine lv_aload hx hb dX0_sessionsOn_28 (lv_at hl 0 rfl) ?_
        refine lv_iload_n hx hb dX0_sessionsOn_30 rfl (lv_at hl 1 rfl) ?_
        obtain ⟨r_6, e_7, hf⟩ := xb_some hf
        refine x_callVi (As := [.int p1]) (rest := [.int x_1]) S hK (c_X1_isOn l G z b v i_5 p1 r_6 hi_i_5 e_7) gX0_sessionsOn_X1_isOn rfl 1 (by decide +kernel) rfl ⟨Nat.le_of_ble_eq_true rfl, Nat.le_of_ble_eq_true rfl⟩ h_bk (6 + 2 * i_5) (by omega) rfl (bkE_hire G b i_5 hi_i_5 _) rfl h_bk hl.1 rfl (Nat.le_of_ble_eq_true rfl) dX0_sessionsOn_31 hL ⟨Nat.zero_le _, Nat.zero_le _⟩ (fun H1 locs hL hpost => ?_)
        subst hpost
        refine lv_if_eq (tgt := 41) hx hb dX0_sessionsOn_34 (by decide) (fun c_8 => ?_) (fun c_8 => ?_)
        · have hf := (if_pos c_8).symm.trans hf
          refine lv_iconst (v := 0) hx hb dX0_sessionsOn_41 (by decide) ?_
          refine lv_iadd hx hb dX0_sessionsOn_42 ?_
          obtain ⟨x_9, ex_9, hf⟩ := xl_some hf
          refine x_top ex_9 ?_
          refine lv_istore_n (lv' := [(2, .int x_9), (6, .ref (b + (6 + 2 * i_5))), (1, .int p1), (3, .ref (b + 5)), (4, .int 12), (5, .int x_2)]) hx hb dX0_sessionsOn_43 rfl hl (by decide) rfl (fun ls hl => ?_)
          obtain ⟨x_10, ex_10, hf⟩ := xl_some hf
          refine lv_iinc (v := x_10) (lv' := [(5, .int x_10), (2, .int x_9), (6, .ref (b + (6 + 2 * i_5))), (1, .int p1), (3, .ref (b + 5)), (4, .int 12)]) hx hb dX0_sessionsOn_44 hl (k := 5) rfl (by rw [ex_10]; rfl) (by decide) rfl (fun ls hl => ?_)
          refine lv_goto (tgt := 14) hx hb dX0_sessionsOn_47 (by decide) ?_
          exact ih_14 x_9 x_10 _ _ hL (lv_sub hl [3, 1, 4, 5, 0] rfl) hf
        · have hf := (if_neg c_8).symm.trans hf
          refine lv_iconst (v := 1) hx hb dX0_sessionsOn_37 (by decide) ?_
          refine lv_goto (tgt := 42) hx hb dX0_sessionsOn_38 (by decide) ?_
          refine lv_iadd hx hb dX0_sessionsOn_42 ?_
          obtain ⟨x_11, ex_11, hf⟩ := xl_some hf
          refine x_top ex_11 ?_
          refine lv_istore_n (lv' := [(2, .int x_11), (6, .ref (b + (6 + 2 * i_5))), (1, .int p1), (3, .ref (b + 5)), (4, .int 12), (5, .int x_2)]) hx hb dX0_sessionsOn_43 rfl hl (by decide) rfl (fun ls hl => ?_)
          obtain ⟨x_12, ex_12, hf⟩ := xl_some hf
          refine lv_iinc (v := x_12) (lv' := [(5, .int x_12), (2, .int x_11), (6, .ref (b + (6 + 2 * i_5))), (1, .int p1), (3, .ref (b + 5)), (4, .int 12)]) hx hb dX0_sessionsOn_44 hl (k := 5) rfl (by rw [ex_12]; rfl) (by decide) rfl (fun ls hl => ?_)
          refine lv_goto (tgt := 14) hx hb dX0_sessionsOn_47 (by decide) ?_
          exact ih_14 x_11 x_12 _ _ hL (lv_sub hl [3, 1, 4, 5, 0] rfl) hf
  refine lp_14 _ (fun x_13 x_14 locs ls hL hl hf => ?_) 100000 0 0 _ _ hL (lv_sub hl [5, 3, 2, 1, 0] rfl) hf
  refine lv_iload_n hx hb dX0_sessionsOn_50 rfl (lv_at hl 0 rfl) ?_
  have q0 := Option.some.inj hf
  subst r0
  subst hQ
  refine x_iret (post := (fun H H1 => H1 = H)) S hr hlocks rfl ?_ hL dX0_sessionsOn_51
  exact rfl
set_option maxRecDepth 100000 in
set_option maxHeartbeats 4000000 in
theorem c_X1_addFault (l : Launch) (G : xG) (z : Nat) (b : Nat) (v : xV) (i : Nat) (p1 : Int32) (p2 : Int32) (p3 : Int32) (p4 : Int32) (v' : xV) (hz_bk : z ≤ b) (hi_i : i < 12) (hf : f_X1_addFault v i p1 p2 p3 p4 = some v') : xM l yX1_addFault wsX1_addFault 0 0 G z [.ref (b + (6 + 2 * i)), .int p1, .int p2, .int p3, .int p4] (fun H => PX G b 37 (bkE G b) v H) none (fun H H1 => PX G b 37 (bkE G b) v' H1 ∧ XF (fun q => (b ≤ q ∧ q < b + 37)) H H1) := by
  refine xM.of (cc := cX1_addFault) (maxL := 6) (ret := none) (by decide +kernel) rfl (Nat.le_of_ble_eq_true rfl) ?_
  intro p e s m args below meth c ls Q hQ S hr hlocks hK hP hl
  obtain ⟨hx, hb, hml, hown, hts⟩ := id S
  have h_bk := hP
  have hL : ∀ q ∈ ([] : List Loc), z ≤ q.base := fun q h => absurd h List.not_mem_nil
  have hF : XF (fun q => (b ≤ q ∧ q < b + 37)) s.heap s.heap := XF.rf
  have hl : lv_has ls 6 [(0, .ref (b + (6 + 2 * i))), (1, .int p1), (2, .int p2), (3, .int p3), (4, .int p4)] := hl
  have in1 : ∀ w ∈ u_ws RX1 TX1 15, w ∈ wsX1_addFault := fun _ h => List.mem_cons_of_mem _ (List.mem_append_right _ h)
  unfold f_X1_addFault at hf
  refine lv_aload_n hx hb dX1_addFault_0 rfl (lv_at hl 0 rfl) ?_
  refine x_get S hK h_bk (6 + 2 * i) (by omega) rfl (bkE_hire G b i hi_i _) rfl in1 12 (by decide) (xm 1 rfl) (x := .int (v (6 + 2 * i) 12)) rfl dX1_addFault_1 ?_
  refine lv_iconst (v := 4) hx hb dX1_addFault_4 (by decide) ?_
  refine lv_imul hx hb dX1_addFault_5 ?_
  obtain ⟨x_1, ex_1, hf⟩ := xl_some hf
  refine x_top ex_1 ?_
  refine lv_istore (lv' := [(5, .int x_1), (0, .ref (b + (6 + 2 * i))), (1, .int p1), (2, .int p2), (3, .int p3), (4, .int p4)]) hx hb dX1_addFault_6 hl (by decide) rfl (fun ls hl => ?_)
  refine lv_iload hx hb dX1_addFault_8 (lv_at hl 0 rfl) ?_
  refine lv_if_lt (tgt := 25) hx hb dX1_addFault_10 (by decide) (fun c_2 => ?_) (fun c_2 => ?_)
  · have hf := (if_pos c_2).symm.trans hf
    have q0 := Option.some.inj hf
    subst v'
    subst hQ
    refine x_vret (post := (fun H H1 => PX G b 37 (bkE G b) v H1 ∧ XF (fun q => (b ≤ q ∧ q < b + 37)) H H1)) S hr hlocks rfl ?_ hL dX1_addFault_25
    exact ⟨h_bk, hF⟩
  · have hf := (if_neg c_2).symm.trans hf
    refine lv_iload hx hb dX1_addFault_13 (lv_at hl 0 rfl) ?_
    refine lv_iconst (v := 4) hx hb dX1_addFault_15 (by decide) ?_
    refine lv_iadd hx hb dX1_addFault_16 ?_
    refine lv_aload_n hx hb dX1_addFault_17 rfl (lv_at hl 1 rfl) ?_
    refine x_get S hK h_bk (6 + 2 * i) (by omega) rfl (bkE_hire G b i hi_i _) rfl in1 14 (by decide) (xm 2 rfl) (x := .ref (b + (7 + 2 * i))) rfl dX1_addFault_18 ?_
    refine x_alen S hK h_bk (7 + 2 * i) (by omega) rfl (bkE_frow G b i hi_i _) 0 rfl (r := 32) rfl dX1_addFault_21 ?_
    refine lv_icmp_le (tgt := 26) hx hb dX1_addFault_22 (by decide) (fun c_3 => ?_) (fun c_3 => ?_)
    · have hf := (if_pos c_3).symm.trans hf
      refine lv_aload_n hx hb dX1_addFault_26 rfl (lv_at hl 1 rfl) ?_
      refine x_get S hK h_bk (6 + 2 * i) (by omega) rfl (bkE_hire G b i hi_i _) rfl in1 14 (by decide) (xm 2 rfl) (x := .ref (b + (7 + 2 * i))) rfl dX1_addFault_27 ?_
      refine lv_iload hx hb dX1_addFault_30 (lv_at hl 0 rfl) ?_
      refine lv_iload_n hx hb dX1_addFault_32 rfl (lv_at hl 2 rfl) ?_
      obtain ⟨g_4, hf⟩ := xg_some hf
      obtain ⟨v_5, ev_5, hf⟩ := xl_some hf
      refine x_iast S hK h_bk hz_bk hL (7 + 2 * i) (by omega) rfl (bkE_frow G b i hi_i _) x_1.toNatClampNeg rfl g_4 (bkE_frow G b i hi_i _) ev_5 dX1_addFault_33 (fun H1 locs hL h_bk hfr => ?_)
      have hF := hF.step hfr (fun q h => by (try dsimp only at h ⊢); omega)
      refine lv_aload_n hx hb dX1_addFault_34 rfl (lv_at hl 1 rfl) ?_
      refine x_get S hK h_bk (6 + 2 * i) (by omega) rfl (bkE_hire G b i hi_i _) rfl in1 14 (by decide) (xm 2 rfl) (x := .ref (b + (7 + 2 * i))) rfl dX1_addFault_35 ?_
      refine lv_iload hx hb dX1_addFault_38 (lv_at hl 0 rfl) ?_
      refine lv_iconst (v := 1) hx hb dX1_addFault_40 (by decide) ?_
      refine lv_iadd hx hb dX1_addFault_41 ?_
      refine lv_iload_n hx hb dX1_addFault_42 rfl (lv_at hl 3 rfl) ?_
      obtain ⟨g_6, hf⟩ := xg_some hf
      obtain ⟨v_7, ev_7, hf⟩ := xl_some hf
      refine x_iast S hK h_bk hz_bk hL (7 + 2 * i) (by omega) rfl (bkE_frow G b i hi_i _) (x_1 + 1).toNatClampNeg rfl g_6 (bkE_frow G b i hi_i _) ev_7 dX1_addFault_43 (fun H1 locs hL h_bk hfr => ?_)
      have hF := hF.step hfr (fun q h => by (try dsimp only at h ⊢); omega)
      refine lv_aload_n hx hb dX1_addFault_44 rfl (lv_at hl 1 rfl) ?_
      refine x_get S hK h_bk (6 + 2 * i) (by omega) rfl (bkE_hire G b i hi_i _) rfl in1 14 (by decide) (xm 2 rfl) (x := .ref (b + (7 + 2 * i))) rfl dX1_addFault_45 ?_
      refine lv_iload hx hb dX1_addFault_48 (lv_at hl 0 rfl) ?_
      refine lv_iconst (v := 2) hx hb dX1_addFault_50 (by decide) ?_
      refine lv_iadd hx hb dX1_addFault_51 ?_
      refine lv_iload_n hx hb dX1_addFault_52 rfl (lv_at hl 4 rfl) ?_
      obtain ⟨g_8, hf⟩ := xg_some hf
      obtain ⟨v_9, ev_9, hf⟩ := xl_some hf
      refine x_iast S hK h_bk hz_bk hL (7 + 2 * i) (by omega) rfl (bkE_frow G b i hi_i _) (x_1 + 2).toNatClampNeg rfl g_8 (bkE_frow G b i hi_i _) ev_9 dX1_addFault_53 (fun H1 locs hL h_bk hfr => ?_)
      have hF := hF.step hfr (fun q h => by (try dsimp only at h ⊢); omega)
      refine lv_aload_n hx hb dX1_addFault_54 rfl (lv_at hl 1 rfl) ?_
      refine x_get S hK h_bk (6 + 2 * i) (by omega) rfl (bkE_hire G b i hi_i _) rfl in1 14 (by decide) (xm 2 rfl) (x := .ref (b + (7 + 2 * i))) rfl dX1_addFault_55 ?_
      refine lv_iload hx hb dX1_addFault_58 (lv_at hl 0 rfl) ?_
      refine lv_iconst (v := 3) hx hb dX1_addFault_60 (by decide) ?_
      refine lv_iadd hx hb dX1_addFault_61 ?_
      refine lv_iload hx hb dX1_addFault_62 (lv_at hl 5 rfl) ?_
      obtain ⟨g_10, hf⟩ := xg_some hf
      obtain ⟨v_11, ev_11, hf⟩ := xl_some hf
      refine x_iast S hK h_bk hz_bk hL (7 + 2 * i) (by omega) rfl (bkE_frow G b i hi_i _) (x_1 + 3).toNatClampNeg rfl g_10 (bkE_frow G b i hi_i _) ev_11 dX1_addFault_64 (fun H1 locs hL h_bk hfr => ?_)
      have hF := hF.step hfr (fun q h => by (try dsimp only at h ⊢); omega)
      refine lv_aload_n hx hb dX1_addFault_65 rfl (lv_at hl 1 rfl) ?_
      refine lv_dup hx hb dX1_addFault_66 rfl ?_
      refine x_get S hK h_bk (6 + 2 * i) (by omega) rfl (bkE_hire G b i hi_i _) rfl in1 12 (by decide) (xm 1 rfl) (x := .int (v_11 (6 + 2 * i) 12)) rfl dX1_addFault_67 ?_
      refine lv_iconst (v := 1) hx hb dX1_addFault_70 (by decide) ?_
      refine lv_iadd hx hb dX1_addFault_71 ?_
      obtain ⟨v_12, ev_12, hf⟩ := xl_some hf
      refine x_put S hK h_bk hz_bk hL (6 + 2 * i) (by omega) rfl (bkE_hire G b i hi_i _) rfl in1 tyX1 tyX1_ok nmX1 12 (by decide) (xm 1 rfl) rfl (vp_nar_int _) rfl (Nat.le_of_ble_eq_true rfl) (bkE_hire G b i hi_i _) ev_12 dX1_addFault_72 (fun H1 locs hL h_bk hfr => ?_)
      have hF := hF.step hfr (fun q h => by (try dsimp only at h ⊢); omega)
      have q0 := Option.some.inj hf
      subst v'
      subst hQ
      refine x_vret (post := (fun H H1 => PX G b 37 (bkE G b) v_12 H1 ∧ XF (fun q => (b ≤ q ∧ q < b + 37)) H H1)) S hr hlocks rfl ?_ hL dX1_addFault_75
      exact ⟨h_bk, hF⟩
    · have hf := (if_neg c_3).symm.trans hf
      have q0 := Option.some.inj hf
      subst v'
      subst hQ
      refine x_vret (post := (fun H H1 => PX G b 37 (bkE G b) v H1 ∧ XF (fun q => (b ≤ q ∧ q < b + 37)) H H1)) S hr hlocks rfl ?_ hL dX1_addFault_25
      exact ⟨h_bk, hF⟩
set_option maxRecDepth 100000 in
set_option maxHeartbeats 4000000 in
theorem c_X1_canHaveFault (l : Launch) (G : xG) (z : Nat) (b : Nat) (v : xV) (i : Nat) (p1 : Int32) (r0 : Int32) (hi_i : i < 12) (hf : f_X1_canHaveFault v i p1 = some r0) : xM l yX1_canHaveFault wsX1_canHaveFault 0 0 G z [.ref (b + (6 + 2 * i)), .int p1] (fun H => PX G b 37 (bkE G b) v H) (some (.int r0)) (fun H H1 => H1 = H) := by
  refine xM.of (cc := cX1_canHaveFault) (maxL := 2) (ret := (some .boolean)) (by decide +kernel) rfl (Nat.le_of_ble_eq_true rfl) ?_
  intro p e s m args below meth c ls Q hQ S hr hlocks hK hP hl
  obtain ⟨hx, hb, hml, hown, hts⟩ := id S
  have h_bk := hP
  have hL : ∀ q ∈ ([] : List Loc), z ≤ q.base := fun q h => absurd h List.not_mem_nil
  have hl : lv_has ls 2 [(0, .ref (b + (6 + 2 * i))), (1, .int p1)] := hl
  have in1 : ∀ w ∈ u_ws RX1 TX1 15, w ∈ wsX1_canHaveFault := fun _ h => List.mem_cons_of_mem _ (List.mem_append_right _ h)
  unfold f_X1_canHaveFault at hf
  refine lv_iload_n hx hb dX1_canHaveFault_0 rfl (lv_at hl 1 rfl) ?_
  refine lv_iconst (v := 1) hx hb dX1_canHaveFault_1 (by decide) ?_
  refine lv_icmp_ne (tgt := 14) hx hb dX1_canHaveFault_2 (by decide) (fun c_1 => ?_) (fun c_1 => ?_)
  · have hf := (if_neg c_1).symm.trans hf
    refine lv_iconst (v := 1) hx hb dX1_canHaveFault_14 (by decide) ?_
    refine lv_goto (tgt := 19) hx hb dX1_canHaveFault_15 (by decide) ?_
    have q0 := Option.some.inj hf
    subst r0
    subst hQ
    refine x_zret (post := (fun H H1 => H1 = H)) S hr hlocks (by decide) rfl ?_ hL dX1_canHaveFault_19
    exact rfl
  · have hf := (if_pos c_1).symm.trans hf
    refine lv_aload_n hx hb dX1_canHaveFault_5 rfl (lv_at hl 0 rfl) ?_
    refine x_get S hK h_bk (6 + 2 * i) (by omega) rfl (bkE_hire G b i hi_i _) rfl in1 2 (by decide) (xm 1 rfl) (x := .int (v (6 + 2 * i) 2)) rfl dX1_canHaveFault_6 ?_
    refine lv_iconst (v := 2) hx hb dX1_canHaveFault_9 (by decide) ?_
    refine lv_iand hx hb dX1_canHaveFault_10 ?_
    refine lv_if_eq (tgt := 18) hx hb dX1_canHaveFault_11 (by decide) (fun c_2 => ?_) (fun c_2 => ?_)
    · have hf := (if_pos c_2).symm.trans hf
      refine lv_iconst (v := 0) hx hb dX1_canHaveFault_18 (by decide) ?_
      have q0 := Option.some.inj hf
      subst r0
      subst hQ
      refine x_zret (post := (fun H H1 => H1 = H)) S hr hlocks (by decide) rfl ?_ hL dX1_canHaveFault_19
      exact rfl
    · have hf := (if_neg c_2).symm.trans hf
      refine lv_iconst (v := 1) hx hb dX1_canHaveFault_14 (by decide) ?_
      refine lv_goto (tgt := 19) hx hb dX1_canHaveFault_15 (by decide) ?_
      have q0 := Option.some.inj hf
      subst r0
      subst hQ
      refine x_zret (post := (fun H H1 => H1 = H)) S hr hlocks (by decide) rfl ?_ hL dX1_canHaveFault_19
      exact rfl
set_option maxRecDepth 100000 in
set_option maxHeartbeats 4000000 in
theorem c_X1_faultProperty (l : Launch) (G : xG) (z : Nat) (b : Nat) (v : xV) (i : Nat) (p1 : Int32) (p2 : Int32) (r0 : Int32) (hi_i : i < 12) (hf : f_X1_faultProperty v i p1 p2 = some r0) : xM l yX1_faultProperty wsX1_faultProperty 0 0 G z [.ref (b + (6 + 2 * i)), .int p1, .int p2] (fun H => PX G b 37 (bkE G b) v H) (some (.int r0)) (fun H H1 => H1 = H) := by
  refine xM.of (cc := cX1_faultProperty) (maxL := 3) (ret := (some .int)) (by decide +kernel) rfl (Nat.le_of_ble_eq_true rfl) ?_
  intro p e s m args below meth c ls Q hQ S hr hlocks hK hP hl
  obtain ⟨hx, hb, hml, hown, hts⟩ := id S
  have h_bk := hP
  have hL : ∀ q ∈ ([] : List Loc), z ≤ q.base := fun q h => absurd h List.not_mem_nil
  have hl : lv_has ls 3 [(0, .ref (b + (6 + 2 * i))), (1, .int p1), (2, .int p2)] := hl
  have in1 : ∀ w ∈ u_ws RX1 TX1 15, w ∈ wsX1_faultProperty := fun _ h => List.mem_cons_of_mem _ (List.mem_append_right _ h)
  unfold f_X1_faultProperty at hf
  refine lv_iload_n hx hb dX1_faultProperty_0 rfl (lv_at hl 1 rfl) ?_
  refine lv_if_lt (tgt := 27) hx hb dX1_faultProperty_1 (by decide) (fun c_1 => ?_) (fun c_1 => ?_)
  · have hf := (if_pos c_1).symm.trans hf
    refine lv_ldc (v := (-2000000004)) hx hb hown (hts _ (xm 2 rfl)) dX1_faultProperty_27 ?_
    have q0 := Option.some.inj hf
    subst r0
    subst hQ
    refine x_iret (post := (fun H H1 => H1 = H)) S hr hlocks rfl ?_ hL dX1_faultProperty_29
    exact rfl
  · have hf := (if_neg c_1).symm.trans hf
    refine lv_iload_n hx hb dX1_faultProperty_4 rfl (lv_at hl 1 rfl) ?_
    refine lv_aload_n hx hb dX1_faultProperty_5 rfl (lv_at hl 0 rfl) ?_
    refine x_get S hK h_bk (6 + 2 * i) (by omega) rfl (bkE_hire G b i hi_i _) rfl in1 12 (by decide) (xm 1 rfl) (x := .int (v (6 + 2 * i) 12)) rfl dX1_faultProperty_6 ?_
    refine lv_icmp_ge (tgt := 27) hx hb dX1_faultProperty_9 (by decide) (fun c_2 => ?_) (fun c_2 => ?_)
    · have hf := (if_pos c_2).symm.trans hf
      refine lv_ldc (v := (-2000000004)) hx hb hown (hts _ (xm 2 rfl)) dX1_faultProperty_27 ?_
      have q0 := Option.some.inj hf
      subst r0
      subst hQ
      refine x_iret (post := (fun H H1 => H1 = H)) S hr hlocks rfl ?_ hL dX1_faultProperty_29
      exact rfl
    · have hf := (if_neg c_2).symm.trans hf
      refine lv_iload_n hx hb dX1_faultProperty_12 rfl (lv_at hl 1 rfl) ?_
      refine lv_bipush (v := 8) hx hb dX1_faultProperty_13 (by decide) ?_
      refine lv_icmp_ge (tgt := 27) hx hb dX1_faultProperty_15 (by decide) (fun c_3 => ?_) (fun c_3 => ?_)
      · have hf := (if_pos c_3).symm.trans hf
        refine lv_ldc (v := (-2000000004)) hx hb hown (hts _ (xm 2 rfl)) dX1_faultProperty_27 ?_
        have q0 := Option.some.inj hf
        subst r0
        subst hQ
        refine x_iret (post := (fun H H1 => H1 = H)) S hr hlocks rfl ?_ hL dX1_faultProperty_29
        exact rfl
      · have hf := (if_neg c_3).symm.trans hf
        refine lv_iload_n hx hb dX1_faultProperty_18 rfl (lv_at hl 2 rfl) ?_
        refine lv_if_lt (tgt := 27) hx hb dX1_faultProperty_19 (by decide) (fun c_4 => ?_) (fun c_4 => ?_)
        · have hf := (if_pos c_4).symm.trans hf
          refine lv_ldc (v := (-2000000004)) hx hb hown (hts _ (xm 2 rfl)) dX1_faultProperty_27 ?_
          have q0 := Option.some.inj hf
          subst r0
          subst hQ
          refine x_iret (post := (fun H H1 => H1 = H)) S hr hlocks rfl ?_ hL dX1_faultProperty_29
          exact rfl
        · have hf := (if_neg c_4).symm.trans hf
          refine lv_iload_n hx hb dX1_faultProperty_22 rfl (lv_at hl 2 rfl) ?_
          refine lv_iconst (v := 4) hx hb dX1_faultProperty_23 (by decide) ?_
          refine lv_icmp_lt (tgt := 30) hx hb dX1_faultProperty_24 (by decide) (fun c_5 => ?_) (fun c_5 => ?_)
          · have hf := (if_pos c_5).symm.trans hf
            refine lv_aload_n hx hb dX1_faultProperty_30 rfl (lv_at hl 0 rfl) ?_
            refine x_get S hK h_bk (6 + 2 * i) (by omega) rfl (bkE_hire G b i hi_i _) rfl in1 14 (by decide) (xm 3 rfl) (x := .ref (b + (7 + 2 * i))) rfl dX1_faultProperty_31 ?_
            refine lv_iload_n hx hb dX1_faultProperty_34 rfl (lv_at hl 1 rfl) ?_
            refine lv_iconst (v := 4) hx hb dX1_faultProperty_35 (by decide) ?_
            refine lv_imul hx hb dX1_faultProperty_36 ?_
            refine lv_iload_n hx hb dX1_faultProperty_37 rfl (lv_at hl 2 rfl) ?_
            refine lv_iadd hx hb dX1_faultProperty_38 ?_
            obtain ⟨g_6, hf⟩ := xg_some hf
            refine x_iald S hK h_bk (7 + 2 * i) (by omega) rfl (bkE_frow G b i hi_i _) ((p1 * 4) + p2).toNatClampNeg rfl g_6 dX1_faultProperty_39 ?_
            have q0 := Option.some.inj hf
            subst r0
            subst hQ
            refine x_iret (post := (fun H H1 => H1 = H)) S hr hlocks rfl ?_ hL dX1_faultProperty_40
            exact rfl
          · have hf := (if_neg c_5).symm.trans hf
            refine lv_ldc (v := (-2000000004)) hx hb hown (hts _ (xm 2 rfl)) dX1_faultProperty_27 ?_
            have q0 := Option.some.inj hf
            subst r0
            subst hQ
            refine x_iret (post := (fun H H1 => H1 = H)) S hr hlocks rfl ?_ hL dX1_faultProperty_29
            exact rfl
set_option maxRecDepth 100000 in
set_option maxHeartbeats 4000000 in
theorem c_X1_timesLeftLate (l : Launch) (G : xG) (z : Nat) (b : Nat) (v : xV) (i : Nat) (r0 : Int32) (hi_i : i < 12) (hf : f_X1_timesLeftLate v i = some r0) : xM l yX1_timesLeftLate wsX1_timesLeftLate 1 22 G z [.ref (b + (6 + 2 * i))] (fun H => PX G b 37 (bkE G b) v H) (some (.int r0)) (fun H H1 => H1 = H) := by
  refine xM.of (cc := cX1_timesLeftLate) (maxL := 3) (ret := (some .int)) (by decide +kernel) rfl (Nat.le_of_ble_eq_true rfl) ?_
  intro p e s m args below meth c ls Q hQ S hr hlocks hK hP hl
  obtain ⟨hx, hb, hml, hown, hts⟩ := id S
  have h_bk := hP
  have hL : ∀ q ∈ ([] : List Loc), z ≤ q.base := fun q h => absurd h List.not_mem_nil
  have hl : lv_has ls 3 [(0, .ref (b + (6 + 2 * i)))] := hl
  have in1 : ∀ w ∈ u_ws RX1 TX1 15, w ∈ wsX1_timesLeftLate := fun _ h => List.mem_cons_of_mem _ (List.mem_append_right _ h)
  unfold f_X1_timesLeftLate at hf
  refine lv_iconst (v := 0) hx hb dX1_timesLeftLate_0 (by decide) ?_
  refine lv_istore_n (lv' := [(1, .int 0), (0, .ref (b + (6 + 2 * i)))]) hx hb dX1_timesLeftLate_1 rfl hl (by decide) rfl (fun ls hl => ?_)
  refine lv_iconst (v := 0) hx hb dX1_timesLeftLate_2 (by decide) ?_
  refine lv_istore_n (lv' := [(2, .int 0), (1, .int 0), (0, .ref (b + (6 + 2 * i)))]) hx hb dX1_timesLeftLate_3 rfl hl (by decide) rfl (fun ls hl => ?_)
  have lp_4 : ∀ (K_4 : Int32 → Int32 → Option Int32), (∀ (x_1 : Int32) (x_2 : Int32) (locs : List Loc) (ls : Array Slot), (∀ q ∈ locs, z ≤ q.base) → lv_has ls 3 [(1, .int x_1)] → K_4 x_1 x_2 = some r0 → W p l e { frames := 1, cells := 0, slots := 0, locals := 22 } s m args below meth c s.heap locs 0 0 Q (F0 m 31 ls [])) → ∀ (n : Nat) (x_1 : Int32) (x_2 : Int32) (locs : List Loc) (ls : Array Slot), (∀ q ∈ locs, z ≤ q.base) → lv_has ls 3 [(0, .ref (b + (6 + 2 * i))), (1, .int x_1), (2, .int x_2)] → L_X1_timesLeftLate_4 K_4 v i n x_1 x_2 = some r0 → W p l e { frames := 1, cells := 0, slots := 0, locals := 22 } s m args below meth c s.heap locs 0 0 Q (F0 m 4 ls []) := by
    intro K_4 hK_4 n
    induction n with
    | zero =>
      intro x_1 x_2 locs ls hL hl hf
      cases hf
    | succ n ih_4 =>
      intro x_1 x_2 locs ls hL hl hf
      unfold L_X1_timesLeftLate_4 at hf
      refine lv_iload_n hx hb dX1_timesLeftLate_4 rfl (lv_at hl 2 rfl) ?_
      refine lv_aload_n hx hb dX1_timesLeftLate_5 rfl (lv_at hl 0 rfl) ?_
      refine x_get S hK h_bk (6 + 2 * i) (by omega) rfl (bkE_hire G b i hi_i _) rfl in1 12 (by decide) (xm 1 rfl) (x := .int (v (6 + 2 * i) 12)) rfl dX1_timesLeftLate_6 ?_
      refine lv_icmp_ge (tgt := 31) hx hb dX1_timesLeftLate_9 (by decide) (fun c_3 => ?_) (fun c_3 => ?_)
      · have hf := (if_pos c_3).symm.trans hf
        exact hK_4 x_1 x_2 _ _ hL (lv_sub hl [1] rfl) hf
      · have hf := (if_neg c_3).symm.trans hf
        refine lv_aload_n hx hb dX1_timesLeftLate_12 rfl (lv_at hl 0 rfl) ?_
        refine lv_iload_n hx hb dX1_timesLeftLate_13 rfl (lv_at hl 2 rfl) ?_
        refine lv_iconst (v := 0) hx hb dX1_timesLeftLate_14 (by decide) ?_
        obtain ⟨r_4, e_5, hf⟩ := xb_some hf
        refine x_callVi (As := [.int x_2, .int 0]) (rest := []) S hK (c_X1_faultProperty l G z b v i x_2 0 r_4 hi_i e_5) gX1_timesLeftLate_X1_faultProperty rfl 2 (by decide +kernel) rfl ⟨Nat.le_of_ble_eq_true rfl, Nat.le_of_ble_eq_true rfl⟩ h_bk (6 + 2 * i) (by omega) rfl (bkE_hire G b i hi_i _) rfl h_bk hl.1 rfl (Nat.le_of_ble_eq_true rfl) dX1_timesLeftLate_15 hL ⟨Nat.zero_le _, Nat.zero_le _⟩ (fun H1 locs hL hpost => ?_)
        subst hpost
        refine lv_iconst (v := 3) hx hb dX1_timesLeftLate_18 (by decide) ?_
        refine lv_icmp_ne (tgt := 25) hx hb dX1_timesLeftLate_19 (by decide) (fun c_6 => ?_) (fun c_6 => ?_)
        · have hf := (if_neg c_6).symm.trans hf
          obtain ⟨x_7, ex_7, hf⟩ := xl_some hf
          refine lv_iinc (v := x_7) (lv' := [(2, .int x_7), (0, .ref (b + (6 + 2 * i))), (1, .int x_1)]) hx hb dX1_timesLeftLate_25 hl (k := 2) rfl (by rw [ex_7]; rfl) (by decide) rfl (fun ls hl => ?_)
          refine lv_goto (tgt := 4) hx hb dX1_timesLeftLate_28 (by decide) ?_
          exact ih_4 x_1 x_7 _ _ hL (lv_sub hl [1, 2, 0] rfl) hf
        · have hf := (if_pos c_6).symm.trans hf
          obtain ⟨x_8, ex_8, hf⟩ := xl_some hf
          refine lv_iinc (v := x_8) (lv' := [(1, .int x_8), (0, .ref (b + (6 + 2 * i))), (2, .int x_2)]) hx hb dX1_timesLeftLate_22 hl (k := 1) rfl (by rw [ex_8]; rfl) (by decide) rfl (fun ls hl => ?_)
          obtain ⟨x_9, ex_9, hf⟩ := xl_some hf
          refine lv_iinc (v := x_9) (lv' := [(2, .int x_9), (1, .int x_8), (0, .ref (b + (6 + 2 * i)))]) hx hb dX1_timesLeftLate_25 hl (k := 2) rfl (by rw [ex_9]; rfl) (by decide) rfl (fun ls hl => ?_)
          refine lv_goto (tgt := 4) hx hb dX1_timesLeftLate_28 (by decide) ?_
          exact ih_4 x_8 x_9 _ _ hL (lv_sub hl [2, 1, 0] rfl) hf
  refine lp_4 _ (fun x_10 x_11 locs ls hL hl hf => ?_) 100000 0 0 _ _ hL (lv_sub hl [2, 1, 0] rfl) hf
  refine lv_iload_n hx hb dX1_timesLeftLate_31 rfl (lv_at hl 0 rfl) ?_
  have q0 := Option.some.inj hf
  subst r0
  subst hQ
  refine x_iret (post := (fun H H1 => H1 = H)) S hr hlocks rfl ?_ hL dX1_timesLeftLate_32
  exact rfl
set_option maxRecDepth 100000 in
set_option maxHeartbeats 4000000 in
theorem c_X1_costOfFault (l : Launch) (G : xG) (z : Nat) (b : Nat) (v : xV) (i : Nat) (p1 : Int32) (r0 : Int32) (hi_i : i < 12) (hf : f_X1_costOfFault v i p1 = some r0) : xM l yX1_costOfFault wsX1_costOfFault 2 44 G z [.ref (b + (6 + 2 * i)), .int p1] (fun H => PX G b 37 (bkE G b) v H) (some (.int r0)) (fun H H1 => H1 = H) := by
  refine xM.of (cc := cX1_costOfFault) (maxL := 2) (ret := (some .int)) (by decide +kernel) rfl (Nat.le_of_ble_eq_true rfl) ?_
  intro p e s m args below meth c ls Q hQ S hr hlocks hK hP hl
  obtain ⟨hx, hb, hml, hown, hts⟩ := id S
  have h_bk := hP
  have hL : ∀ q ∈ ([] : List Loc), z ≤ q.base := fun q h => absurd h List.not_mem_nil
  have hl : lv_has ls 2 [(0, .ref (b + (6 + 2 * i))), (1, .int p1)] := hl
  have in1 : ∀ w ∈ u_ws RX1 TX1 15, w ∈ wsX1_costOfFault := fun _ h => List.mem_cons_of_mem _ (List.mem_append_right _ h)
  unfold f_X1_costOfFault at hf
  refine lv_iload_n hx hb dX1_costOfFault_0 rfl (lv_at hl 1 rfl) ?_
  by_cases c_1 : p1 = 0
  · have hf := (if_pos c_1).symm.trans hf
    refine x_tin (tgt := 28) (off := 27) S 0 c_1 dX1_costOfFault_1 (by decide) (by decide) (by decide) (by decide) ?_
    refine lv_sipush (v := 1000) hx hb dX1_costOfFault_28 (by decide) ?_
    refine lv_aload_n hx hb dX1_costOfFault_31 rfl (lv_at hl 0 rfl) ?_
    refine x_get S hK h_bk (6 + 2 * i) (by omega) rfl (bkE_hire G b i hi_i _) rfl in1 2 (by decide) (xm 1 rfl) (x := .int (v (6 + 2 * i) 2)) rfl dX1_costOfFault_32 ?_
    obtain ⟨r_2, e_3, hf⟩ := xb_some hf
    refine x_callTi (As := [.int (v (6 + 2 * i) 2)]) (rest := [.int 1000]) S hK (c_J6_bitCount_0f7a4 l G z (v (6 + 2 * i) 2) r_2 e_3) gX1_costOfFault_J6_bitCount_0f7a4 rfl 1 (by decide +kernel) rfl ⟨Nat.le_of_ble_eq_true rfl, Nat.le_of_ble_eq_true rfl⟩ rfl hl.1 rfl (Nat.le_of_ble_eq_true rfl) dX1_costOfFault_35 hL ⟨Nat.zero_le _, Nat.zero_le _⟩ (fun H1 locs hL hpost => ?_)
    subst hpost
    refine lv_imul hx hb dX1_costOfFault_38 ?_
    have q0 := Option.some.inj hf
    subst r0
    subst hQ
    refine x_iret (post := (fun H H1 => H1 = H)) S hr hlocks rfl ?_ hL dX1_costOfFault_39
    exact rfl
  have hf := (if_neg c_1).symm.trans hf
  by_cases c_4 : p1 = 1
  · have hf := (if_pos c_4).symm.trans hf
    refine x_tin (tgt := 40) (off := 39) S 1 c_4 dX1_costOfFault_1 (by decide) (by decide) (by decide) (by decide) ?_
    refine lv_sipush (v := 2500) hx hb dX1_costOfFault_40 (by decide) ?_
    have q0 := Option.some.inj hf
    subst r0
    subst hQ
    refine x_iret (post := (fun H H1 => H1 = H)) S hr hlocks rfl ?_ hL dX1_costOfFault_43
    exact rfl
  have hf := (if_neg c_4).symm.trans hf
  by_cases c_5 : p1 = 2
  · have hf := (if_pos c_5).symm.trans hf
    refine x_tin (tgt := 44) (off := 43) S 2 c_5 dX1_costOfFault_1 (by decide) (by decide) (by decide) (by decide) ?_
    refine lv_sipush (v := 4000) hx hb dX1_costOfFault_44 (by decide) ?_
    have q0 := Option.some.inj hf
    subst r0
    subst hQ
    refine x_iret (post := (fun H H1 => H1 = H)) S hr hlocks rfl ?_ hL dX1_costOfFault_47
    exact rfl
  have hf := (if_neg c_5).symm.trans hf
  have tc_1 : p1.toInt ≠ 0 := fun h9 => c_1 (xti (h9.trans (by decide)))
  have tc_4 : p1.toInt ≠ 1 := fun h9 => c_4 (xti (h9.trans (by decide)))
  have tc_5 : p1.toInt ≠ 2 := fun h9 => c_5 (xti (h9.trans (by decide)))
  refine lv_tableOut (tgt := 48) hx hb dX1_costOfFault_1 (by omega) (by decide) ?_
  refine lv_sipush (v := 2000) hx hb dX1_costOfFault_48 (by decide) ?_
  refine lv_sipush (v := 500) hx hb dX1_costOfFault_51 (by decide) ?_
  refine lv_aload_n hx hb dX1_costOfFault_54 rfl (lv_at hl 0 rfl) ?_
  obtain ⟨r_6, e_7, hf⟩ := xb_some hf
  refine x_callVi (As := []) (rest := [.int 500, .int 2000]) S hK (c_X1_timesLeftLate l G z b v i r_6 hi_i e_7) gX1_costOfFault_X1_timesLeftLate rfl 0 (by decide +kernel) rfl ⟨Nat.le_of_ble_eq_true rfl, Nat.le_of_ble_eq_true rfl⟩ h_bk (6 + 2 * i) (by omega) rfl (bkE_hire G b i hi_i _) rfl h_bk hl.1 rfl (Nat.le_of_ble_eq_true rfl) dX1_costOfFault_55 hL ⟨Nat.zero_le _, Nat.zero_le _⟩ (fun H1 locs hL hpost => ?_)
  subst hpost
  refine lv_imul hx hb dX1_costOfFault_58 ?_
  refine lv_iadd hx hb dX1_costOfFault_59 ?_
  have q0 := Option.some.inj hf
  subst r0
  subst hQ
  refine x_iret (post := (fun H H1 => H1 = H)) S hr hlocks rfl ?_ hL dX1_costOfFault_60
  exact rfl
set_option maxRecDepth 100000 in
set_option maxHeartbeats 4000000 in
theorem c_X1_dayOf (l : Launch) (G : xG) (z : Nat) (b : Nat) (v : xV) (i : Nat) (p1 : Int32) (r0 : Int32) (hi_i : i < 12) (hf : f_X1_dayOf v i p1 = some r0) : xM l yX1_dayOf wsX1_dayOf 0 0 G z [.ref (b + (6 + 2 * i)), .int p1] (fun H => PX G b 37 (bkE G b) v H) (some (.int r0)) (fun H H1 => H1 = H) := by
  refine xM.of (cc := cX1_dayOf) (maxL := 2) (ret := (some .int)) (by decide +kernel) rfl (Nat.le_of_ble_eq_true rfl) ?_
  intro p e s m args below meth c ls Q hQ S hr hlocks hK hP hl
  obtain ⟨hx, hb, hml, hown, hts⟩ := id S
  have h_bk := hP
  have hL : ∀ q ∈ ([] : List Loc), z ≤ q.base := fun q h => absurd h List.not_mem_nil
  have hl : lv_has ls 2 [(0, .ref (b + (6 + 2 * i))), (1, .int p1)] := hl
  have in1 : ∀ w ∈ u_ws RX1 TX1 15, w ∈ wsX1_dayOf := fun _ h => List.mem_cons_of_mem _ (List.mem_append_right _ h)
  unfold f_X1_dayOf at hf
  refine lv_aload_n hx hb dX1_dayOf_0 rfl (lv_at hl 0 rfl) ?_
  refine x_get S hK h_bk (6 + 2 * i) (by omega) rfl (bkE_hire G b i hi_i _) rfl in1 6 (by decide) (xm 1 rfl) (x := .int (v (6 + 2 * i) 6)) rfl dX1_dayOf_1 ?_
  refine lv_iload_n hx hb dX1_dayOf_4 rfl (lv_at hl 1 rfl) ?_
  refine lv_aload_n hx hb dX1_dayOf_5 rfl (lv_at hl 0 rfl) ?_
  refine x_get S hK h_bk (6 + 2 * i) (by omega) rfl (bkE_hire G b i hi_i _) rfl in1 7 (by decide) (xm 2 rfl) (x := .int (v (6 + 2 * i) 7)) rfl dX1_dayOf_6 ?_
  refine lv_imul hx hb dX1_dayOf_9 ?_
  refine lv_iadd hx hb dX1_dayOf_10 ?_
  have q0 := Option.some.inj hf
  subst r0
  subst hQ
  refine x_iret (post := (fun H H1 => H1 = H)) S hr hlocks rfl ?_ hL dX1_dayOf_11
  exact rfl
set_option maxRecDepth 100000 in
set_option maxHeartbeats 4000000 in
theorem c_X1_stateOf (l : Launch) (G : xG) (z : Nat) (b : Nat) (v : xV) (i : Nat) (p1 : Int32) (r0 : Int32) (hi_i : i < 12) (hf : f_X1_stateOf v i p1 = some r0) : xM l yX1_stateOf wsX1_stateOf 0 0 G z [.ref (b + (6 + 2 * i)), .int p1] (fun H => PX G b 37 (bkE G b) v H) (some (.int r0)) (fun H H1 => H1 = H) := by
  refine xM.of (cc := cX1_stateOf) (maxL := 2) (ret := (some .int)) (by decide +kernel) rfl (Nat.le_of_ble_eq_true rfl) ?_
  intro p e s m args below meth c ls Q hQ S hr hlocks hK hP hl
  obtain ⟨hx, hb, hml, hown, hts⟩ := id S
  have h_bk := hP
  have hL : ∀ q ∈ ([] : List Loc), z ≤ q.base := fun q h => absurd h List.not_mem_nil
  have hl : lv_has ls 2 [(0, .ref (b + (6 + 2 * i))), (1, .int p1)] := hl
  have in1 : ∀ w ∈ u_ws RX1 TX1 15, w ∈ wsX1_stateOf := fun _ h => List.mem_cons_of_mem _ (List.mem_append_right _ h)
  unfold f_X1_stateOf at hf
  refine lv_aload_n hx hb dX1_stateOf_0 rfl (lv_at hl 0 rfl) ?_
  refine x_get S hK h_bk (6 + 2 * i) (by omega) rfl (bkE_hire G b i hi_i _) rfl in1 9 (by decide) (xm 1 rfl) (x := .int (v (6 + 2 * i) 9)) rfl dX1_stateOf_1 ?_
  refine lv_iload_n hx hb dX1_stateOf_4 rfl (lv_at hl 1 rfl) ?_
  refine lv_ishr hx hb dX1_stateOf_5 ?_
  refine lv_iconst (v := 1) hx hb dX1_stateOf_6 (by decide) ?_
  refine lv_iand hx hb dX1_stateOf_7 ?_
  refine lv_iconst (v := 1) hx hb dX1_stateOf_8 (by decide) ?_
  refine lv_icmp_ne (tgt := 14) hx hb dX1_stateOf_9 (by decide) (fun c_1 => ?_) (fun c_1 => ?_)
  · have hf := (if_neg c_1).symm.trans hf
    refine lv_aload_n hx hb dX1_stateOf_14 rfl (lv_at hl 0 rfl) ?_
    refine x_get S hK h_bk (6 + 2 * i) (by omega) rfl (bkE_hire G b i hi_i _) rfl in1 10 (by decide) (xm 2 rfl) (x := .int (v (6 + 2 * i) 10)) rfl dX1_stateOf_15 ?_
    refine lv_iload_n hx hb dX1_stateOf_18 rfl (lv_at hl 1 rfl) ?_
    refine lv_ishr hx hb dX1_stateOf_19 ?_
    refine lv_iconst (v := 1) hx hb dX1_stateOf_20 (by decide) ?_
    refine lv_iand hx hb dX1_stateOf_21 ?_
    refine lv_iconst (v := 1) hx hb dX1_stateOf_22 (by decide) ?_
    refine lv_icmp_ne (tgt := 30) hx hb dX1_stateOf_23 (by decide) (fun c_2 => ?_) (fun c_2 => ?_)
    · have hf := (if_neg c_2).symm.trans hf
      refine lv_iconst (v := 0) hx hb dX1_stateOf_30 (by decide) ?_
      have q0 := Option.some.inj hf
      subst r0
      subst hQ
      refine x_iret (post := (fun H H1 => H1 = H)) S hr hlocks rfl ?_ hL dX1_stateOf_31
      exact rfl
    · have hf := (if_pos c_2).symm.trans hf
      refine lv_iconst (v := 2) hx hb dX1_stateOf_26 (by decide) ?_
      refine lv_goto (tgt := 31) hx hb dX1_stateOf_27 (by decide) ?_
      have q0 := Option.some.inj hf
      subst r0
      subst hQ
      refine x_iret (post := (fun H H1 => H1 = H)) S hr hlocks rfl ?_ hL dX1_stateOf_31
      exact rfl
  · have hf := (if_pos c_1).symm.trans hf
    refine lv_iconst (v := 1) hx hb dX1_stateOf_12 (by decide) ?_
    have q0 := Option.some.inj hf
    subst r0
    subst hQ
    refine x_iret (post := (fun H H1 => H1 = H)) S hr hlocks rfl ?_ hL dX1_stateOf_13
    exact rfl
set_option maxRecDepth 100000 in
set_option maxHeartbeats 4000000 in
theorem c_X1_lastPlannedDay (l : Launch) (G : xG) (z : Nat) (b : Nat) (v : xV) (i : Nat) (r0 : Int32) (hi_i : i < 12) (hf : f_X1_lastPlannedDay v i = some r0) : xM l yX1_lastPlannedDay wsX1_lastPlannedDay 1 21 G z [.ref (b + (6 + 2 * i))] (fun H => PX G b 37 (bkE G b) v H) (some (.int r0)) (fun H H1 => H1 = H) := by
  refine xM.of (cc := cX1_lastPlannedDay) (maxL := 2) (ret := (some .int)) (by decide +kernel) rfl (Nat.le_of_ble_eq_true rfl) ?_
  intro p e s m args below meth c ls Q hQ S hr hlocks hK hP hl
  obtain ⟨hx, hb, hml, hown, hts⟩ := id S
  have h_bk := hP
  have hL : ∀ q ∈ ([] : List Loc), z ≤ q.base := fun q h => absurd h List.not_mem_nil
  have hl : lv_has ls 2 [(0, .ref (b + (6 + 2 * i)))] := hl
  have in1 : ∀ w ∈ u_ws RX1 TX1 15, w ∈ wsX1_lastPlannedDay := fun _ h => List.mem_cons_of_mem _ (List.mem_append_right _ h)
  unfold f_X1_lastPlannedDay at hf
  refine lv_aload_n hx hb dX1_lastPlannedDay_0 rfl (lv_at hl 0 rfl) ?_
  refine x_get S hK h_bk (6 + 2 * i) (by omega) rfl (bkE_hire G b i hi_i _) rfl in1 5 (by decide) (xm 1 rfl) (x := .int (v (6 + 2 * i) 5)) rfl dX1_lastPlannedDay_1 ?_
  refine lv_iconst (v := 1) hx hb dX1_lastPlannedDay_4 (by decide) ?_
  refine lv_isub hx hb dX1_lastPlannedDay_5 ?_
  obtain ⟨x_1, ex_1, hf⟩ := xl_some hf
  refine x_top ex_1 ?_
  refine lv_istore_n (lv' := [(1, .int x_1), (0, .ref (b + (6 + 2 * i)))]) hx hb dX1_lastPlannedDay_6 rfl hl (by decide) rfl (fun ls hl => ?_)
  have lp_7 : ∀ (K_7 : Int32 → Option Int32), (∀ (x_2 : Int32) (locs : List Loc) (ls : Array Slot), (∀ q ∈ locs, z ≤ q.base) → lv_has ls 2 [] → K_7 x_2 = some r0 → W p l e { frames := 1, cells := 0, slots := 0, locals := 21 } s m args below meth c s.heap locs 0 0 Q (F0 m 31 ls [])) → ∀ (n : Nat) (x_2 : Int32) (locs : List Loc) (ls : Array Slot), (∀ q ∈ locs, z ≤ q.base) → lv_has ls 2 [(0, .ref (b + (6 + 2 * i))), (1, .int x_2)] → L_X1_lastPlannedDay_7 K_7 v i n x_2 = some r0 → W p l e { frames := 1, cells := 0, slots := 0, locals := 21 } s m args below meth c s.heap locs 0 0 Q (F0 m 7 ls []) := by
    intro K_7 hK_7 n
    induction n with
    | zero =>
      intro x_2 locs ls hL hl hf
      cases hf
    | succ n ih_7 =>
      intro x_2 locs ls hL hl hf
      unfold L_X1_lastPlannedDay_7 at hf
      refine lv_iload_n hx hb dX1_lastPlannedDay_7 rfl (lv_at hl 1 rfl) ?_
      refine lv_if_lt (tgt := 31) hx hb dX1_lastPlannedDay_8 (by decide) (fun c_3 => ?_) (fun c_3 => ?_)
      · have hf := (if_pos c_3).symm.trans hf
        exact hK_7 x_2 _ _ hL (lv_sub hl [] rfl) hf
      · have hf := (if_neg c_3).symm.trans hf
        refine lv_aload_n hx hb dX1_lastPlannedDay_11 rfl (lv_at hl 0 rfl) ?_
        refine lv_iload_n hx hb dX1_lastPlannedDay_12 rfl (lv_at hl 1 rfl) ?_
        obtain ⟨r_4, e_5, hf⟩ := xb_some hf
        refine x_callVi (As := [.int x_2]) (rest := []) S hK (c_X1_stateOf l G z b v i x_2 r_4 hi_i e_5) gX1_lastPlannedDay_X1_stateOf rfl 1 (by decide +kernel) rfl ⟨Nat.le_of_ble_eq_true rfl, Nat.le_of_ble_eq_true rfl⟩ h_bk (6 + 2 * i) (by omega) rfl (bkE_hire G b i hi_i _) rfl h_bk hl.1 rfl (Nat.le_of_ble_eq_true rfl) dX1_lastPlannedDay_13 hL ⟨Nat.zero_le _, Nat.zero_le _⟩ (fun H1 locs hL hpost => ?_)
        subst hpost
        refine lv_if_ne (tgt := 25) hx hb dX1_lastPlannedDay_16 (by decide) (fun c_6 => ?_) (fun c_6 => ?_)
        · have hf := (if_neg c_6).symm.trans hf
          obtain ⟨x_7, ex_7, hf⟩ := xl_some hf
          refine lv_iinc (v := x_7) (lv' := [(1, .int x_7), (0, .ref (b + (6 + 2 * i)))]) hx hb dX1_lastPlannedDay_25 hl (k := 1) rfl (by rw [ex_7]; rfl) (by decide) rfl (fun ls hl => ?_)
          refine lv_goto (tgt := 7) hx hb dX1_lastPlannedDay_28 (by decide) ?_
          exact ih_7 x_7 _ _ hL (lv_sub hl [1, 0] rfl) hf
        · have hf := (if_pos c_6).symm.trans hf
          refine lv_aload_n hx hb dX1_lastPlannedDay_19 rfl (lv_at hl 0 rfl) ?_
          refine lv_iload_n hx hb dX1_lastPlannedDay_20 rfl (lv_at hl 1 rfl) ?_
          obtain ⟨r_8, e_9, hf⟩ := xb_some hf
          refine x_callVi (As := [.int x_2]) (rest := []) S hK (c_X1_dayOf l G z b v i x_2 r_8 hi_i e_9) gX1_lastPlannedDay_X1_dayOf rfl 1 (by decide +kernel) rfl ⟨Nat.le_of_ble_eq_true rfl, Nat.le_of_ble_eq_true rfl⟩ h_bk (6 + 2 * i) (by omega) rfl (bkE_hire G b i hi_i _) rfl h_bk hl.1 rfl (Nat.le_of_ble_eq_true rfl) dX1_lastPlannedDay_21 hL ⟨Nat.zero_le _, Nat.zero_le _⟩ (fun H1 locs hL hpost => ?_)
          subst hpost
          have q0 := Option.some.inj hf
          subst r0
          subst hQ
          refine x_iret (post := (fun H H1 => H1 = H)) S hr hlocks rfl ?_ hL dX1_lastPlannedDay_24
          exact rfl
  refine lp_7 _ (fun x_10 locs ls hL hl hf => ?_) 100000 x_1 _ _ hL (lv_sub hl [1, 0] rfl) hf
  refine lv_iconst (v := (-1)) hx hb dX1_lastPlannedDay_31 (by decide) ?_
  have q0 := Option.some.inj hf
  subst r0
  subst hQ
  refine x_iret (post := (fun H H1 => H1 = H)) S hr hlocks rfl ?_ hL dX1_lastPlannedDay_32
  exact rfl
set_option maxRecDepth 100000 in
set_option maxHeartbeats 4000000 in
theorem c_X1_property (l : Launch) (G : xG) (z : Nat) (b : Nat) (v : xV) (i : Nat) (p1 : Int32) (r0 : Int32) (hi_i : i < 12) (hf : f_X1_property v i p1 = some r0) : xM l yX1_property wsX1_property 2 40 G z [.ref (b + (6 + 2 * i)), .int p1] (fun H => PX G b 37 (bkE G b) v H) (some (.int r0)) (fun H H1 => H1 = H) := by
  refine xM.of (cc := cX1_property) (maxL := 2) (ret := (some .int)) (by decide +kernel) rfl (Nat.le_of_ble_eq_true rfl) ?_
  intro p e s m args below meth c ls Q hQ S hr hlocks hK hP hl
  obtain ⟨hx, hb, hml, hown, hts⟩ := id S
  have h_bk := hP
  have hL : ∀ q ∈ ([] : List Loc), z ≤ q.base := fun q h => absurd h List.not_mem_nil
  have hl : lv_has ls 2 [(0, .ref (b + (6 + 2 * i))), (1, .int p1)] := hl
  have in1 : ∀ w ∈ u_ws RX1 TX1 15, w ∈ wsX1_property := fun _ h => List.mem_cons_of_mem _ (List.mem_append_right _ h)
  unfold f_X1_property at hf
  refine lv_iload_n hx hb dX1_property_0 rfl (lv_at hl 1 rfl) ?_
  by_cases c_1 : p1 = 0
  · have hf := (if_pos c_1).symm.trans hf
    refine x_tin (tgt := 80) (off := 79) S 0 c_1 dX1_property_1 (by decide) (by decide) (by decide) (by decide) ?_
    refine lv_aload_n hx hb dX1_property_80 rfl (lv_at hl 0 rfl) ?_
    refine x_get S hK h_bk (6 + 2 * i) (by omega) rfl (bkE_hire G b i hi_i _) rfl in1 1 (by decide) (xm 1 rfl) (x := .int (v (6 + 2 * i) 1)) rfl dX1_property_81 ?_
    have q0 := Option.some.inj hf
    subst r0
    subst hQ
    refine x_iret (post := (fun H H1 => H1 = H)) S hr hlocks rfl ?_ hL dX1_property_84
    exact rfl
  have hf := (if_neg c_1).symm.trans hf
  by_cases c_2 : p1 = 1
  · have hf := (if_pos c_2).symm.trans hf
    refine x_tin (tgt := 85) (off := 84) S 1 c_2 dX1_property_1 (by decide) (by decide) (by decide) (by decide) ?_
    refine lv_aload_n hx hb dX1_property_85 rfl (lv_at hl 0 rfl) ?_
    refine x_get S hK h_bk (6 + 2 * i) (by omega) rfl (bkE_hire G b i hi_i _) rfl in1 2 (by decide) (xm 2 rfl) (x := .int (v (6 + 2 * i) 2)) rfl dX1_property_86 ?_
    have q0 := Option.some.inj hf
    subst r0
    subst hQ
    refine x_iret (post := (fun H H1 => H1 = H)) S hr hlocks rfl ?_ hL dX1_property_89
    exact rfl
  have hf := (if_neg c_2).symm.trans hf
  by_cases c_3 : p1 = 2
  · have hf := (if_pos c_3).symm.trans hf
    refine x_tin (tgt := 90) (off := 89) S 2 c_3 dX1_property_1 (by decide) (by decide) (by decide) (by decide) ?_
    refine lv_aload_n hx hb dX1_property_90 rfl (lv_at hl 0 rfl) ?_
    refine x_get S hK h_bk (6 + 2 * i) (by omega) rfl (bkE_hire G b i hi_i _) rfl in1 3 (by decide) (xm 3 rfl) (x := .int (v (6 + 2 * i) 3)) rfl dX1_property_91 ?_
    have q0 := Option.some.inj hf
    subst r0
    subst hQ
    refine x_iret (post := (fun H H1 => H1 = H)) S hr hlocks rfl ?_ hL dX1_property_94
    exact rfl
  have hf := (if_neg c_3).symm.trans hf
  by_cases c_4 : p1 = 3
  · have hf := (if_pos c_4).symm.trans hf
    refine x_tin (tgt := 95) (off := 94) S 3 c_4 dX1_property_1 (by decide) (by decide) (by decide) (by decide) ?_
    refine lv_aload_n hx hb dX1_property_95 rfl (lv_at hl 0 rfl) ?_
    refine x_get S hK h_bk (6 + 2 * i) (by omega) rfl (bkE_hire G b i hi_i _) rfl in1 4 (by decide) (xm 4 rfl) (x := .int (v (6 + 2 * i) 4)) rfl dX1_property_96 ?_
    have q0 := Option.some.inj hf
    subst r0
    subst hQ
    refine x_iret (post := (fun H H1 => H1 = H)) S hr hlocks rfl ?_ hL dX1_property_99
    exact rfl
  have hf := (if_neg c_4).symm.trans hf
  by_cases c_5 : p1 = 4
  · have hf := (if_pos c_5).symm.trans hf
    refine x_tin (tgt := 100) (off := 99) S 4 c_5 dX1_property_1 (by decide) (by decide) (by decide) (by decide) ?_
    refine lv_aload_n hx hb dX1_property_100 rfl (lv_at hl 0 rfl) ?_
    refine x_get S hK h_bk (6 + 2 * i) (by omega) rfl (bkE_hire G b i hi_i _) rfl in1 5 (by decide) (xm 5 rfl) (x := .int (v (6 + 2 * i) 5)) rfl dX1_property_101 ?_
    have q0 := Option.some.inj hf
    subst r0
    subst hQ
    refine x_iret (post := (fun H H1 => H1 = H)) S hr hlocks rfl ?_ hL dX1_property_104
    exact rfl
  have hf := (if_neg c_5).symm.trans hf
  by_cases c_6 : p1 = 5
  · have hf := (if_pos c_6).symm.trans hf
    refine x_tin (tgt := 105) (off := 104) S 5 c_6 dX1_property_1 (by decide) (by decide) (by decide) (by decide) ?_
    refine lv_aload_n hx hb dX1_property_105 rfl (lv_at hl 0 rfl) ?_
    refine x_get S hK h_bk (6 + 2 * i) (by omega) rfl (bkE_hire G b i hi_i _) rfl in1 6 (by decide) (xm 6 rfl) (x := .int (v (6 + 2 * i) 6)) rfl dX1_property_106 ?_
    have q0 := Option.some.inj hf
    subst r0
    subst hQ
    refine x_iret (post := (fun H H1 => H1 = H)) S hr hlocks rfl ?_ hL dX1_property_109
    exact rfl
  have hf := (if_neg c_6).symm.trans hf
  by_cases c_7 : p1 = 6
  · have hf := (if_pos c_7).symm.trans hf
    refine x_tin (tgt := 110) (off := 109) S 6 c_7 dX1_property_1 (by decide) (by decide) (by decide) (by decide) ?_
    refine lv_aload_n hx hb dX1_property_110 rfl (lv_at hl 0 rfl) ?_
    refine x_get S hK h_bk (6 + 2 * i) (by omega) rfl (bkE_hire G b i hi_i _) rfl in1 7 (by decide) (xm 7 rfl) (x := .int (v (6 + 2 * i) 7)) rfl dX1_property_111 ?_
    have q0 := Option.some.inj hf
    subst r0
    subst hQ
    refine x_iret (post := (fun H H1 => H1 = H)) S hr hlocks rfl ?_ hL dX1_property_114
    exact rfl
  have hf := (if_neg c_7).symm.trans hf
  by_cases c_8 : p1 = 7
  · have hf := (if_pos c_8).symm.trans hf
    refine x_tin (tgt := 115) (off := 114) S 7 c_8 dX1_property_1 (by decide) (by decide) (by decide) (by decide) ?_
    refine lv_aload_n hx hb dX1_property_115 rfl (lv_at hl 0 rfl) ?_
    refine x_get S hK h_bk (6 + 2 * i) (by omega) rfl (bkE_hire G b i hi_i _) rfl in1 8 (by decide) (xm 8 rfl) (x := .int (v (6 + 2 * i) 8)) rfl dX1_property_116 ?_
    have q0 := Option.some.inj hf
    subst r0
    subst hQ
    refine x_iret (post := (fun H H1 => H1 = H)) S hr hlocks rfl ?_ hL dX1_property_119
    exact rfl
  have hf := (if_neg c_8).symm.trans hf
  by_cases c_9 : p1 = 8
  · have hf := (if_pos c_9).symm.trans hf
    refine x_tin (tgt := 120) (off := 119) S 8 c_9 dX1_property_1 (by decide) (by decide) (by decide) (by decide) ?_
    refine lv_aload_n hx hb dX1_property_120 rfl (lv_at hl 0 rfl) ?_
    refine x_get S hK h_bk (6 + 2 * i) (by omega) rfl (bkE_hire G b i hi_i _) rfl in1 5 (by decide) (xm 5 rfl) (x := .int (v (6 + 2 * i) 5)) rfl dX1_property_121 ?_
    obtain ⟨r_10, e_11, hf⟩ := xb_some hf
    refine x_callNi (As := [.int (v (6 + 2 * i) 5)]) (rest := []) S hK (c_X7_discountOf l G z (v (6 + 2 * i) 5) r_10 e_11) gX1_property_X7_discountOf_n74 (xm 15 rfl) (xm 16 rfl) hK.2.2.2.2.1 rfl 1 (by decide +kernel) rfl ⟨Nat.le_of_ble_eq_true rfl, Nat.le_of_ble_eq_true rfl⟩ rfl hl.1 rfl (Nat.le_of_ble_eq_true rfl) dX1_property_124 hL ⟨Nat.zero_le _, Nat.zero_le _⟩ (fun H1 locs hL hpost => ?_)
    subst hpost
    have q0 := Option.some.inj hf
    subst r0
    subst hQ
    refine x_iret (post := (fun H H1 => H1 = H)) S hr hlocks rfl ?_ hL dX1_property_127
    exact rfl
  have hf := (if_neg c_9).symm.trans hf
  by_cases c_12 : p1 = 9
  · have hf := (if_pos c_12).symm.trans hf
    refine x_tin (tgt := 128) (off := 127) S 9 c_12 dX1_property_1 (by decide) (by decide) (by decide) (by decide) ?_
    refine lv_aload_n hx hb dX1_property_128 rfl (lv_at hl 0 rfl) ?_
    obtain ⟨r_13, e_14, hf⟩ := xb_some hf
    refine x_callVi (As := []) (rest := []) S hK (c_X1_plannedSessions l G z b v i r_13 hi_i e_14) gX1_property_X1_plannedSessions rfl 0 (by decide +kernel) rfl ⟨Nat.le_of_ble_eq_true rfl, Nat.le_of_ble_eq_true rfl⟩ h_bk (6 + 2 * i) (by omega) rfl (bkE_hire G b i hi_i _) rfl h_bk hl.1 rfl (Nat.le_of_ble_eq_true rfl) dX1_property_129 hL ⟨Nat.zero_le _, Nat.zero_le _⟩ (fun H1 locs hL hpost => ?_)
    subst hpost
    have q0 := Option.some.inj hf
    subst r0
    subst hQ
    refine x_iret (post := (fun H H1 => H1 = H)) S hr hlocks rfl ?_ hL dX1_property_132
    exact rfl
  have hf := (if_neg c_12).symm.trans hf
  by_cases c_15 : p1 = 10
  · have hf := (if_pos c_15).symm.trans hf
    refine x_tin (tgt := 133) (off := 132) S 10 c_15 dX1_property_1 (by decide) (by decide) (by decide) (by decide) ?_
    refine lv_aload_n hx hb dX1_property_133 rfl (lv_at hl 0 rfl) ?_
    refine x_get S hK h_bk (6 + 2 * i) (by omega) rfl (bkE_hire G b i hi_i _) rfl in1 9 (by decide) (xm 9 rfl) (x := .int (v (6 + 2 * i) 9)) rfl dX1_property_134 ?_
    obtain ⟨r_16, e_17, hf⟩ := xb_some hf
    refine x_callTi (As := [.int (v (6 + 2 * i) 9)]) (rest := []) S hK (c_J6_bitCount_0f7a4 l G z (v (6 + 2 * i) 9) r_16 e_17) gX1_property_J6_bitCount_0f7a4 rfl 1 (by decide +kernel) rfl ⟨Nat.le_of_ble_eq_true rfl, Nat.le_of_ble_eq_true rfl⟩ rfl hl.1 rfl (Nat.le_of_ble_eq_true rfl) dX1_property_137 hL ⟨Nat.zero_le _, Nat.zero_le _⟩ (fun H1 locs hL hpost => ?_)
    subst hpost
    have q0 := Option.some.inj hf
    subst r0
    subst hQ
    refine x_iret (post := (fun H H1 => H1 = H)) S hr hlocks rfl ?_ hL dX1_property_140
    exact rfl
  have hf := (if_neg c_15).symm.trans hf
  by_cases c_18 : p1 = 11
  · have hf := (if_pos c_18).symm.trans hf
    refine x_tin (tgt := 141) (off := 140) S 11 c_18 dX1_property_1 (by decide) (by decide) (by decide) (by decide) ?_
    refine lv_aload_n hx hb dX1_property_141 rfl (lv_at hl 0 rfl) ?_
    refine x_get S hK h_bk (6 + 2 * i) (by omega) rfl (bkE_hire G b i hi_i _) rfl in1 10 (by decide) (xm 10 rfl) (x := .int (v (6 + 2 * i) 10)) rfl dX1_property_142 ?_
    obtain ⟨r_19, e_20, hf⟩ := xb_some hf
    refine x_callTi (As := [.int (v (6 + 2 * i) 10)]) (rest := []) S hK (c_J6_bitCount_0f7a4 l G z (v (6 + 2 * i) 10) r_19 e_20) gX1_property_J6_bitCount_0f7a4 rfl 1 (by decide +kernel) rfl ⟨Nat.le_of_ble_eq_true rfl, Nat.le_of_ble_eq_true rfl⟩ rfl hl.1 rfl (Nat.le_of_ble_eq_true rfl) dX1_property_145 hL ⟨Nat.zero_le _, Nat.zero_le _⟩ (fun H1 locs hL hpost => ?_)
    subst hpost
    have q0 := Option.some.inj hf
    subst r0
    subst hQ
    refine x_iret (post := (fun H H1 => H1 = H)) S hr hlocks rfl ?_ hL dX1_property_148
    exact rfl
  have hf := (if_neg c_18).symm.trans hf
  by_cases c_21 : p1 = 12
  · have hf := (if_pos c_21).symm.trans hf
    refine x_tin (tgt := 149) (off := 148) S 12 c_21 dX1_property_1 (by decide) (by decide) (by decide) (by decide) ?_
    refine lv_aload_n hx hb dX1_property_149 rfl (lv_at hl 0 rfl) ?_
    refine x_get S hK h_bk (6 + 2 * i) (by omega) rfl (bkE_hire G b i hi_i _) rfl in1 11 (by decide) (xm 11 rfl) (x := .int (v (6 + 2 * i) 11)) rfl dX1_property_150 ?_
    have q0 := Option.some.inj hf
    subst r0
    subst hQ
    refine x_iret (post := (fun H H1 => H1 = H)) S hr hlocks rfl ?_ hL dX1_property_153
    exact rfl
  have hf := (if_neg c_21).symm.trans hf
  by_cases c_22 : p1 = 13
  · have hf := (if_pos c_22).symm.trans hf
    refine x_tin (tgt := 154) (off := 153) S 13 c_22 dX1_property_1 (by decide) (by decide) (by decide) (by decide) ?_
    refine lv_aload_n hx hb dX1_property_154 rfl (lv_at hl 0 rfl) ?_
    refine x_get S hK h_bk (6 + 2 * i) (by omega) rfl (bkE_hire G b i hi_i _) rfl in1 12 (by decide) (xm 12 rfl) (x := .int (v (6 + 2 * i) 12)) rfl dX1_property_155 ?_
    have q0 := Option.some.inj hf
    subst r0
    subst hQ
    refine x_iret (post := (fun H H1 => H1 = H)) S hr hlocks rfl ?_ hL dX1_property_158
    exact rfl
  have hf := (if_neg c_22).symm.trans hf
  by_cases c_23 : p1 = 14
  · have hf := (if_pos c_23).symm.trans hf
    refine x_tin (tgt := 172) (off := 171) S 14 c_23 dX1_property_1 (by decide) (by decide) (by decide) (by decide) ?_
    refine lv_ldc (v := (-2000000001)) hx hb hown (hts _ (xm 14 rfl)) dX1_property_172 ?_
    have q0 := Option.some.inj hf
    subst r0
    subst hQ
    refine x_iret (post := (fun H H1 => H1 = H)) S hr hlocks rfl ?_ hL dX1_property_174
    exact rfl
  have hf := (if_neg c_23).symm.trans hf
  by_cases c_24 : p1 = 15
  · have hf := (if_pos c_24).symm.trans hf
    refine x_tin (tgt := 159) (off := 158) S 15 c_24 dX1_property_1 (by decide) (by decide) (by decide) (by decide) ?_
    refine lv_aload_n hx hb dX1_property_159 rfl (lv_at hl 0 rfl) ?_
    refine x_get S hK h_bk (6 + 2 * i) (by omega) rfl (bkE_hire G b i hi_i _) rfl in1 13 (by decide) (xm 13 rfl) (x := .int (v (6 + 2 * i) 13)) rfl dX1_property_160 ?_
    refine lv_if_eq (tgt := 170) hx hb dX1_property_163 (by decide) (fun c_25 => ?_) (fun c_25 => ?_)
    · have hf := (if_pos c_25).symm.trans hf
      refine lv_iconst (v := 0) hx hb dX1_property_170 (by decide) ?_
      have q0 := Option.some.inj hf
      subst r0
      subst hQ
      refine x_iret (post := (fun H H1 => H1 = H)) S hr hlocks rfl ?_ hL dX1_property_171
      exact rfl
    · have hf := (if_neg c_25).symm.trans hf
      refine lv_iconst (v := 1) hx hb dX1_property_166 (by decide) ?_
      refine lv_goto (tgt := 171) hx hb dX1_property_167 (by decide) ?_
      have q0 := Option.some.inj hf
      subst r0
      subst hQ
      refine x_iret (post := (fun H H1 => H1 = H)) S hr hlocks rfl ?_ hL dX1_property_171
      exact rfl
  have hf := (if_neg c_24).symm.trans hf
  have tc_1 : p1.toInt ≠ 0 := fun h9 => c_1 (xti (h9.trans (by decide)))
  have tc_2 : p1.toInt ≠ 1 := fun h9 => c_2 (xti (h9.trans (by decide)))
  have tc_3 : p1.toInt ≠ 2 := fun h9 => c_3 (xti (h9.trans (by decide)))
  have tc_4 : p1.toInt ≠ 3 := fun h9 => c_4 (xti (h9.trans (by decide)))
  have tc_5 : p1.toInt ≠ 4 := fun h9 => c_5 (xti (h9.trans (by decide)))
  have tc_6 : p1.toInt ≠ 5 := fun h9 => c_6 (xti (h9.trans (by decide)))
  have tc_7 : p1.toInt ≠ 6 := fun h9 => c_7 (xti (h9.trans (by decide)))
  have tc_8 : p1.toInt ≠ 7 := fun h9 => c_8 (xti (h9.trans (by decide)))
  have tc_9 : p1.toInt ≠ 8 := fun h9 => c_9 (xti (h9.trans (by decide)))
  have tc_12 : p1.toInt ≠ 9 := fun h9 => c_12 (xti (h9.trans (by decide)))
  have tc_15 : p1.toInt ≠ 10 := fun h9 => c_15 (xti (h9.trans (by decide)))
  have tc_18 : p1.toInt ≠ 11 := fun h9 => c_18 (xti (h9.trans (by decide)))
  have tc_21 : p1.toInt ≠ 12 := fun h9 => c_21 (xti (h9.trans (by decide)))
  have tc_22 : p1.toInt ≠ 13 := fun h9 => c_22 (xti (h9.trans (by decide)))
  have tc_23 : p1.toInt ≠ 14 := fun h9 => c_23 (xti (h9.trans (by decide)))
  have tc_24 : p1.toInt ≠ 15 := fun h9 => c_24 (xti (h9.trans (by decide)))
  refine lv_tableOut (tgt := 172) hx hb dX1_property_1 (by omega) (by decide) ?_
  refine lv_ldc (v := (-2000000001)) hx hb hown (hts _ (xm 14 rfl)) dX1_property_172 ?_
  have q0 := Option.some.inj hf
  subst r0
  subst hQ
  refine x_iret (post := (fun H H1 => H1 = H)) S hr hlocks rfl ?_ hL dX1_property_174
  exact rfl
set_option maxRecDepth 100000 in
set_option maxHeartbeats 4000000 in
theorem c_X1_shareOf (l : Launch) (G : xG) (z : Nat) (b : Nat) (v : xV) (i : Nat) (p1 : Int32) (r0 : Int32) (hi_i : i < 12) (hf : f_X1_shareOf v i p1 = some r0) : xM l yX1_shareOf wsX1_shareOf 0 0 G z [.ref (b + (6 + 2 * i)), .int p1] (fun H => PX G b 37 (bkE G b) v H) (some (.int r0)) (fun H H1 => H1 = H) := by
  refine xM.of (cc := cX1_shareOf) (maxL := 2) (ret := (some .int)) (by decide +kernel) rfl (Nat.le_of_ble_eq_true rfl) ?_
  intro p e s m args below meth c ls Q hQ S hr hlocks hK hP hl
  obtain ⟨hx, hb, hml, hown, hts⟩ := id S
  have h_bk := hP
  have hL : ∀ q ∈ ([] : List Loc), z ≤ q.base := fun q h => absurd h List.not_mem_nil
  have hl : lv_has ls 2 [(0, .ref (b + (6 + 2 * i))), (1, .int p1)] := hl
  have in1 : ∀ w ∈ u_ws RX1 TX1 15, w ∈ wsX1_shareOf := fun _ h => List.mem_cons_of_mem _ (List.mem_append_right _ h)
  unfold f_X1_shareOf at hf
  refine lv_aload_n hx hb dX1_shareOf_0 rfl (lv_at hl 0 rfl) ?_
  refine x_get S hK h_bk (6 + 2 * i) (by omega) rfl (bkE_hire G b i hi_i _) rfl in1 5 (by decide) (xm 1 rfl) (x := .int (v (6 + 2 * i) 5)) rfl dX1_shareOf_1 ?_
  refine lv_iconst (v := 1) hx hb dX1_shareOf_4 (by decide) ?_
  refine lv_icmp_ge (tgt := 10) hx hb dX1_shareOf_5 (by decide) (fun c_1 => ?_) (fun c_1 => ?_)
  · have hf := (if_pos c_1).symm.trans hf
    refine lv_aload_n hx hb dX1_shareOf_10 rfl (lv_at hl 0 rfl) ?_
    refine x_get S hK h_bk (6 + 2 * i) (by omega) rfl (bkE_hire G b i hi_i _) rfl in1 8 (by decide) (xm 2 rfl) (x := .int (v (6 + 2 * i) 8)) rfl dX1_shareOf_11 ?_
    refine lv_aload_n hx hb dX1_shareOf_14 rfl (lv_at hl 0 rfl) ?_
    refine x_get S hK h_bk (6 + 2 * i) (by omega) rfl (bkE_hire G b i hi_i _) rfl in1 5 (by decide) (xm 1 rfl) (x := .int (v (6 + 2 * i) 5)) rfl dX1_shareOf_15 ?_
    obtain ⟨g_2, hf⟩ := xg_some hf
    refine lv_idiv hx hb dX1_shareOf_18 g_2 ?_
    refine lv_iload_n hx hb dX1_shareOf_19 rfl (lv_at hl 1 rfl) ?_
    refine lv_aload_n hx hb dX1_shareOf_20 rfl (lv_at hl 0 rfl) ?_
    refine x_get S hK h_bk (6 + 2 * i) (by omega) rfl (bkE_hire G b i hi_i _) rfl in1 8 (by decide) (xm 2 rfl) (x := .int (v (6 + 2 * i) 8)) rfl dX1_shareOf_21 ?_
    refine lv_aload_n hx hb dX1_shareOf_24 rfl (lv_at hl 0 rfl) ?_
    refine x_get S hK h_bk (6 + 2 * i) (by omega) rfl (bkE_hire G b i hi_i _) rfl in1 5 (by decide) (xm 1 rfl) (x := .int (v (6 + 2 * i) 5)) rfl dX1_shareOf_25 ?_
    obtain ⟨g_3, hf⟩ := xg_some hf
    refine lv_irem hx hb dX1_shareOf_28 g_3 ?_
    refine lv_icmp_ge (tgt := 36) hx hb dX1_shareOf_29 (by decide) (fun c_4 => ?_) (fun c_4 => ?_)
    · have hf := (if_pos c_4).symm.trans hf
      refine lv_iconst (v := 0) hx hb dX1_shareOf_36 (by decide) ?_
      refine lv_iadd hx hb dX1_shareOf_37 ?_
      have q0 := Option.some.inj hf
      subst r0
      subst hQ
      refine x_iret (post := (fun H H1 => H1 = H)) S hr hlocks rfl ?_ hL dX1_shareOf_38
      exact rfl
    · have hf := (if_neg c_4).symm.trans hf
      refine lv_iconst (v := 1) hx hb dX1_shareOf_32 (by decide) ?_
      refine lv_goto (tgt := 37) hx hb dX1_shareOf_33 (by decide) ?_
      refine lv_iadd hx hb dX1_shareOf_37 ?_
      have q0 := Option.some.inj hf
      subst r0
      subst hQ
      refine x_iret (post := (fun H H1 => H1 = H)) S hr hlocks rfl ?_ hL dX1_shareOf_38
      exact rfl
  · have hf := (if_neg c_1).symm.trans hf
    refine lv_iconst (v := 0) hx hb dX1_shareOf_8 (by decide) ?_
    have q0 := Option.some.inj hf
    subst r0
    subst hQ
    refine x_iret (post := (fun H H1 => H1 = H)) S hr hlocks rfl ?_ hL dX1_shareOf_9
    exact rfl
set_option maxRecDepth 100000 in
set_option maxHeartbeats 4000000 in
theorem c_X1_refundOf (l : Launch) (G : xG) (z : Nat) (b : Nat) (v : xV) (i : Nat) (p1 : Int32) (p2 : Int32) (r0 : Int32) (hi_i : i < 12) (hf : f_X1_refundOf v i p1 p2 = some r0) : xM l yX1_refundOf wsX1_refundOf 1 21 G z [.ref (b + (6 + 2 * i)), .int p1, .int p2] (fun H => PX G b 37 (bkE G b) v H) (some (.int r0)) (fun H H1 => H1 = H) := by
  refine xM.of (cc := cX1_refundOf) (maxL := 4) (ret := (some .int)) (by decide +kernel) rfl (Nat.le_of_ble_eq_true rfl) ?_
  intro p e s m args below meth c ls Q hQ S hr hlocks hK hP hl
  obtain ⟨hx, hb, hml, hown, hts⟩ := id S
  have h_bk := hP
  have hL : ∀ q ∈ ([] : List Loc), z ≤ q.base := fun q h => absurd h List.not_mem_nil
  have hl : lv_has ls 4 [(0, .ref (b + (6 + 2 * i))), (1, .int p1), (2, .int p2)] := hl
  unfold f_X1_refundOf at hf
  refine lv_aload_n hx hb dX1_refundOf_0 rfl (lv_at hl 0 rfl) ?_
  refine lv_iload_n hx hb dX1_refundOf_1 rfl (lv_at hl 1 rfl) ?_
  obtain ⟨r_1, e_2, hf⟩ := xb_some hf
  refine x_callVi (As := [.int p1]) (rest := []) S hK (c_X1_dayOf l G z b v i p1 r_1 hi_i e_2) gX1_refundOf_X1_dayOf rfl 1 (by decide +kernel) rfl ⟨Nat.le_of_ble_eq_true rfl, Nat.le_of_ble_eq_true rfl⟩ h_bk (6 + 2 * i) (by omega) rfl (bkE_hire G b i hi_i _) rfl h_bk hl.1 rfl (Nat.le_of_ble_eq_true rfl) dX1_refundOf_2 hL ⟨Nat.zero_le _, Nat.zero_le _⟩ (fun H1 locs hL hpost => ?_)
  subst hpost
  refine lv_iload_n hx hb dX1_refundOf_5 rfl (lv_at hl 2 rfl) ?_
  refine lv_isub hx hb dX1_refundOf_6 ?_
  obtain ⟨x_3, ex_3, hf⟩ := xl_some hf
  refine x_top ex_3 ?_
  refine lv_istore_n (lv' := [(3, .int x_3), (0, .ref (b + (6 + 2 * i))), (1, .int p1), (2, .int p2)]) hx hb dX1_refundOf_7 rfl hl (by decide) rfl (fun ls hl => ?_)
  refine lv_iload_n hx hb dX1_refundOf_8 rfl (lv_at hl 0 rfl) ?_
  refine lv_bipush (v := 14) hx hb dX1_refundOf_9 (by decide) ?_
  refine lv_icmp_lt (tgt := 20) hx hb dX1_refundOf_11 (by decide) (fun c_4 => ?_) (fun c_4 => ?_)
  · have hf := (if_pos c_4).symm.trans hf
    refine lv_iload_n hx hb dX1_refundOf_20 rfl (lv_at hl 0 rfl) ?_
    refine lv_bipush (v := 7) hx hb dX1_refundOf_21 (by decide) ?_
    refine lv_icmp_lt (tgt := 36) hx hb dX1_refundOf_23 (by decide) (fun c_5 => ?_) (fun c_5 => ?_)
    · have hf := (if_pos c_5).symm.trans hf
      refine lv_iconst (v := 0) hx hb dX1_refundOf_36 (by decide) ?_
      have q0 := Option.some.inj hf
      subst r0
      subst hQ
      refine x_iret (post := (fun H H1 => H1 = H)) S hr hlocks rfl ?_ hL dX1_refundOf_37
      exact rfl
    · have hf := (if_neg c_5).symm.trans hf
      refine lv_aload_n hx hb dX1_refundOf_26 rfl (lv_at hl 1 rfl) ?_
      refine lv_iload_n hx hb dX1_refundOf_27 rfl (lv_at hl 2 rfl) ?_
      obtain ⟨r_6, e_7, hf⟩ := xb_some hf
      refine x_callVi (As := [.int p1]) (rest := []) S hK (c_X1_shareOf l G z b v i p1 r_6 hi_i e_7) gX1_refundOf_X1_shareOf rfl 1 (by decide +kernel) rfl ⟨Nat.le_of_ble_eq_true rfl, Nat.le_of_ble_eq_true rfl⟩ h_bk (6 + 2 * i) (by omega) rfl (bkE_hire G b i hi_i _) rfl h_bk hl.1 rfl (Nat.le_of_ble_eq_true rfl) dX1_refundOf_28 hL ⟨Nat.zero_le _, Nat.zero_le _⟩ (fun H1 locs hL hpost => ?_)
      subst hpost
      refine lv_iconst (v := 2) hx hb dX1_refundOf_31 (by decide) ?_
      refine lv_idiv hx hb dX1_refundOf_32 (by decide) ?_
      refine lv_goto (tgt := 37) hx hb dX1_refundOf_33 (by decide) ?_
      have q0 := Option.some.inj hf
      subst r0
      subst hQ
      refine x_iret (post := (fun H H1 => H1 = H)) S hr hlocks rfl ?_ hL dX1_refundOf_37
      exact rfl
  · have hf := (if_neg c_4).symm.trans hf
    refine lv_aload_n hx hb dX1_refundOf_14 rfl (lv_at hl 1 rfl) ?_
    refine lv_iload_n hx hb dX1_refundOf_15 rfl (lv_at hl 2 rfl) ?_
    obtain ⟨r_8, e_9, hf⟩ := xb_some hf
    refine x_callVi (As := [.int p1]) (rest := []) S hK (c_X1_shareOf l G z b v i p1 r_8 hi_i e_9) gX1_refundOf_X1_shareOf rfl 1 (by decide +kernel) rfl ⟨Nat.le_of_ble_eq_true rfl, Nat.le_of_ble_eq_true rfl⟩ h_bk (6 + 2 * i) (by omega) rfl (bkE_hire G b i hi_i _) rfl h_bk hl.1 rfl (Nat.le_of_ble_eq_true rfl) dX1_refundOf_16 hL ⟨Nat.zero_le _, Nat.zero_le _⟩ (fun H1 locs hL hpost => ?_)
    subst hpost
    have q0 := Option.some.inj hf
    subst r0
    subst hQ
    refine x_iret (post := (fun H H1 => H1 = H)) S hr hlocks rfl ?_ hL dX1_refundOf_19
    exact rfl
set_option maxRecDepth 100000 in
set_option maxHeartbeats 4000000 in
theorem c_X2_dropOldest (l : Launch) (G : xG) (z : Nat) (x : Nat) (hv : xV) (kv : Nat → xV) (hv' : xV) (hz_hs : z ≤ x) (hf : f_X2_dropOldest hv kv = some hv') : xM l yX2_dropOldest wsX2_dropOldest 0 0 G z [.ref x] (fun H => PX G x 2 (hsE G x) hv H ∧ HU G x kv H) none (fun H H1 => PX G x 2 (hsE G x) hv' H1 ∧ XF (fun q => (x ≤ q ∧ q < x + 2)) H H1) := by
  refine xM.of (cc := cX2_dropOldest) (maxL := 3) (ret := none) (by decide +kernel) rfl (Nat.le_of_ble_eq_true rfl) ?_
  intro p e s m args below meth c ls Q hQ S hr hlocks hK hP hl
  obtain ⟨hx, hb, hml, hown, hts⟩ := id S
  obtain ⟨h_hs, h_hu⟩ := hP
  have hL : ∀ q ∈ ([] : List Loc), z ≤ q.base := fun q h => absurd h List.not_mem_nil
  have hF : XF (fun q => (x ≤ q ∧ q < x + 2)) s.heap s.heap := XF.rf
  have hl : lv_has ls 3 [(0, .ref x)] := hl
  have in2 : ∀ w ∈ u_ws RX2 TX2 2, w ∈ wsX2_dropOldest := fun _ h => List.mem_cons_of_mem _ (List.mem_append_right _ h)
  unfold f_X2_dropOldest at hf
  refine lv_aload_n hx hb dX2_dropOldest_0 rfl (lv_at hl 0 rfl) ?_
  refine x_get S hK h_hs 0 (by decide) rfl rfl rfl in2 0 (by decide) (xm 1 rfl) (x := .ref (x + 1)) rfl dX2_dropOldest_1 ?_
  refine lv_iconst (v := 0) hx hb dX2_dropOldest_4 (by decide) ?_
  obtain ⟨g_1, hf⟩ := xg_some hf
  obtain ⟨i_2, ei_2, hf⟩ := xl_some hf
  have hi_i_2 : i_2 < 4 := by rw [ei_2]; exact xin_lt g_1
  obtain ⟨i_3, ei_3, hf⟩ := xl_some hf
  obtain ⟨hi_i_3, hf⟩ := xg_some hf
  refine x_aald S hK h_hs 1 (by decide) rfl rfl 1 rfl i_2 ei_2.symm g_1 (r := (x + (2 + 37 * i_3))) (by show some _ = some _; rw [ei_3]) dX2_dropOldest_5 ?_
  refine lv_astore_n (lv' := [(1, .ref (x + (2 + 37 * i_3))), (0, .ref x)]) hx hb dX2_dropOldest_6 rfl hl (by decide) rfl (fun ls hl => ?_)
  refine lv_iconst (v := 1) hx hb dX2_dropOldest_7 (by decide) ?_
  refine lv_istore_n (lv' := [(2, .int 1), (1, .ref (x + (2 + 37 * i_3))), (0, .ref x)]) hx hb dX2_dropOldest_8 rfl hl (by decide) rfl (fun ls hl => ?_)
  have lp_9 : ∀ (K_9 : Int32 → xV → Option xV), (∀ (x_4 : Int32) (hv_5 : xV) (H : Heap) (locs : List Loc) (ls : Array Slot), (∀ q ∈ locs, z ≤ q.base) → PX G x 2 (hsE G x) hv_5 H → HU G x kv H → XF (fun q => (x ≤ q ∧ q < x + 2)) s.heap H → lv_has ls 3 [(0, .ref x), (1, .ref (x + (2 + 37 * i_3)))] → K_9 x_4 hv_5 = some hv' → W p l e { frames := 0, cells := 0, slots := 0, locals := 0 } s m args below meth c H locs 0 0 Q (F0 m 38 ls [])) → ∀ (n : Nat) (x_4 : Int32) (hv_5 : xV) (H : Heap) (locs : List Loc) (ls : Array Slot), (∀ q ∈ locs, z ≤ q.base) → PX G x 2 (hsE G x) hv_5 H → HU G x kv H → XF (fun q => (x ≤ q ∧ q < x + 2)) s.heap H → lv_has ls 3 [(0, .ref x), (1, .ref (x + (2 + 37 * i_3))), (2, .int x_4)] → L_X2_dropOldest_9 K_9 n x_4 hv_5 = some hv' → W p l e { frames := 0, cells := 0, slots := 0, locals := 0 } s m args below meth c H locs 0 0 Q (F0 m 9 ls []) := by
    intro K_9 hK_9 n
    induction n with
    | zero =>
      intro x_4 hv_5 H locs ls hL h_hs h_hu hF hl hf
      cases hf
    | succ n ih_9 =>
      intro x_4 hv_5 H locs ls hL h_hs h_hu hF hl hf
      unfold L_X2_dropOldest_9 at hf
      refine lv_iload_n hx hb dX2_dropOldest_9 rfl (lv_at hl 2 rfl) ?_
      refine lv_aload_n hx hb dX2_dropOldest_10 rfl (lv_at hl 0 rfl) ?_
      refine x_get S hK h_hs 0 (by decide) rfl rfl rfl in2 0 (by decide) (xm 1 rfl) (x := .ref (x + 1)) rfl dX2_dropOldest_11 ?_
      refine x_alen S hK h_hs 1 (by decide) rfl rfl 1 rfl (r := 4) rfl dX2_dropOldest_14 ?_
      refine lv_icmp_ge (tgt := 38) hx hb dX2_dropOldest_15 (by decide) (fun c_6 => ?_) (fun c_6 => ?_)
      · have hf := (if_pos c_6).symm.trans hf
        exact hK_9 x_4 hv_5 _ _ _ hL h_hs h_hu hF (lv_sub hl [0, 1] rfl) hf
      · have hf := (if_neg c_6).symm.trans hf
        refine lv_aload_n hx hb dX2_dropOldest_18 rfl (lv_at hl 0 rfl) ?_
        refine x_get S hK h_hs 0 (by decide) rfl rfl rfl in2 0 (by decide) (xm 1 rfl) (x := .ref (x + 1)) rfl dX2_dropOldest_19 ?_
        refine lv_iload_n hx hb dX2_dropOldest_22 rfl (lv_at hl 2 rfl) ?_
        refine lv_iconst (v := 1) hx hb dX2_dropOldest_23 (by decide) ?_
        refine lv_isub hx hb dX2_dropOldest_24 ?_
        refine lv_aload_n hx hb dX2_dropOldest_25 rfl (lv_at hl 0 rfl) ?_
        refine x_get S hK h_hs 0 (by decide) rfl rfl rfl in2 0 (by decide) (xm 1 rfl) (x := .ref (x + 1)) rfl dX2_dropOldest_26 ?_
        refine lv_iload_n hx hb dX2_dropOldest_29 rfl (lv_at hl 2 rfl) ?_
        obtain ⟨g_7, hf⟩ := xg_some hf
        obtain ⟨i_8, ei_8, hf⟩ := xl_some hf
        have hi_i_8 : i_8 < 4 := by rw [ei_8]; exact xin_lt g_7
        obtain ⟨i_9, ei_9, hf⟩ := xl_some hf
        obtain ⟨hi_i_9, hf⟩ := xg_some hf
        refine x_aald S hK h_hs 1 (by decide) rfl rfl 1 rfl i_8 ei_8.symm g_7 (r := (x + (2 + 37 * i_9))) (by show some _ = some _; rw [ei_9]) dX2_dropOldest_30 ?_
        obtain ⟨g_10, hf⟩ := xg_some hf
        obtain ⟨hv_11, ehv_11, hf⟩ := xl_some hf
        refine x_ahs S hK h_hs h_hu hz_hs hL (x_4 - 1).toNatClampNeg rfl g_10 i_9 ei_9 hi_i_9 ehv_11 dX2_dropOldest_31 (fun H1 locs hL h_hs hfr => ?_)
        have h_hu := h_hu.kept hfr (fun q h1 h2 h3 => by (try dsimp only at h3); omega)
        have hF := hF.step hfr (fun q h => by (try dsimp only at h ⊢); omega)
        obtain ⟨x_12, ex_12, hf⟩ := xl_some hf
        refine lv_iinc (v := x_12) (lv' := [(2, .int x_12), (0, .ref x), (1, .ref (x + (2 + 37 * i_3)))]) hx hb dX2_dropOldest_32 hl (k := 2) rfl (by rw [ex_12]; rfl) (by decide) rfl (fun ls hl => ?_)
        refine lv_goto (tgt := 9) hx hb dX2_dropOldest_35 (by decide) ?_
        exact ih_9 x_12 hv_11 _ _ _ hL h_hs h_hu hF (lv_sub hl [1, 2, 0] rfl) hf
  refine lp_9 _ (fun x_13 hv_14 H locs ls hL h_hs h_hu hF hl hf => ?_) 100000 1 hv _ _ _ hL h_hs h_hu hF (lv_sub hl [2, 1, 0] rfl) hf
  refine lv_aload_n hx hb dX2_dropOldest_38 rfl (lv_at hl 0 rfl) ?_
  refine x_get S hK h_hs 0 (by decide) rfl rfl rfl in2 0 (by decide) (xm 1 rfl) (x := .ref (x + 1)) rfl dX2_dropOldest_39 ?_
  refine lv_aload_n hx hb dX2_dropOldest_42 rfl (lv_at hl 0 rfl) ?_
  refine x_get S hK h_hs 0 (by decide) rfl rfl rfl in2 0 (by decide) (xm 1 rfl) (x := .ref (x + 1)) rfl dX2_dropOldest_43 ?_
  refine x_alen S hK h_hs 1 (by decide) rfl rfl 1 rfl (r := 4) rfl dX2_dropOldest_46 ?_
  refine lv_iconst (v := 1) hx hb dX2_dropOldest_47 (by decide) ?_
  refine lv_isub hx hb dX2_dropOldest_48 ?_
  refine x_top (x := 3) (by decide) ?_
  refine lv_aload_n hx hb dX2_dropOldest_49 rfl (lv_at hl 1 rfl) ?_
  obtain ⟨hv_15, ehv_15, hf⟩ := xl_some hf
  refine x_ahs S hK h_hs h_hu hz_hs hL 3 (by decide) (by decide) i_3 ei_3 hi_i_3 ehv_15 dX2_dropOldest_50 (fun H1 locs hL h_hs hfr => ?_)
  have h_hu := h_hu.kept hfr (fun q h1 h2 h3 => by (try dsimp only at h3); omega)
  have hF := hF.step hfr (fun q h => by (try dsimp only at h ⊢); omega)
  refine lv_aload_n hx hb dX2_dropOldest_51 rfl (lv_at hl 0 rfl) ?_
  refine lv_dup hx hb dX2_dropOldest_52 rfl ?_
  refine x_get S hK h_hs 0 (by decide) rfl rfl rfl in2 1 (by decide) (xm 2 rfl) (x := .int (hv_15 0 1)) rfl dX2_dropOldest_53 ?_
  refine lv_iconst (v := 1) hx hb dX2_dropOldest_56 (by decide) ?_
  refine lv_isub hx hb dX2_dropOldest_57 ?_
  obtain ⟨hv_16, ehv_16, hf⟩ := xl_some hf
  refine x_put S hK h_hs hz_hs hL 0 (by decide) rfl rfl rfl in2 tyX2 tyX2_ok nmX2 1 (by decide) (xm 2 rfl) rfl (vp_nar_int _) rfl (Nat.le_of_ble_eq_true rfl) rfl ehv_16 dX2_dropOldest_58 (fun H1 locs hL h_hs hfr => ?_)
  have h_hu := h_hu.kept hfr (fun q h1 h2 h3 => by (try dsimp only at h3); omega)
  have hF := hF.step hfr (fun q h => by (try dsimp only at h ⊢); omega)
  have q0 := Option.some.inj hf
  subst hv'
  subst hQ
  refine x_vret (post := (fun H H1 => PX G x 2 (hsE G x) hv_16 H1 ∧ XF (fun q => (x ≤ q ∧ q < x + 2)) H H1)) S hr hlocks rfl ?_ hL dX2_dropOldest_61
  exact ⟨h_hs, hF⟩
set_option maxRecDepth 100000 in
set_option maxHeartbeats 4000000 in
theorem c_X2_restore (l : Launch) (G : xG) (z : Nat) (x : Nat) (b : Nat) (hv : xV) (kv : Nat → xV) (v : xV) (hv' : xV) (v' : xV) (hz_hs : z ≤ x) (hz_bk : z ≤ b) (dj_hs_bk : x + 2 ≤ b ∨ b + 37 ≤ x) (dj_hu_bk : x + 150 ≤ b ∨ b + 37 ≤ x + 2) (hf : f_X2_restore hv kv v = some (hv', v')) : xM l yX2_restore wsX2_restore 3 83 G z [.ref x, .ref b] (fun H => PX G x 2 (hsE G x) hv H ∧ HU G x kv H ∧ PX G b 37 (bkE G b) v H) none (fun H H1 => PX G x 2 (hsE G x) hv' H1 ∧ PX G b 37 (bkE G b) v' H1 ∧ XF (fun q => (x ≤ q ∧ q < x + 2) ∨ (b ≤ q ∧ q < b + 37)) H H1) := by
  refine xM.of (cc := cX2_restore) (maxL := 2) (ret := none) (by decide +kernel) rfl (Nat.le_of_ble_eq_true rfl) ?_
  intro p e s m args below meth c ls Q hQ S hr hlocks hK hP hl
  obtain ⟨hx, hb, hml, hown, hts⟩ := id S
  obtain ⟨h_hs, h_hu, h_bk⟩ := hP
  have hL : ∀ q ∈ ([] : List Loc), z ≤ q.base := fun q h => absurd h List.not_mem_nil
  have hF : XF (fun q => (x ≤ q ∧ q < x + 2) ∨ (b ≤ q ∧ q < b + 37)) s.heap s.heap := XF.rf
  have hl : lv_has ls 2 [(0, .ref x), (1, .ref b)] := hl
  have in2 : ∀ w ∈ u_ws RX2 TX2 2, w ∈ wsX2_restore := fun _ h => List.mem_cons_of_mem _ (List.mem_append_left _ (List.mem_append_left _ (List.mem_append_left _ (List.mem_append_right _ h))))
  unfold f_X2_restore at hf
  refine lv_aload_n hx hb dX2_restore_0 rfl (lv_at hl 0 rfl) ?_
  refine x_get S hK h_hs 0 (by decide) rfl rfl rfl in2 1 (by decide) (xm 1 rfl) (x := .int (hv 0 1)) rfl dX2_restore_1 ?_
  refine lv_iconst (v := 1) hx hb dX2_restore_4 (by decide) ?_
  refine lv_icmp_lt (tgt := 43) hx hb dX2_restore_5 (by decide) (fun c_1 => ?_) (fun c_1 => ?_)
  · have hf := (if_pos c_1).symm.trans hf
    obtain ⟨q0, qq0⟩ := Prod.mk.inj (Option.some.inj hf)
    have q1 := qq0
    subst hv'
    subst v'
    subst hQ
    refine x_vret (post := (fun H H1 => PX G x 2 (hsE G x) hv H1 ∧ PX G b 37 (bkE G b) v H1 ∧ XF (fun q => (x ≤ q ∧ q < x + 2) ∨ (b ≤ q ∧ q < b + 37)) H H1)) S hr hlocks rfl ?_ hL dX2_restore_43
    exact ⟨h_hs, h_bk, hF⟩
  · have hf := (if_neg c_1).symm.trans hf
    refine lv_aload_n hx hb dX2_restore_8 rfl (lv_at hl 0 rfl) ?_
    refine x_get S hK h_hs 0 (by decide) rfl rfl rfl in2 1 (by decide) (xm 1 rfl) (x := .int (hv 0 1)) rfl dX2_restore_9 ?_
    refine lv_aload_n hx hb dX2_restore_12 rfl (lv_at hl 0 rfl) ?_
    refine x_get S hK h_hs 0 (by decide) rfl rfl rfl in2 0 (by decide) (xm 2 rfl) (x := .ref (x + 1)) rfl dX2_restore_13 ?_
    refine x_alen S hK h_hs 1 (by decide) rfl rfl 1 rfl (r := 4) rfl dX2_restore_16 ?_
    refine lv_icmp_gt (tgt := 43) hx hb dX2_restore_17 (by decide) (fun c_2 => ?_) (fun c_2 => ?_)
    · have hf := (if_pos c_2).symm.trans hf
      obtain ⟨q0, qq0⟩ := Prod.mk.inj (Option.some.inj hf)
      have q1 := qq0
      subst hv'
      subst v'
      subst hQ
      refine x_vret (post := (fun H H1 => PX G x 2 (hsE G x) hv H1 ∧ PX G b 37 (bkE G b) v H1 ∧ XF (fun q => (x ≤ q ∧ q < x + 2) ∨ (b ≤ q ∧ q < b + 37)) H H1)) S hr hlocks rfl ?_ hL dX2_restore_43
      exact ⟨h_hs, h_bk, hF⟩
    · have hf := (if_neg c_2).symm.trans hf
      refine lv_aload_n hx hb dX2_restore_20 rfl (lv_at hl 0 rfl) ?_
      refine lv_dup hx hb dX2_restore_21 rfl ?_
      refine x_get S hK h_hs 0 (by decide) rfl rfl rfl in2 1 (by decide) (xm 1 rfl) (x := .int (hv 0 1)) rfl dX2_restore_22 ?_
      refine lv_iconst (v := 1) hx hb dX2_restore_25 (by decide) ?_
      refine lv_isub hx hb dX2_restore_26 ?_
      obtain ⟨hv_3, ehv_3, hf⟩ := xl_some hf
      refine x_put S hK h_hs hz_hs hL 0 (by decide) rfl rfl rfl in2 tyX2 tyX2_ok nmX2 1 (by decide) (xm 1 rfl) rfl (vp_nar_int _) rfl (Nat.le_of_ble_eq_true rfl) rfl ehv_3 dX2_restore_27 (fun H1 locs hL h_hs hfr => ?_)
      have h_hu := h_hu.kept hfr (fun q h1 h2 h3 => by (try dsimp only at h3); omega)
      have h_bk := h_bk.kept hfr (fun q h1 h2 h3 => by (try dsimp only at h3); omega)
      have hF := hF.step hfr (fun q h => by (try dsimp only at h ⊢); omega)
      refine lv_aload_n hx hb dX2_restore_30 rfl (lv_at hl 1 rfl) ?_
      refine lv_aload_n hx hb dX2_restore_31 rfl (lv_at hl 0 rfl) ?_
      refine x_get S hK h_hs 0 (by decide) rfl rfl rfl in2 0 (by decide) (xm 2 rfl) (x := .ref (x + 1)) rfl dX2_restore_32 ?_
      refine lv_aload_n hx hb dX2_restore_35 rfl (lv_at hl 0 rfl) ?_
      refine x_get S hK h_hs 0 (by decide) rfl rfl rfl in2 1 (by decide) (xm 1 rfl) (x := .int (hv_3 0 1)) rfl dX2_restore_36 ?_
      obtain ⟨g_4, hf⟩ := xg_some hf
      obtain ⟨i_5, ei_5, hf⟩ := xl_some hf
      have hi_i_5 : i_5 < 4 := by rw [ei_5]; exact xin_lt g_4
      obtain ⟨i_6, ei_6, hf⟩ := xl_some hf
      obtain ⟨hi_i_6, hf⟩ := xg_some hf
      refine x_aald S hK h_hs 1 (by decide) rfl rfl 1 rfl i_5 ei_5.symm g_4 (r := (x + (2 + 37 * i_6))) (by show some _ = some _; rw [ei_6]) dX2_restore_39 ?_
      obtain ⟨v_7, e_8, hf⟩ := xb_some hf
      refine x_callVv (As := [.ref (x + (2 + 37 * i_6))]) (rest := []) S hK (c_X0_copyFrom l G z b (x + (2 + 37 * i_6)) v (kv i_6) v_7 (by omega) (by omega) e_8) gX2_restore_X0_copyFrom rfl 1 (by decide +kernel) rfl ⟨Nat.le_of_ble_eq_true rfl, Nat.le_of_ble_eq_true rfl⟩ h_bk 0 (by decide) rfl rfl rfl ⟨h_bk, (h_hu i_6 hi_i_6)⟩ hl.1 rfl (Nat.le_of_ble_eq_true rfl) dX2_restore_40 hL ⟨Nat.zero_le _, Nat.zero_le _⟩ (fun H1 locs hL hpost => ?_)
      obtain ⟨n_bk, hfr⟩ := hpost
      have h_bk := n_bk
      have h_hs := h_hs.kept hfr (fun q h1 h2 h3 => by (try dsimp only at h3); omega)
      have h_hu := h_hu.kept hfr (fun q h1 h2 h3 => by (try dsimp only at h3); omega)
      have hF := hF.step hfr (fun q h => by (try dsimp only at h ⊢); omega)
      obtain ⟨q0, qq0⟩ := Prod.mk.inj (Option.some.inj hf)
      have q1 := qq0
      subst hv'
      subst v'
      subst hQ
      refine x_vret (post := (fun H H1 => PX G x 2 (hsE G x) hv_3 H1 ∧ PX G b 37 (bkE G b) v_7 H1 ∧ XF (fun q => (x ≤ q ∧ q < x + 2) ∨ (b ≤ q ∧ q < b + 37)) H H1)) S hr hlocks rfl ?_ hL dX2_restore_43
      exact ⟨h_hs, h_bk, hF⟩
