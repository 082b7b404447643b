/-! ===== the methods, walked (written by program) ===== -/
set_option maxRecDepth 100000 in
set_option maxHeartbeats 4000000 in
theorem c_X0_credit (l : Launch) (G : xG) (z : Nat) (b : Nat) (v : xV) (p1 : Int32) (p2 : Int32) (p3 : Int32) (v' : xV) (hz_bk : z ≤ b) (hf : f_X0_credit v p1 p2 p3 = some v') : xM l yX0_credit wsX0_credit 1 21 G z [.ref b, .int p1, .int p2, .int p3] (fun H => PX G b 37 (bkE G b) v H) none (fun H H1 => PX G b 37 (bkE G b) v' H1 ∧ XF (fun q => (b ≤ q ∧ q < b + 37)) H H1) := by
  refine xM.of (cc := cX0_credit) (maxL := 4) (ret := none) (by decide +kernel) rfl (Nat.le_of_ble_eq_true rfl) ?_
  intro p e s m args below meth c ls Q hQ S hr hlocks hK hP hl
  obtain ⟨hx, hb, hml, hown, hts⟩ := id S
  have h_bk := hP
  have hL : ∀ q ∈ ([] : List Loc), z ≤ q.base := fun q h => absurd h List.not_mem_nil
  have hF : XF (fun q => (b ≤ q ∧ q < b + 37)) s.heap s.heap := XF.rf
  have hl : lv_has ls 4 [(0, .ref b), (1, .int p1), (2, .int p2), (3, .int p3)] := hl
  have in0 : ∀ w ∈ u_ws RX0 TX0 9, w ∈ wsX0_credit := fun _ h => List.mem_cons_of_mem _ (List.mem_append_right _ h)
  unfold f_X0_credit at hf
  refine lv_aload_n hx hb dX0_credit_0 rfl (lv_at hl 0 rfl) ?_
  refine lv_iload_n hx hb dX0_credit_1 rfl (lv_at hl 1 rfl) ?_
  obtain ⟨r_1, e_2, hf⟩ := xb_some hf
  refine x_callVi (As := [.int p1]) (rest := []) S hK (c_X0_isHirer l G z b v p1 r_1 e_2) gX0_credit_X0_isHirer rfl 1 (by decide +kernel) rfl ⟨Nat.le_of_ble_eq_true rfl, Nat.le_of_ble_eq_true rfl⟩ h_bk 0 (by decide) rfl rfl rfl h_bk hl.1 rfl (Nat.le_of_ble_eq_true rfl) dX0_credit_2 hL ⟨Nat.zero_le _, Nat.zero_le _⟩ (fun H1 locs hL hpost => ?_)
  subst hpost
  refine lv_if_eq (tgt := 38) hx hb dX0_credit_5 (by decide) (fun c_3 => ?_) (fun c_3 => ?_)
  · have hf := (if_pos c_3).symm.trans hf
    have q0 := Option.some.inj hf
    subst v'
    subst hQ
    refine x_vret (post := (fun H H1 => PX G b 37 (bkE G b) v H1 ∧ XF (fun q => (b ≤ q ∧ q < b + 37)) H H1)) S hr hlocks rfl ?_ hL dX0_credit_38
    exact ⟨h_bk, hF⟩
  · have hf := (if_neg c_3).symm.trans hf
    refine lv_iload_n hx hb dX0_credit_8 rfl (lv_at hl 3 rfl) ?_
    refine lv_if_lt (tgt := 38) hx hb dX0_credit_9 (by decide) (fun c_4 => ?_) (fun c_4 => ?_)
    · have hf := (if_pos c_4).symm.trans hf
      have q0 := Option.some.inj hf
      subst v'
      subst hQ
      refine x_vret (post := (fun H H1 => PX G b 37 (bkE G b) v H1 ∧ XF (fun q => (b ≤ q ∧ q < b + 37)) H H1)) S hr hlocks rfl ?_ hL dX0_credit_38
      exact ⟨h_bk, hF⟩
    · have hf := (if_neg c_4).symm.trans hf
      refine lv_iload_n hx hb dX0_credit_12 rfl (lv_at hl 3 rfl) ?_
      refine lv_bipush (v := 9) hx hb dX0_credit_13 (by decide) ?_
      refine lv_icmp_ge (tgt := 38) hx hb dX0_credit_15 (by decide) (fun c_5 => ?_) (fun c_5 => ?_)
      · have hf := (if_pos c_5).symm.trans hf
        have q0 := Option.some.inj hf
        subst v'
        subst hQ
        refine x_vret (post := (fun H H1 => PX G b 37 (bkE G b) v H1 ∧ XF (fun q => (b ≤ q ∧ q < b + 37)) H H1)) S hr hlocks rfl ?_ hL dX0_credit_38
        exact ⟨h_bk, hF⟩
      · have hf := (if_neg c_5).symm.trans hf
        refine lv_aload_n hx hb dX0_credit_18 rfl (lv_at hl 0 rfl) ?_
        refine x_get S hK h_bk 0 (by decide) rfl rfl rfl in0 6 (by decide) (xm 1 rfl) (x := .ref (b + 4)) rfl dX0_credit_19 ?_
        refine lv_iload_n hx hb dX0_credit_22 rfl (lv_at hl 1 rfl) ?_
        refine lv_dup2_11 hx hb dX0_credit_23 rfl rfl ?_
        obtain ⟨g_6, hf⟩ := xg_some hf
        refine x_iald S hK h_bk 4 (by decide) rfl rfl p1.toNatClampNeg rfl g_6 dX0_credit_24 ?_
        refine lv_iload_n hx hb dX0_credit_25 rfl (lv_at hl 2 rfl) ?_
        refine lv_iadd hx hb dX0_credit_26 ?_
        obtain ⟨g_7, hf⟩ := xg_some hf
        obtain ⟨v_8, ev_8, hf⟩ := xl_some hf
        refine x_iast S hK h_bk hz_bk hL 4 (by decide) rfl rfl p1.toNatClampNeg rfl g_7 rfl ev_8 dX0_credit_27 (fun H1 locs hL h_bk hfr => ?_)
        have hF := hF.step hfr (fun q h => by (try dsimp only at h ⊢); omega)
        refine lv_aload_n hx hb dX0_credit_28 rfl (lv_at hl 0 rfl) ?_
        refine x_get S hK h_bk 0 (by decide) rfl rfl rfl in0 4 (by decide) (xm 2 rfl) (x := .ref (b + 2)) rfl dX0_credit_29 ?_
        refine lv_iload_n hx hb dX0_credit_32 rfl (lv_at hl 3 rfl) ?_
        refine lv_dup2_11 hx hb dX0_credit_33 rfl rfl ?_
        obtain ⟨g_9, hf⟩ := xg_some hf
        refine x_iald S hK h_bk 2 (by decide) rfl rfl p3.toNatClampNeg rfl g_9 dX0_credit_34 ?_
        refine lv_iload_n hx hb dX0_credit_35 rfl (lv_at hl 2 rfl) ?_
        refine lv_iadd hx hb dX0_credit_36 ?_
        obtain ⟨g_10, hf⟩ := xg_some hf
        obtain ⟨v_11, ev_11, hf⟩ := xl_some hf
        refine x_iast S hK h_bk hz_bk hL 2 (by decide) rfl rfl p3.toNatClampNeg rfl g_10 rfl ev_11 dX0_credit_37 (fun H1 locs hL h_bk hfr => ?_)
        have hF := hF.step hfr (fun q h => by (try dsimp only at h ⊢); omega)
        have q0 := Option.some.inj hf
        subst v'
        subst hQ
        refine x_vret (post := (fun H H1 => PX G b 37 (bkE G b) v_11 H1 ∧ XF (fun q => (b ≤ q ∧ q < b + 37)) H H1)) S hr hlocks rfl ?_ hL dX0_credit_38
        exact ⟨h_bk, hF⟩
set_option maxRecDepth 100000 in
set_option maxHeartbeats 4000000 in
theorem c_X0_faultsOf (l : Launch) (G : xG) (z : Nat) (b : Nat) (v : xV) (p1 : Int32) (r0 : Int32)  (hf : f_X0_faultsOf v p1 = some r0) : xM l yX0_faultsOf wsX0_faultsOf 0 0 G z [.ref b, .int p1] (fun H => PX G b 37 (bkE G b) v H) (some (.int r0)) (fun H H1 => H1 = H) := by
  refine xM.of (cc := cX0_faultsOf) (maxL := 7) (ret := (some .int)) (by decide +kernel) rfl (Nat.le_of_ble_eq_true rfl) ?_
  intro p e s m args below meth c ls Q hQ S hr hlocks hK hP hl
  obtain ⟨hx, hb, hml, hown, hts⟩ := id S
  have h_bk := hP
  have hL : ∀ q ∈ ([] : List Loc), z ≤ q.base := fun q h => absurd h List.not_mem_nil
  have hl : lv_has ls 7 [(0, .ref b), (1, .int p1)] := hl
  have in0 : ∀ w ∈ u_ws RX0 TX0 9, w ∈ wsX0_faultsOf := fun _ h => List.mem_cons_of_mem _ (List.mem_append_left _ (List.mem_append_right _ h))
  have in1 : ∀ w ∈ u_ws RX1 TX1 15, w ∈ wsX0_faultsOf := fun _ h => List.mem_cons_of_mem _ (List.mem_append_right _ h)
  unfold f_X0_faultsOf at hf
  refine lv_iconst (v := 0) hx hb dX0_faultsOf_0 (by decide) ?_
  refine lv_istore_n (lv' := [(2, .int 0), (0, .ref b), (1, .int p1)]) hx hb dX0_faultsOf_1 rfl hl (by decide) rfl (fun ls hl => ?_)
  refine lv_aload_n hx hb dX0_faultsOf_2 rfl (lv_at hl 1 rfl) ?_
  refine x_get S hK h_bk 0 (by decide) rfl rfl rfl in0 7 (by decide) (xm 1 rfl) (x := .ref (b + 5)) rfl dX0_faultsOf_3 ?_
  refine lv_astore_n (lv' := [(3, .ref (b + 5)), (2, .int 0), (0, .ref b), (1, .int p1)]) hx hb dX0_faultsOf_6 rfl hl (by decide) rfl (fun ls hl => ?_)
  refine lv_aload_n hx hb dX0_faultsOf_7 rfl (lv_at hl 0 rfl) ?_
  refine x_alen S hK h_bk 5 (by decide) rfl rfl 2 rfl (r := 12) rfl dX0_faultsOf_8 ?_
  refine lv_istore (lv' := [(4, .int 12), (3, .ref (b + 5)), (2, .int 0), (0, .ref b), (1, .int p1)]) hx hb dX0_faultsOf_9 hl (by decide) rfl (fun ls hl => ?_)
  refine lv_iconst (v := 0) hx hb dX0_faultsOf_11 (by decide) ?_
  refine lv_istore (lv' := [(5, .int 0), (4, .int 12), (3, .ref (b + 5)), (2, .int 0), (0, .ref b), (1, .int p1)]) hx hb dX0_faultsOf_12 hl (by decide) rfl (fun ls hl => ?_)
  have lp_14 : ∀ (K_14 : Int32 → Int32 → Option Int32), (∀ (x_1 : Int32) (x_2 : Int32) (locs : List Loc) (ls : Array Slot), (∀ q ∈ locs, z ≤ q.base) → lv_has ls 7 [(2, .int x_1)] → K_14 x_1 x_2 = some r0 → W p l e { frames := 0, cells := 0, slots := 0, locals := 0 } s m args below meth c s.heap locs 0 0 Q (F0 m 54 ls [])) → ∀ (n : Nat) (x_1 : Int32) (x_2 : Int32) (locs : List Loc) (ls : Array Slot), (∀ q ∈ locs, z ≤ q.base) → lv_has ls 7 [(1, .int p1), (2, .int x_1), (3, .ref (b + 5)), (4, .int 12), (5, .int x_2)] → L_X0_faultsOf_14 K_14 v p1 n x_1 x_2 = some r0 → W p l e { frames := 0, cells := 0, slots := 0, locals := 0 } s m args below meth c s.heap locs 0 0 Q (F0 m 14 ls []) := by
    intro K_14 hK_14 n
    induction n with
    | zero =>
      intro x_1 x_2 locs ls hL hl hf
      cases hf
    | succ n ih_14 =>
      intro x_1 x_2 locs ls hL hl hf
      unfold L_X0_faultsOf_14 at hf
      refine lv_iload hx hb dX0_faultsOf_14 (lv_at hl 4 rfl) ?_
      refine lv_iload hx hb dX0_faultsOf_16 (lv_at hl 3 rfl) ?_
      refine lv_icmp_ge (tgt := 54) hx hb dX0_faultsOf_18 (by decide) (fun c_3 => ?_) (fun c_3 => ?_)
      · have hf := (if_pos c_3).symm.trans hf
        exact hK_14 x_1 x_2 _ _ hL (lv_sub hl [1] rfl) hf
      · have hf := (if_neg c_3).symm.trans hf
        refine lv_aload_n hx hb dX0_faultsOf_21 rfl (lv_at hl 2 rfl) ?_
        refine lv_iload hx hb dX0_faultsOf_22 (lv_at hl 4 rfl) ?_
        obtain ⟨g_4, hf⟩ := xg_some hf
        obtain ⟨i_5, ei_5, hf⟩ := xl_some hf
        have hi_i_5 : i_5 < 12 := by rw [ei_5]; exact xin_lt g_4
        refine x_aald S hK h_bk 5 (by decide) rfl rfl 2 rfl i_5 ei_5.symm g_4 (r := (b + (6 + 2 * i_5))) rfl dX0_faultsOf_24 ?_
        refine lv_astore (lv' := [(6, .ref (b + (6 + 2 * i_5))), (1, .int p1), (2, .int x_1), (3, .ref (b + 5)), (4, .int 12), (5, .int x_2)]) hx hb dX0_faultsOf_25 hl (by decide) rfl (fun ls hl => ?_)
        refine lv_iload_n hx hb dX0_faultsOf_27 rfl (lv_at hl 2 rfl) ?_
        refine lv_aload hx hb dX0_faultsOf_28 (lv_at hl 0 rfl) ?_
        refine x_get S hK h_bk (6 + 2 * i_5) (by omega) rfl (bkE_hire G b i_5 hi_i_5 _) rfl in1 1 (by decide) (xm 2 rfl) (x := .int (v (6 + 2 * i_5) 1)) rfl dX0_faultsOf_30 ?_
        refine lv_iload_n hx hb dX0_faultsOf_33 rfl (lv_at hl 1 rfl) ?_
        refine lv_icmp_ne (tgt := 45) hx hb dX0_faultsOf_34 (by decide) (fun c_6 => ?_) (fun c_6 => ?_)
        · have hf := (if_neg c_6).symm.trans hf
          refine lv_iconst (v := 0) hx hb dX0_faultsOf_45 (by decide) ?_
          refine lv_iadd hx hb dX0_faultsOf_46 ?_
          obtain ⟨x_7, ex_7, hf⟩ := xl_some hf
          refine x_top ex_7 ?_
          refine lv_istore_n (lv' := [(2, .int x_7), (6, .ref (b + (6 + 2 * i_5))), (1, .int p1), (3, .ref (b + 5)), (4, .int 12), (5, .int x_2)]) hx hb dX0_faultsOf_47 rfl hl (by decide) rfl (fun ls hl => ?_)
          obtain ⟨x_8, ex_8, hf⟩ := xl_some hf
          refine lv_iinc (v := x_8) (lv' := [(5, .int x_8), (2, .int x_7), (6, .ref (b + (6 + 2 * i_5))), (1, .int p1), (3, .ref (b + 5)), (4, .int 12)]) hx hb dX0_faultsOf_48 hl (k := 5) rfl (by rw [ex_8]; rfl) (by decide) rfl (fun ls hl => ?_)
          refine lv_goto (tgt := 14) hx hb dX0_faultsOf_51 (by decide) ?_
          exact ih_14 x_7 x_8 _ _ hL (lv_sub hl [3, 1, 4, 5, 0] rfl) hf
        · have hf := (if_pos c_6).symm.trans hf
          refine lv_aload hx hb dX0_faultsOf_37 (lv_at hl 0 rfl) ?_
          refine x_get S hK h_bk (6 + 2 * i_5) (by omega) rfl (bkE_hire G b i_5 hi_i_5 _) rfl in1 12 (by decide) (xm 3 rfl) (x := .int (v (6 + 2 * i_5) 12)) rfl dX0_faultsOf_39 ?_
          refine lv_goto (tgt := 46) hx hb dX0_faultsOf_42 (by decide) ?_
          refine lv_iadd hx hb dX0_faultsOf_46 ?_
          obtain ⟨x_9, ex_9, hf⟩ := xl_some hf
          refine x_top ex_9 ?_
          refine lv_istore_n (lv' := [(2, .int x_9), (6, .ref (b + (6 + 2 * i_5))), (1, .int p1), (3, .ref (b + 5)), (4, .int 12), (5, .int x_2)]) hx hb dX0_faultsOf_47 rfl hl (by decide) rfl (fun ls hl => ?_)
          obtain ⟨x_10, ex_10, hf⟩ := xl_some hf
          refine lv_iinc (v := x_10) (lv' := [(5, .int x_10), (2, .int x_9), (6, .ref (b + (6 + 2 * i_5))), (1, .int p1), (3, .ref (b + 5)), (4, .int 12)]) hx hb dX0_faultsOf_48 hl (k := 5) rfl (by rw [ex_10]; rfl) (by decide) rfl (fun ls hl => ?_)
          refine lv_goto (tgt := 14) hx hb dX0_faultsOf_51 (by decide) ?_
          exact ih_14 x_9 x_10 _ _ hL (lv_sub hl [3, 1, 4, 5, 0] rfl) hf
  refine lp_14 _ (fun x_11 x_12 locs ls hL hl hf => ?_) 100000 0 0 _ _ hL (lv_sub hl [5, 3, 2, 1, 0] rfl) hf
  refine lv_iload_n hx hb dX0_faultsOf_54 rfl (lv_at hl 0 rfl) ?_
  have q0 := Option.some.inj hf
  subst r0
  subst hQ
  refine x_iret (post := (fun H H1 => H1 = H)) S hr hlocks rfl ?_ hL dX0_faultsOf_55
  exact rfl
set_option maxRecDepth 100000 in
set_option maxHeartbeats 4000000 in
theorem c_X0_giveDepositBack (l : Launch) (G : xG) (z : Nat) (b : Nat) (v : xV) (i : Nat) (r0 : Int32) (v' : xV) (hz_bk : z ≤ b) (hi_i : i < 12) (hf : f_X0_giveDepositBack v i = some (r0, v')) : xM l yX0_giveDepositBack wsX0_giveDepositBack 2 44 G z [.ref b, .ref (b + (6 + 2 * i))] (fun H => PX G b 37 (bkE G b) v H) (some (.int r0)) (fun H H1 => PX G b 37 (bkE G b) v' H1 ∧ XF (fun q => (b ≤ q ∧ q < b + 37)) H H1) := by
  refine xM.of (cc := cX0_giveDepositBack) (maxL := 3) (ret := (some .int)) (by decide +kernel) rfl (Nat.le_of_ble_eq_true rfl) ?_
  intro p e s m args below meth c ls Q hQ S hr hlocks hK hP hl
  obtain ⟨hx, hb, hml, hown, hts⟩ := id S
  have h_bk := hP
  have hL : ∀ q ∈ ([] : List Loc), z ≤ q.base := fun q h => absurd h List.not_mem_nil
  have hF : XF (fun q => (b ≤ q ∧ q < b + 37)) s.heap s.heap := XF.rf
  have hl : lv_has ls 3 [(0, .ref b), (1, .ref (b + (6 + 2 * i)))] := hl
  have in0 : ∀ w ∈ u_ws RX0 TX0 9, w ∈ wsX0_giveDepositBack := fun _ h => List.mem_cons_of_mem _ (List.mem_append_right _ h)
  have in1 : ∀ w ∈ u_ws RX1 TX1 15, w ∈ wsX0_giveDepositBack := fun _ h => List.mem_cons_of_mem _ (List.mem_append_left _ (List.mem_append_right _ h))
  unfold f_X0_giveDepositBack at hf
  refine lv_aload_n hx hb dX0_giveDepositBack_0 rfl (lv_at hl 1 rfl) ?_
  refine x_get S hK h_bk (6 + 2 * i) (by omega) rfl (bkE_hire G b i hi_i _) rfl in1 11 (by decide) (xm 1 rfl) (x := .int (v (6 + 2 * i) 11)) rfl dX0_giveDepositBack_1 ?_
  obtain ⟨x_1, ex_1, hf⟩ := xl_some hf
  refine x_top ex_1 ?_
  refine lv_istore_n (lv' := [(2, .int x_1), (0, .ref b), (1, .ref (b + (6 + 2 * i)))]) hx hb dX0_giveDepositBack_4 rfl hl (by decide) rfl (fun ls hl => ?_)
  refine lv_aload_n hx hb dX0_giveDepositBack_5 rfl (lv_at hl 2 rfl) ?_
  refine lv_iconst (v := 0) hx hb dX0_giveDepositBack_6 (by decide) ?_
  obtain ⟨v_2, ev_2, hf⟩ := xl_some hf
  refine x_put S hK h_bk hz_bk hL (6 + 2 * i) (by omega) rfl (bkE_hire G b i hi_i _) rfl in1 tyX1 tyX1_ok nmX1 11 (by decide) (xm 1 rfl) rfl (vp_nar_int _) rfl (Nat.le_of_ble_eq_true rfl) (bkE_hire G b i hi_i _) ev_2 dX0_giveDepositBack_7 (fun H1 locs hL h_bk hfr => ?_)
  have hF := hF.step hfr (fun q h => by (try dsimp only at h ⊢); omega)
  refine lv_aload_n hx hb dX0_giveDepositBack_10 rfl (lv_at hl 2 rfl) ?_
  refine lv_iconst (v := 1) hx hb dX0_giveDepositBack_11 (by decide) ?_
  obtain ⟨v_3, ev_3, hf⟩ := xl_some hf
  refine x_put S hK h_bk hz_bk hL (6 + 2 * i) (by omega) rfl (bkE_hire G b i hi_i _) rfl in1 tyX1 tyX1_ok nmX1 13 (by decide) (xm 2 rfl) rfl rfl rfl (Nat.le_of_ble_eq_true rfl) (bkE_hire G b i hi_i _) ev_3 dX0_giveDepositBack_12 (fun H1 locs hL h_bk hfr => ?_)
  have hF := hF.step hfr (fun q h => by (try dsimp only at h ⊢); omega)
  refine lv_aload_n hx hb dX0_giveDepositBack_15 rfl (lv_at hl 1 rfl) ?_
  refine x_get S hK h_bk 0 (by decide) rfl rfl rfl in0 4 (by decide) (xm 3 rfl) (x := .ref (b + 2)) rfl dX0_giveDepositBack_16 ?_
  refine lv_iconst (v := 3) hx hb dX0_giveDepositBack_19 (by decide) ?_
  refine lv_dup2_11 hx hb dX0_giveDepositBack_20 rfl rfl ?_
  refine x_iald S hK h_bk 2 (by decide) rfl rfl 3 (by decide) (by decide) dX0_giveDepositBack_21 ?_
  refine lv_iload_n hx hb dX0_giveDepositBack_22 rfl (lv_at hl 0 rfl) ?_
  refine lv_isub hx hb dX0_giveDepositBack_23 ?_
  obtain ⟨v_4, ev_4, hf⟩ := xl_some hf
  refine x_iast S hK h_bk hz_bk hL 2 (by decide) rfl rfl 3 (by decide) (by decide) rfl ev_4 dX0_giveDepositBack_24 (fun H1 locs hL h_bk hfr => ?_)
  have hF := hF.step hfr (fun q h => by (try dsimp only at h ⊢); omega)
  refine lv_aload_n hx hb dX0_giveDepositBack_25 rfl (lv_at hl 1 rfl) ?_
  refine lv_aload_n hx hb dX0_giveDepositBack_26 rfl (lv_at hl 2 rfl) ?_
  refine x_get S hK h_bk (6 + 2 * i) (by omega) rfl (bkE_hire G b i hi_i _) rfl in1 1 (by decide) (xm 4 rfl) (x := .int (v_4 (6 + 2 * i) 1)) rfl dX0_giveDepositBack_27 ?_
  refine lv_iload_n hx hb dX0_giveDepositBack_30 rfl (lv_at hl 0 rfl) ?_
  refine lv_bipush (v := 6) hx hb dX0_giveDepositBack_31 (by decide) ?_
  obtain ⟨v_5, e_6, hf⟩ := xb_some hf
  refine x_callVv (As := [.int (v_4 (6 + 2 * i) 1), .int x_1, .int 6]) (rest := []) S hK (c_X0_credit l G z b v_4 (v_4 (6 + 2 * i) 1) x_1 6 v_5 (by omega) e_6) gX0_giveDepositBack_X0_credit rfl 3 (by decide +kernel) rfl ⟨Nat.le_of_ble_eq_true rfl, Nat.le_of_ble_eq_true rfl⟩ h_bk 0 (by decide) rfl rfl rfl h_bk hl.1 rfl (Nat.le_of_ble_eq_true rfl) dX0_giveDepositBack_33 hL ⟨Nat.zero_le _, Nat.zero_le _⟩ (fun H1 locs hL hpost => ?_)
  obtain ⟨n_bk, hfr⟩ := hpost
  have h_bk := n_bk
  have hF := hF.step hfr (fun q h => by (try dsimp only at h ⊢); omega)
  refine lv_iload_n hx hb dX0_giveDepositBack_36 rfl (lv_at hl 0 rfl) ?_
  obtain ⟨q0, qq0⟩ := Prod.mk.inj (Option.some.inj hf)
  have q1 := qq0
  subst r0
  subst v'
  subst hQ
  refine x_iret (post := (fun H H1 => PX G b 37 (bkE G b) v_5 H1 ∧ XF (fun q => (b ≤ q ∧ q < b + 37)) H H1)) S hr hlocks rfl ?_ hL dX0_giveDepositBack_37
  exact ⟨h_bk, hF⟩
set_option maxRecDepth 100000 in
set_option maxHeartbeats 4000000 in
theorem c_X0_hireAt (l : Launch) (G : xG) (z : Nat) (b : Nat) (v : xV) (p1 : Int32) (r0 : Option Nat)  (hf : f_X0_hireAt v p1 = some r0) : xM l yX0_hireAt wsX0_hireAt 0 0 G z [.ref b, .int p1] (fun H => PX G b 37 (bkE G b) v H) (some (va_rf (Option.map (fun i => b + (6 + 2 * i)) r0))) (fun H H1 => H1 = H) := by
  refine xM.of (cc := cX0_hireAt) (maxL := 2) (ret := (some (.object "VillageHall$Hire"))) (by decide +kernel) rfl (Nat.le_of_ble_eq_true rfl) ?_
  intro p e s m args below meth c ls Q hQ S hr hlocks hK hP hl
  obtain ⟨hx, hb, hml, hown, hts⟩ := id S
  have h_bk := hP
  have hL : ∀ q ∈ ([] : List Loc), z ≤ q.base := fun q h => absurd h List.not_mem_nil
  have hl : lv_has ls 2 [(0, .ref b), (1, .int p1)] := hl
  have in0 : ∀ w ∈ u_ws RX0 TX0 9, w ∈ wsX0_hireAt := fun _ h => List.mem_cons_of_mem _ (List.mem_append_right _ h)
  unfold f_X0_hireAt at hf
  refine lv_iload_n hx hb dX0_hireAt_0 rfl (lv_at hl 1 rfl) ?_
  refine lv_if_lt (tgt := 30) hx hb dX0_hireAt_1 (by decide) (fun c_1 => ?_) (fun c_1 => ?_)
  · have hf := (if_pos c_1).symm.trans hf
    refine lv_null hx hb dX0_hireAt_30 ?_
    have q0 := Option.some.inj hf
    subst r0
    subst hQ
    refine x_aret (post := (fun H H1 => H1 = H)) S hr hlocks (Or.inl rfl) rfl ?_ hL dX0_hireAt_31
    exact rfl
  · have hf := (if_neg c_1).symm.trans hf
    refine lv_iload_n hx hb dX0_hireAt_4 rfl (lv_at hl 1 rfl) ?_
    refine lv_aload_n hx hb dX0_hireAt_5 rfl (lv_at hl 0 rfl) ?_
    refine x_get S hK h_bk 0 (by decide) rfl rfl rfl in0 2 (by decide) (xm 1 rfl) (x := .int (v 0 2)) rfl dX0_hireAt_6 ?_
    refine lv_icmp_ge (tgt := 30) hx hb dX0_hireAt_9 (by decide) (fun c_2 => ?_) (fun c_2 => ?_)
    · have hf := (if_pos c_2).symm.trans hf
      refine lv_null hx hb dX0_hireAt_30 ?_
      have q0 := Option.some.inj hf
      subst r0
      subst hQ
      refine x_aret (post := (fun H H1 => H1 = H)) S hr hlocks (Or.inl rfl) rfl ?_ hL dX0_hireAt_31
      exact rfl
    · have hf := (if_neg c_2).symm.trans hf
      refine lv_iload_n hx hb dX0_hireAt_12 rfl (lv_at hl 1 rfl) ?_
      refine lv_aload_n hx hb dX0_hireAt_13 rfl (lv_at hl 0 rfl) ?_
      refine x_get S hK h_bk 0 (by decide) rfl rfl rfl in0 7 (by decide) (xm 2 rfl) (x := .ref (b + 5)) rfl dX0_hireAt_14 ?_
      refine x_alen S hK h_bk 5 (by decide) rfl rfl 2 rfl (r := 12) rfl dX0_hireAt_17 ?_
      refine lv_icmp_ge (tgt := 30) hx hb dX0_hireAt_18 (by decide) (fun c_3 => ?_) (fun c_3 => ?_)
      · have hf := (if_pos c_3).symm.trans hf
        refine lv_null hx hb dX0_hireAt_30 ?_
        have q0 := Option.some.inj hf
        subst r0
        subst hQ
        refine x_aret (post := (fun H H1 => H1 = H)) S hr hlocks (Or.inl rfl) rfl ?_ hL dX0_hireAt_31
        exact rfl
      · have hf := (if_neg c_3).symm.trans hf
        refine lv_aload_n hx hb dX0_hireAt_21 rfl (lv_at hl 0 rfl) ?_
        refine x_get S hK h_bk 0 (by decide) rfl rfl rfl in0 7 (by decide) (xm 2 rfl) (x := .ref (b + 5)) rfl dX0_hireAt_22 ?_
        refine lv_iload_n hx hb dX0_hireAt_25 rfl (lv_at hl 1 rfl) ?_
        obtain ⟨g_4, hf⟩ := xg_some hf
        obtain ⟨i_5, ei_5, hf⟩ := xl_some hf
        have hi_i_5 : i_5 < 12 := by rw [ei_5]; exact xin_lt g_4
        refine x_aald S hK h_bk 5 (by decide) rfl rfl 2 rfl i_5 ei_5.symm g_4 (r := (b + (6 + 2 * i_5))) rfl dX0_hireAt_26 ?_
        refine lv_goto (tgt := 31) hx hb dX0_hireAt_27 (by decide) ?_
        have q0 := Option.some.inj hf
        subst r0
        subst hQ
        refine x_aret (post := (fun H H1 => H1 = H)) S hr hlocks (Or.inr ⟨_, rfl⟩) rfl ?_ hL dX0_hireAt_31
        exact rfl
set_option maxRecDepth 100000 in
set_option maxHeartbeats 4000000 in
theorem c_X0_hireOfSession (l : Launch) (G : xG) (z : Nat) (b : Nat) (v : xV) (p1 : Int32) (r0 : Option Nat)  (hf : f_X0_hireOfSession v p1 = some r0) : xM l yX0_hireOfSession wsX0_hireOfSession 1 21 G z [.ref b, .int p1] (fun H => PX G b 37 (bkE G b) v H) (some (va_rf (Option.map (fun i => b + (6 + 2 * i)) r0))) (fun H H1 => H1 = H) := by
  refine xM.of (cc := cX0_hireOfSession) (maxL := 3) (ret := (some (.object "VillageHall$Hire"))) (by decide +kernel) rfl (Nat.le_of_ble_eq_true rfl) ?_
  intro p e s m args below meth c ls Q hQ S hr hlocks hK hP hl
  obtain ⟨hx, hb, hml, hown, hts⟩ := id S
  have h_bk := hP
  have hL : ∀ q ∈ ([] : List Loc), z ≤ q.base := fun q h => absurd h List.not_mem_nil
  have hl : lv_has ls 3 [(0, .ref b), (1, .int p1)] := hl
  have in1 : ∀ w ∈ u_ws RX1 TX1 15, w ∈ wsX0_hireOfSession := fun _ h => List.mem_cons_of_mem _ (List.mem_append_left _ (List.mem_append_right _ h))
  unfold f_X0_hireOfSession at hf
  refine lv_iload_n hx hb dX0_hireOfSession_0 rfl (lv_at hl 1 rfl) ?_
  refine lv_if_ge (tgt := 6) hx hb dX0_hireOfSession_1 (by decide) (fun c_1 => ?_) (fun c_1 => ?_)
  · have hf := (if_pos c_1).symm.trans hf
    refine lv_aload_n hx hb dX0_hireOfSession_6 rfl (lv_at hl 0 rfl) ?_
    refine lv_iload_n hx hb dX0_hireOfSession_7 rfl (lv_at hl 1 rfl) ?_
    refine lv_bipush (v := 20) hx hb dX0_hireOfSession_8 (by decide) ?_
    refine lv_idiv hx hb dX0_hireOfSession_10 (by decide) ?_
    obtain ⟨o_2, e_3, hf⟩ := xb_some hf
    refine x_callVi (As := [.int (p1 / 20)]) (rest := []) S hK (c_X0_hireAt l G z b v (p1 / 20) o_2 e_3) gX0_hireOfSession_X0_hireAt rfl 1 (by decide +kernel) rfl ⟨Nat.le_of_ble_eq_true rfl, Nat.le_of_ble_eq_true rfl⟩ h_bk 0 (by decide) rfl rfl rfl h_bk hl.1 rfl (Nat.le_of_ble_eq_true rfl) dX0_hireOfSession_11 hL ⟨Nat.zero_le _, Nat.zero_le _⟩ (fun H1 locs hL hpost => ?_)
    subst hpost
    obtain _ | i_4 := o_2
    · have hf := (xo_n _ _).symm.trans hf
      show W _ _ _ _ _ _ _ _ _ _ _ _ _ _ _ (F0 _ _ _ (.null :: _))
      refine lv_astore_nN (lv' := [(2, .null), (0, .ref b), (1, .int p1)]) hx hb dX0_hireOfSession_14 rfl hl (by decide) rfl (fun ls hl => ?_)
      refine lv_aload_nN hx hb dX0_hireOfSession_15 rfl (lv_at hl 0 rfl) ?_
      refine lv_ifnullN (tgt := 34) hx hb dX0_hireOfSession_16 (by decide) ?_
      refine lv_null hx hb dX0_hireOfSession_34 ?_
      have q0 := Option.some.inj hf
      subst r0
      subst hQ
      refine x_aret (post := (fun H H1 => H1 = H)) S hr hlocks (Or.inl rfl) rfl ?_ hL dX0_hireOfSession_35
      exact rfl
    · have hf := (xo_s _ _ _).symm.trans hf
      obtain ⟨hi_i_4, hf⟩ := xg_some hf
      show W _ _ _ _ _ _ _ _ _ _ _ _ _ _ _ (F0 _ _ _ (.ref (b + (6 + 2 * i_4)) :: _))
      refine lv_astore_n (lv' := [(2, .ref (b + (6 + 2 * i_4))), (0, .ref b), (1, .int p1)]) hx hb dX0_hireOfSession_14 rfl hl (by decide) rfl (fun ls hl => ?_)
      refine lv_aload_n hx hb dX0_hireOfSession_15 rfl (lv_at hl 0 rfl) ?_
      refine lv_ifnull hx hb dX0_hireOfSession_16 ?_
      refine lv_iload_n hx hb dX0_hireOfSession_19 rfl (lv_at hl 2 rfl) ?_
      refine lv_bipush (v := 20) hx hb dX0_hireOfSession_20 (by decide) ?_
      refine lv_irem hx hb dX0_hireOfSession_22 (by decide) ?_
      refine lv_aload_n hx hb dX0_hireOfSession_23 rfl (lv_at hl 0 rfl) ?_
      refine x_get S hK h_bk (6 + 2 * i_4) (by omega) rfl (bkE_hire G b i_4 hi_i_4 _) rfl in1 5 (by decide) (xm 1 rfl) (x := .int (v (6 + 2 * i_4) 5)) rfl dX0_hireOfSession_24 ?_
      refine lv_icmp_ge (tgt := 34) hx hb dX0_hireOfSession_27 (by decide) (fun c_5 => ?_) (fun c_5 => ?_)
      · have hf := (if_pos c_5).symm.trans hf
        refine lv_null hx hb dX0_hireOfSession_34 ?_
        have q0 := Option.some.inj hf
        subst r0
        subst hQ
        refine x_aret (post := (fun H H1 => H1 = H)) S hr hlocks (Or.inl rfl) rfl ?_ hL dX0_hireOfSession_35
        exact rfl
      · have hf := (if_neg c_5).symm.trans hf
        refine lv_aload_n hx hb dX0_hireOfSession_30 rfl (lv_at hl 0 rfl) ?_
        refine lv_goto (tgt := 35) hx hb dX0_hireOfSession_31 (by decide) ?_
        have q0 := Option.some.inj hf
        subst r0
        subst hQ
        refine x_aret (post := (fun H H1 => H1 = H)) S hr hlocks (Or.inr ⟨_, rfl⟩) rfl ?_ hL dX0_hireOfSession_35
        exact rfl
  · have hf := (if_neg c_1).symm.trans hf
    refine lv_null hx hb dX0_hireOfSession_4 ?_
    have q0 := Option.some.inj hf
    subst r0
    subst hQ
    refine x_aret (post := (fun H H1 => H1 = H)) S hr hlocks (Or.inl rfl) rfl ?_ hL dX0_hireOfSession_5
    exact rfl
set_option maxRecDepth 100000 in
set_option maxHeartbeats 4000000 in
theorem c_X0_hiresOf (l : Launch) (G : xG) (z : Nat) (b : Nat) (v : xV) (p1 : Int32) (r0 : Int32)  (hf : f_X0_hiresOf v p1 = some r0) : xM l yX0_hiresOf wsX0_hiresOf 0 0 G z [.ref b, .int p1] (fun H => PX G b 37 (bkE G b) v H) (some (.int r0)) (fun H H1 => H1 = H) := by
  refine xM.of (cc := cX0_hiresOf) (maxL := 7) (ret := (some .int)) (by decide +kernel) rfl (Nat.le_of_ble_eq_true rfl) ?_
  intro p e s m args below meth c ls Q hQ S hr hlocks hK hP hl
  obtain ⟨hx, hb, hml, hown, hts⟩ := id S
  have h_bk := hP
  have hL : ∀ q ∈ ([] : List Loc), z ≤ q.base := fun q h => absurd h List.not_mem_nil
  have hl : lv_has ls 7 [(0, .ref b), (1, .int p1)] := hl
  have in0 : ∀ w ∈ u_ws RX0 TX0 9, w ∈ wsX0_hiresOf := fun _ h => List.mem_cons_of_mem _ (List.mem_append_left _ (List.mem_append_right _ h))
  have in1 : ∀ w ∈ u_ws RX1 TX1 15, w ∈ wsX0_hiresOf := fun _ h => List.mem_cons_of_mem _ (List.mem_append_right _ h)
  unfold f_X0_hiresOf at hf
  refine lv_iconst (v := 0) hx hb dX0_hiresOf_0 (by decide) ?_
  refine lv_istore_n (lv' := [(2, .int 0), (0, .ref b), (1, .int p1)]) hx hb dX0_hiresOf_1 rfl hl (by decide) rfl (fun ls hl => ?_)
  refine lv_aload_n hx hb dX0_hiresOf_2 rfl (lv_at hl 1 rfl) ?_
  refine x_get S hK h_bk 0 (by decide) rfl rfl rfl in0 7 (by decide) (xm 1 rfl) (x := .ref (b + 5)) rfl dX0_hiresOf_3 ?_
  refine lv_astore_n (lv' := [(3, .ref (b + 5)), (2, .int 0), (0, .ref b), (1, .int p1)]) hx hb dX0_hiresOf_6 rfl hl (by decide) rfl (fun ls hl => ?_)
  refine lv_aload_n hx hb dX0_hiresOf_7 rfl (lv_at hl 0 rfl) ?_
  refine x_alen S hK h_bk 5 (by decide) rfl rfl 2 rfl (r := 12) rfl dX0_hiresOf_8 ?_
  refine lv_istore (lv' := [(4, .int 12), (3, .ref (b + 5)), (2, .int 0), (0, .ref b), (1, .int p1)]) hx hb dX0_hiresOf_9 hl (by decide) rfl (fun ls hl => ?_)
  refine lv_iconst (v := 0) hx hb dX0_hiresOf_11 (by decide) ?_
  refine lv_istore (lv' := [(5, .int 0), (4, .int 12), (3, .ref (b + 5)), (2, .int 0), (0, .ref b), (1, .int p1)]) hx hb dX0_hiresOf_12 hl (by decide) rfl (fun ls hl => ?_)
  have lp_14 : ∀ (K_14 : Int32 → Int32 → Option Int32), (∀ (x_1 : Int32) (x_2 : Int32) (locs : List Loc) (ls : Array Slot), (∀ q ∈ locs, z ≤ q.base) → lv_has ls 7 [(2, .int x_1)] → K_14 x_1 x_2 = some r0 → W p l e { frames := 0, cells := 0, slots := 0, locals := 0 } s m args below meth c s.heap locs 0 0 Q (F0 m 50 ls [])) → ∀ (n : Nat) (x_1 : Int32) (x_2 : Int32) (locs : List Loc) (ls : Array Slot), (∀ q ∈ locs, z ≤ q.base) → lv_has ls 7 [(1, .int p1), (2, .int x_1), (3, .ref (b + 5)), (4, .int 12), (5, .int x_2)] → L_X0_hiresOf_14 K_14 v p1 n x_1 x_2 = some r0 → W p l e { frames := 0, cells := 0, slots := 0, locals := 0 } s m args below meth c s.heap locs 0 0 Q (F0 m 14 ls []) := by
    intro K_14 hK_14 n
    induction n with
    | zero =>
      intro x_1 x_2 locs ls hL hl hf
      cases hf
    | succ n ih_14 =>
      intro x_1 x_2 locs ls hL hl hf
      unfold L_X0_hiresOf_14 at hf
      refine lv_iload hx hb dX0_hiresOf_14 (lv_at hl 4 rfl) ?_
      refine lv_iload hx hb dX0_hiresOf_16 (lv_at hl 3 rfl) ?_
      refine lv_icmp_ge (tgt := 50) hx hb dX0_hiresOf_18 (by decide) (fun c_3 => ?_) (fun c_3 => ?_)
      · have hf := (if_pos c_3).symm.trans hf
        exact hK_14 x_1 x_2 _ _ hL (lv_sub hl [1] rfl) hf
      · have hf := (if_neg c_3).symm.trans hf
        refine lv_aload_n hx hb dX0_hiresOf_21 rfl (lv_at hl 2 rfl) ?_
        refine lv_iload hx hb dX0_hiresOf_22 (lv_at hl 4 rfl) ?_
        obtain ⟨g_4, hf⟩ := xg_some hf
        obtain ⟨i_5, ei_5, hf⟩ := xl_some hf
        have hi_i_5 : i_5 < 12 := by rw [ei_5]; exact xin_lt g_4
        refine x_aald S hK h_bk 5 (by decide) rfl rfl 2 rfl i_5 ei_5.symm g_4 (r := (b + (6 + 2 * i_5))) rfl dX0_hiresOf_24 ?_
        refine lv_astore (lv' := [(6, .ref (b + (6 + 2 * i_5))), (1, .int p1), (2, .int x_1), (3, .ref (b + 5)), (4, .int 12), (5, .int x_2)]) hx hb dX0_hiresOf_25 hl (by decide) rfl (fun ls hl => ?_)
        refine lv_iload_n hx hb dX0_hiresOf_27 rfl (lv_at hl 2 rfl) ?_
        refine lv_aload hx hb dX0_hiresOf_28 (lv_at hl 0 rfl) ?_
        refine x_get S hK h_bk (6 + 2 * i_5) (by omega) rfl (bkE_hire G b i_5 hi_i_5 _) rfl in1 1 (by decide) (xm 2 rfl) (x := .int (v (6 + 2 * i_5) 1)) rfl dX0_hiresOf_30 ?_
        refine lv_iload_n hx hb dX0_hiresOf_33 rfl (lv_at hl 1 rfl) ?_
        refine lv_icmp_ne (tgt := 41) hx hb dX0_hiresOf_34 (by decide) (fun c_6 => ?_) (fun c_6 => ?_)
        · have hf := (if_neg c_6).symm.trans hf
          refine lv_iconst (v := 0) hx hb dX0_hiresOf_41 (by decide) ?_
          refine lv_iadd hx hb dX0_hiresOf_42 ?_
          obtain ⟨x_7, ex_7, hf⟩ := xl_some hf
          refine x_top ex_7 ?_
          refine lv_istore_n (lv' := [(2, .int x_7), (6, .ref (b + (6 + 2 * i_5))), (1, .int p1), (3, .ref (b + 5)), (4, .int 12), (5, .int x_2)]) hx hb dX0_hiresOf_43 rfl hl (by decide) rfl (fun ls hl => ?_)
          obtain ⟨x_8, ex_8, hf⟩ := xl_some hf
          refine lv_iinc (v := x_8) (lv' := [(5, .int x_8), (2, .int x_7), (6, .ref (b + (6 + 2 * i_5))), (1, .int p1), (3, .ref (b + 5)), (4, .int 12)]) hx hb dX0_hiresOf_44 hl (k := 5) rfl (by rw [ex_8]; rfl) (by decide) rfl (fun ls hl => ?_)
          refine lv_goto (tgt := 14) hx hb dX0_hiresOf_47 (by decide) ?_
          exact ih_14 x_7 x_8 _ _ hL (lv_sub hl [3, 1, 4, 5, 0] rfl) hf
        · have hf := (if_pos c_6).symm.trans hf
          refine lv_iconst (v := 1) hx hb dX0_hiresOf_37 (by decide) ?_
          refine lv_goto (tgt := 42) hx hb dX0_hiresOf_38 (by decide) ?_
          refine lv_iadd hx hb dX0_hiresOf_42 ?_
          obtain ⟨x_9, ex_9, hf⟩ := xl_some hf
          refine x_top ex_9 ?_
          refine lv_istore_n (lv' := [(2, .int x_9), (6, .ref (b + (6 + 2 * i_5))), (1, .int p1), (3, .ref (b + 5)), (4, .int 12), (5, .int x_2)]) hx hb dX0_hiresOf_43 rfl hl (by decide) rfl (fun ls hl => ?_)
          obtain ⟨x_10, ex_10, hf⟩ := xl_some hf
          refine lv_iinc (v := x_10) (lv' := [(5, .int x_10), (2, .int x_9), (6, .ref (b + (6 + 2 * i_5))), (1, .int p1), (3, .ref (b + 5)), (4, .int 12)]) hx hb dX0_hiresOf_44 hl (k := 5) rfl (by rw [ex_10]; rfl) (by decide) rfl (fun ls hl => ?_)
          refine lv_goto (tgt := 14) hx hb dX0_hiresOf_47 (by decide) ?_
          exact ih_14 x_9 x_10 _ _ hL (lv_sub hl [3, 1, 4, 5, 0] rfl) hf
  refine lp_14 _ (fun x_11 x_12 locs ls hL hl hf => ?_) 100000 0 0 _ _ hL (lv_sub hl [5, 3, 2, 1, 0] rfl) hf
  refine lv_iload_n hx hb dX0_hiresOf_50 rfl (lv_at hl 0 rfl) ?_
  have q0 := Option.some.inj hf
  subst r0
  subst hQ
  refine x_iret (post := (fun H H1 => H1 = H)) S hr hlocks rfl ?_ hL dX0_hiresOf_51
  exact rfl
set_option maxRecDepth 100000 in
set_option maxHeartbeats 4000000 in
theorem c_X0_isFull (l : Launch) (G : xG) (z : Nat) (b : Nat) (v : xV) (r0 : Int32)  (hf : f_X0_isFull v = some r0) : xM l yX0_isFull wsX0_isFull 0 0 G z [.ref b] (fun H => PX G b 37 (bkE G b) v H) (some (.int r0)) (fun H H1 => H1 = H) := by
  refine xM.of (cc := cX0_isFull) (maxL := 1) (ret := (some .boolean)) (by decide +kernel) rfl (Nat.le_of_ble_eq_true rfl) ?_
  intro p e s m args below meth c ls Q hQ S hr hlocks hK hP hl
  obtain ⟨hx, hb, hml, hown, hts⟩ := id S
  have h_bk := hP
  have hL : ∀ q ∈ ([] : List Loc), z ≤ q.base := fun q h => absurd h List.not_mem_nil
  have hl : lv_has ls 1 [(0, .ref b)] := hl
  have in0 : ∀ w ∈ u_ws RX0 TX0 9, w ∈ wsX0_isFull := fun _ h => List.mem_cons_of_mem _ (List.mem_append_right _ h)
  unfold f_X0_isFull at hf
  refine lv_aload_n hx hb dX0_isFull_0 rfl (lv_at hl 0 rfl) ?_
  refine x_get S hK h_bk 0 (by decide) rfl rfl rfl in0 2 (by decide) (xm 1 rfl) (x := .int (v 0 2)) rfl dX0_isFull_1 ?_
  refine lv_bipush (v := 12) hx hb dX0_isFull_4 (by decide) ?_
  refine lv_icmp_lt (tgt := 13) hx hb dX0_isFull_6 (by decide) (fun c_1 => ?_) (fun c_1 => ?_)
  · have hf := (if_pos c_1).symm.trans hf
    refine lv_iconst (v := 0) hx hb dX0_isFull_13 (by decide) ?_
    have q0 := Option.some.inj hf
    subst r0
    subst hQ
    refine x_zret (post := (fun H H1 => H1 = H)) S hr hlocks (by decide) rfl ?_ hL dX0_isFull_14
    exact rfl
  · have hf := (if_neg c_1).symm.trans hf
    refine lv_iconst (v := 1) hx hb dX0_isFull_9 (by decide) ?_
    refine lv_goto (tgt := 14) hx hb dX0_isFull_10 (by decide) ?_
    have q0 := Option.some.inj hf
    subst r0
    subst hQ
    refine x_zret (post := (fun H H1 => H1 = H)) S hr hlocks (by decide) rfl ?_ hL dX0_isFull_14
    exact rfl
set_option maxRecDepth 100000 in
set_option maxHeartbeats 4000000 in
theorem c_X0_keyAt (l : Launch) (G : xG) (z : Nat) (b : Nat) (v : xV) (p1 : Int32) (r0 : Option Nat)  (hf : f_X0_keyAt v p1 = some r0) : xM l yX0_keyAt wsX0_keyAt 0 0 G z [.ref b, .int p1] (fun H => PX G b 37 (bkE G b) v H) (some (va_rf (Option.map (fun i => b + (31 + i)) r0))) (fun H H1 => H1 = H) := by
  refine xM.of (cc := cX0_keyAt) (maxL := 2) (ret := (some (.object "VillageHall$Key"))) (by decide +kernel) rfl (Nat.le_of_ble_eq_true rfl) ?_
  intro p e s m args below meth c ls Q hQ S hr hlocks hK hP hl
  obtain ⟨hx, hb, hml, hown, hts⟩ := id S
  have h_bk := hP
  have hL : ∀ q ∈ ([] : List Loc), z ≤ q.base := fun q h => absurd h List.not_mem_nil
  have hl : lv_has ls 2 [(0, .ref b), (1, .int p1)] := hl
  have in0 : ∀ w ∈ u_ws RX0 TX0 9, w ∈ wsX0_keyAt := fun _ h => List.mem_cons_of_mem _ (List.mem_append_right _ h)
  unfold f_X0_keyAt at hf
  refine lv_iload_n hx hb dX0_keyAt_0 rfl (lv_at hl 1 rfl) ?_
  refine lv_if_lt (tgt := 22) hx hb dX0_keyAt_1 (by decide) (fun c_1 => ?_) (fun c_1 => ?_)
  · have hf := (if_pos c_1).symm.trans hf
    refine lv_null hx hb dX0_keyAt_22 ?_
    have q0 := Option.some.inj hf
    subst r0
    subst hQ
    refine x_aret (post := (fun H H1 => H1 = H)) S hr hlocks (Or.inl rfl) rfl ?_ hL dX0_keyAt_23
    exact rfl
  · have hf := (if_neg c_1).symm.trans hf
    refine lv_iload_n hx hb dX0_keyAt_4 rfl (lv_at hl 1 rfl) ?_
    refine lv_aload_n hx hb dX0_keyAt_5 rfl (lv_at hl 0 rfl) ?_
    refine x_get S hK h_bk 0 (by decide) rfl rfl rfl in0 8 (by decide) (xm 1 rfl) (x := .ref (b + 30)) rfl dX0_keyAt_6 ?_
    refine x_alen S hK h_bk 30 (by decide) rfl rfl 3 rfl (r := 6) rfl dX0_keyAt_9 ?_
    refine lv_icmp_ge (tgt := 22) hx hb dX0_keyAt_10 (by decide) (fun c_2 => ?_) (fun c_2 => ?_)
    · have hf := (if_pos c_2).symm.trans hf
      refine lv_null hx hb dX0_keyAt_22 ?_
      have q0 := Option.some.inj hf
      subst r0
      subst hQ
      refine x_aret (post := (fun H H1 => H1 = H)) S hr hlocks (Or.inl rfl) rfl ?_ hL dX0_keyAt_23
      exact rfl
    · have hf := (if_neg c_2).symm.trans hf
      refine lv_aload_n hx hb dX0_keyAt_13 rfl (lv_at hl 0 rfl) ?_
      refine x_get S hK h_bk 0 (by decide) rfl rfl rfl in0 8 (by decide) (xm 1 rfl) (x := .ref (b + 30)) rfl dX0_keyAt_14 ?_
      refine lv_iload_n hx hb dX0_keyAt_17 rfl (lv_at hl 1 rfl) ?_
      obtain ⟨g_3, hf⟩ := xg_some hf
      obtain ⟨i_4, ei_4, hf⟩ := xl_some hf
      have hi_i_4 : i_4 < 6 := by rw [ei_4]; exact xin_lt g_3
      refine x_aald S hK h_bk 30 (by decide) rfl rfl 3 rfl i_4 ei_4.symm g_3 (r := (b + (31 + i_4))) rfl dX0_keyAt_18 ?_
      refine lv_goto (tgt := 23) hx hb dX0_keyAt_19 (by decide) ?_
      have q0 := Option.some.inj hf
      subst r0
      subst hQ
      refine x_aret (post := (fun H H1 => H1 = H)) S hr hlocks (Or.inr ⟨_, rfl⟩) rfl ?_ hL dX0_keyAt_23
      exact rfl
set_option maxRecDepth 100000 in
set_option maxHeartbeats 4000000 in
theorem c_X0_keysFor (l : Launch) (G : xG) (z : Nat) (b : Nat) (v : xV) (p1 : Int32) (r0 : Int32)  (hf : f_X0_keysFor v p1 = some r0) : xM l yX0_keysFor wsX0_keysFor 0 0 G z [.ref b, .int p1] (fun H => PX G b 37 (bkE G b) v H) (some (.int r0)) (fun H H1 => H1 = H) := by
  refine xM.of (cc := cX0_keysFor) (maxL := 7) (ret := (some .int)) (by decide +kernel) rfl (Nat.le_of_ble_eq_true rfl) ?_
  intro p e s m args below meth c ls Q hQ S hr hlocks hK hP hl
  obtain ⟨hx, hb, hml, hown, hts⟩ := id S
  have h_bk := hP
  have hL : ∀ q ∈ ([] : List Loc), z ≤ q.base := fun q h => absurd h List.not_mem_nil
  have hl : lv_has ls 7 [(0, .ref b), (1, .int p1)] := hl
  have in0 : ∀ w ∈ u_ws RX0 TX0 9, w ∈ wsX0_keysFor := fun _ h => List.mem_cons_of_mem _ (List.mem_append_left _ (List.mem_append_right _ h))
  have in3 : ∀ w ∈ u_ws RX3 TX3 3, w ∈ wsX0_keysFor := fun _ h => List.mem_cons_of_mem _ (List.mem_append_right _ h)
  unfold f_X0_keysFor at hf
  refine lv_iconst (v := 0) hx hb dX0_keysFor_0 (by decide) ?_
  refine lv_istore_n (lv' := [(2, .int 0), (0, .ref b), (1, .int p1)]) hx hb dX0_keysFor_1 rfl hl (by decide) rfl (fun ls hl => ?_)
  refine lv_aload_n hx hb dX0_keysFor_2 rfl (lv_at hl 1 rfl) ?_
  refine x_get S hK h_bk 0 (by decide) rfl rfl rfl in0 8 (by decide) (xm 1 rfl) (x := .ref (b + 30)) rfl dX0_keysFor_3 ?_
  refine lv_astore_n (lv' := [(3, .ref (b + 30)), (2, .int 0), (0, .ref b), (1, .int p1)]) hx hb dX0_keysFor_6 rfl hl (by decide) rfl (fun ls hl => ?_)
  refine lv_aload_n hx hb dX0_keysFor_7 rfl (lv_at hl 0 rfl) ?_
  refine x_alen S hK h_bk 30 (by decide) rfl rfl 3 rfl (r := 6) rfl dX0_keysFor_8 ?_
  refine lv_istore (lv' := [(4, .int 6), (3, .ref (b + 30)), (2, .int 0), (0, .ref b), (1, .int p1)]) hx hb dX0_keysFor_9 hl (by decide) rfl (fun ls hl => ?_)
  refine lv_iconst (v := 0) hx hb dX0_keysFor_11 (by decide) ?_
  refine lv_istore (lv' := [(5, .int 0), (4, .int 6), (3, .ref (b + 30)), (2, .int 0), (0, .ref b), (1, .int p1)]) hx hb dX0_keysFor_12 hl (by decide) rfl (fun ls hl => ?_)
  have lp_14 : ∀ (K_14 : Int32 → Int32 → Option Int32), (∀ (x_1 : Int32) (x_2 : Int32) (locs : List Loc) (ls : Array Slot), (∀ q ∈ locs, z ≤ q.base) → lv_has ls 7 [(2, .int x_1)] → K_14 x_1 x_2 = some r0 → W p l e { frames := 0, cells := 0, slots := 0, locals := 0 } s m args below meth c s.heap locs 0 0 Q (F0 m 50 ls [])) → ∀ (n : Nat) (x_1 : Int32) (x_2 : Int32) (locs : List Loc) (ls : Array Slot), (∀ q ∈ locs, z ≤ q.base) → lv_has ls 7 [(1, .int p1), (2, .int x_1), (3, .ref (b + 30)), (4, .int 6), (5, .int x_2)] → L_X0_keysFor_14 K_14 v p1 n x_1 x_2 = some r0 → W p l e { frames := 0, cells := 0, slots := 0, locals := 0 } s m args below meth c s.heap locs 0 0 Q (F0 m 14 ls []) := by
    intro K_14 hK_14 n
    induction n with
    | zero =>
      intro x_1 x_2 locs ls hL hl hf
      cases hf
    | succ n ih_14 =>
      intro x_1 x_2 locs ls hL hl hf
      unfold L_X0_keysFor_14 at hf
      refine lv_iload hx hb dX0_keysFor_14 (lv_at hl 4 rfl) ?_
      refine lv_iload hx hb dX0_keysFor_16 (lv_at hl 3 rfl) ?_
      refine lv_icmp_ge (tgt := 50) hx hb dX0_keysFor_18 (by decide) (fun c_3 => ?_) (fun c_3 => ?_)
      · have hf := (if_pos c_3).symm.trans hf
        exact hK_14 x_1 x_2 _ _ hL (lv_sub hl [1] rfl) hf
      · have hf := (if_neg c_3).symm.trans hf
        refine lv_aload_n hx hb dX0_keysFor_21 rfl (lv_at hl 2 rfl) ?_
        refine lv_iload hx hb dX0_keysFor_22 (lv_at hl 4 rfl) ?_
        obtain ⟨g_4, hf⟩ := xg_some hf
        obtain ⟨i_5, ei_5, hf⟩ := xl_some hf
        have hi_i_5 : i_5 < 6 := by rw [ei_5]; exact xin_lt g_4
        refine x_aald S hK h_bk 30 (by decide) rfl rfl 3 rfl i_5 ei_5.symm g_4 (r := (b + (31 + i_5))) rfl dX0_keysFor_24 ?_
        refine lv_astore (lv' := [(6, .ref (b + (31 + i_5))), (1, .int p1), (2, .int x_1), (3, .ref (b + 30)), (4, .int 6), (5, .int x_2)]) hx hb dX0_keysFor_25 hl (by decide) rfl (fun ls hl => ?_)
        refine lv_iload_n hx hb dX0_keysFor_27 rfl (lv_at hl 2 rfl) ?_
        refine lv_aload hx hb dX0_keysFor_28 (lv_at hl 0 rfl) ?_
        refine x_get S hK h_bk (31 + i_5) (by omega) rfl (bkE_key G b i_5 _) rfl in3 1 (by decide) (xm 2 rfl) (x := .int (v (31 + i_5) 1)) rfl dX0_keysFor_30 ?_
        refine lv_iload_n hx hb dX0_keysFor_33 rfl (lv_at hl 1 rfl) ?_
        refine lv_icmp_ne (tgt := 41) hx hb dX0_keysFor_34 (by decide) (fun c_6 => ?_) (fun c_6 => ?_)
        · have hf := (if_neg c_6).symm.trans hf
          refine lv_iconst (v := 0) hx hb dX0_keysFor_41 (by decide) ?_
          refine lv_iadd hx hb dX0_keysFor_42 ?_
          obtain ⟨x_7, ex_7, hf⟩ := xl_some hf
          refine x_top ex_7 ?_
          refine lv_istore_n (lv' := [(2, .int x_7), (6, .ref (b + (31 + i_5))), (1, .int p1), (3, .ref (b + 30)), (4, .int 6), (5, .int x_2)]) hx hb dX0_keysFor_43 rfl hl (by decide) rfl (fun ls hl => ?_)
          obtain ⟨x_8, ex_8, hf⟩ := xl_some hf
          refine lv_iinc (v := x_8) (lv' := [(5, .int x_8), (2, .int x_7), (6, .ref (b + (31 + i_5))), (1, .int p1), (3, .ref (b + 30)), (4, .int 6)]) hx hb dX0_keysFor_44 hl (k := 5) rfl (by rw [ex_8]; rfl) (by decide) rfl (fun ls hl => ?_)
          refine lv_goto (tgt := 14) hx hb dX0_keysFor_47 (by decide) ?_
          exact ih_14 x_7 x_8 _ _ hL (lv_sub hl [3, 1, 4, 5, 0] rfl) hf
        · have hf := (if_pos c_6).symm.trans hf
          refine lv_iconst (v := 1) hx hb dX0_keysFor_37 (by decide) ?_
          refine lv_goto (tgt := 42) hx hb dX0_keysFor_38 (by decide) ?_
          refine lv_iadd hx hb dX0_keysFor_42 ?_
          obtain ⟨x_9, ex_9, hf⟩ := xl_some hf
          refine x_top ex_9 ?_
          refine lv_istore_n (lv' := [(2, .int x_9), (6, .ref (b + (31 + i_5))), (1, .int p1), (3, .ref (b + 30)), (4, .int 6), (5, .int x_2)]) hx hb dX0_keysFor_43 rfl hl (by decide) rfl (fun ls hl => ?_)
          obtain ⟨x_10, ex_10, hf⟩ := xl_some hf
          refine lv_iinc (v := x_10) (lv' := [(5, .int x_10), (2, .int x_9), (6, .ref (b + (31 + i_5))), (1, .int p1), (3, .ref (b + 30)), (4, .int 6)]) hx hb dX0_keysFor_44 hl (k := 5) rfl (by rw [ex_10]; rfl) (by decide) rfl (fun ls hl => ?_)
          refine lv_goto (tgt := 14) hx hb dX0_keysFor_47 (by decide) ?_
          exact ih_14 x_9 x_10 _ _ hL (lv_sub hl [3, 1, 4, 5, 0] rfl) hf
  refine lp_14 _ (fun x_11 x_12 locs ls hL hl hf => ?_) 100000 0 0 _ _ hL (lv_sub hl [5, 3, 2, 1, 0] rfl) hf
  refine lv_iload_n hx hb dX0_keysFor_50 rfl (lv_at hl 0 rfl) ?_
  have q0 := Option.some.inj hf
  subst r0
  subst hQ
  refine x_iret (post := (fun H H1 => H1 = H)) S hr hlocks rfl ?_ hL dX0_keysFor_51
  exact rfl
set_option maxRecDepth 100000 in
set_option maxHeartbeats 4000000 in
theorem c_X0_keysOf (l : Launch) (G : xG) (z : Nat) (b : Nat) (v : xV) (p1 : Int32) (r0 : Int32)  (hf : f_X0_keysOf v p1 = some r0) : xM l yX0_keysOf wsX0_keysOf 1 26 G z [.ref b, .int p1] (fun H => PX G b 37 (bkE G b) v H) (some (.int r0)) (fun H H1 => H1 = H) := by
  refine xM.of (cc := cX0_keysOf) (maxL := 7) (ret := (some .int)) (by decide +kernel) rfl (Nat.le_of_ble_eq_true rfl) ?_
  intro p e s m args below meth c ls Q hQ S hr hlocks hK hP hl
  obtain ⟨hx, hb, hml, hown, hts⟩ := id S
  have h_bk := hP
  have hL : ∀ q ∈ ([] : List Loc), z ≤ q.base := fun q h => absurd h List.not_mem_nil
  have hl : lv_has ls 7 [(0, .ref b), (1, .int p1)] := hl
  have in0 : ∀ w ∈ u_ws RX0 TX0 9, w ∈ wsX0_keysOf := fun _ h => List.mem_cons_of_mem _ (List.mem_append_left _ (List.mem_append_left _ (List.mem_append_right _ h)))
  have in1 : ∀ w ∈ u_ws RX1 TX1 15, w ∈ wsX0_keysOf := fun _ h => List.mem_cons_of_mem _ (List.mem_append_left _ (List.mem_append_right _ h))
  unfold f_X0_keysOf at hf
  refine lv_iconst (v := 0) hx hb dX0_keysOf_0 (by decide) ?_
  refine lv_istore_n (lv' := [(2, .int 0), (0, .ref b), (1, .int p1)]) hx hb dX0_keysOf_1 rfl hl (by decide) rfl (fun ls hl => ?_)
  refine lv_aload_n hx hb dX0_keysOf_2 rfl (lv_at hl 1 rfl) ?_
  refine x_get S hK h_bk 0 (by decide) rfl rfl rfl in0 7 (by decide) (xm 1 rfl) (x := .ref (b + 5)) rfl dX0_keysOf_3 ?_
  refine lv_astore_n (lv' := [(3, .ref (b + 5)), (2, .int 0), (0, .ref b), (1, .int p1)]) hx hb dX0_keysOf_6 rfl hl (by decide) rfl (fun ls hl => ?_)
  refine lv_aload_n hx hb dX0_keysOf_7 rfl (lv_at hl 0 rfl) ?_
  refine x_alen S hK h_bk 5 (by decide) rfl rfl 2 rfl (r := 12) rfl dX0_keysOf_8 ?_
  refine lv_istore (lv' := [(4, .int 12), (3, .ref (b + 5)), (2, .int 0), (0, .ref b), (1, .int p1)]) hx hb dX0_keysOf_9 hl (by decide) rfl (fun ls hl => ?_)
  refine lv_iconst (v := 0) hx hb dX0_keysOf_11 (by decide) ?_
  refine lv_istore (lv' := [(5, .int 0), (4, .int 12), (3, .ref (b + 5)), (2, .int 0), (0, .ref b), (1, .int p1)]) hx hb dX0_keysOf_12 hl (by decide) rfl (fun ls hl => ?_)
  have lp_14 : ∀ (K_14 : Int32 → Int32 → Option Int32), (∀ (x_1 : Int32) (x_2 : Int32) (locs : List Loc) (ls : Array Slot), (∀ q ∈ locs, z ≤ q.base) → lv_has ls 7 [(2, .int x_1)] → K_14 x_1 x_2 = some r0 → W p l e { frames := 1, cells := 0, slots := 0, locals := 26 } s m args below meth c s.heap locs 0 0 Q (F0 m 58 ls [])) → ∀ (n : Nat) (x_1 : Int32) (x_2 : Int32) (locs : List Loc) (ls : Array Slot), (∀ q ∈ locs, z ≤ q.base) → lv_has ls 7 [(0, .ref b), (1, .int p1), (2, .int x_1), (3, .ref (b + 5)), (4, .int 12), (5, .int x_2)] → L_X0_keysOf_14 K_14 v p1 n x_1 x_2 = some r0 → W p l e { frames := 1, cells := 0, slots := 0, locals := 26 } s m args below meth c s.heap locs 0 0 Q (F0 m 14 ls []) := by
    intro K_14 hK_14 n
    induction n with
    | zero =>
      intro x_1 x_2 locs ls hL hl hf
      cases hf
    | succ n ih_14 =>
      intro x_1 x_2 locs ls hL hl hf
      unfold L_X0_keysOf_14 at hf
      refine lv_iload hx hb dX0_keysOf_14 (lv_at hl 5 rfl) ?_
      refine lv_iload hx hb dX0_keysOf_16 (lv_at hl 4 rfl) ?_
      refine lv_icmp_ge (tgt := 58) hx hb dX0_keysOf_18 (by decide) (fun c_3 => ?_) (fun c_3 => ?_)
      · have hf := (if_pos c_3).symm.trans hf
        exact hK_14 x_1 x_2 _ _ hL (lv_sub hl [2] rfl) hf
      · have hf := (if_neg c_3).symm.trans hf
        refine lv_aload_n hx hb dX0_keysOf_21 rfl (lv_at hl 3 rfl) ?_
        refine lv_iload hx hb dX0_keysOf_22 (lv_at hl 5 rfl) ?_
        obtain ⟨g_4, hf⟩ := xg_some hf
        obtain ⟨i_5, ei_5, hf⟩ := xl_some hf
        have hi_i_5 : i_5 < 12 := by rw [ei_5]; exact xin_lt g_4
        refine x_aald S hK h_bk 5 (by decide) rfl rfl 2 rfl i_5 ei_5.symm g_4 (r := (b + (6 + 2 * i_5))) rfl dX0_keysOf_24 ?_
        refine lv_astore (lv' := [(6, .ref (b + (6 + 2 * i_5))), (0, .ref b), (1, .int p1), (2, .int x_1), (3, .ref (b + 5)), (4, .int 12), (5, .int x_2)]) hx hb dX0_keysOf_25 hl (by decide) rfl (fun ls hl => ?_)
        refine lv_iload_n hx hb dX0_keysOf_27 rfl (lv_at hl 3 rfl) ?_
        refine lv_aload hx hb dX0_keysOf_28 (lv_at hl 0 rfl) ?_
        refine x_get S hK h_bk (6 + 2 * i_5) (by omega) rfl (bkE_hire G b i_5 hi_i_5 _) rfl in1 1 (by decide) (xm 2 rfl) (x := .int (v (6 + 2 * i_5) 1)) rfl dX0_keysOf_30 ?_
        refine lv_iload_n hx hb dX0_keysOf_33 rfl (lv_at hl 2 rfl) ?_
        refine lv_icmp_ne (tgt := 49) hx hb dX0_keysOf_34 (by decide) (fun c_6 => ?_) (fun c_6 => ?_)
        · have hf := (if_neg c_6).symm.trans hf
          refine lv_iconst (v := 0) hx hb dX0_keysOf_49 (by decide) ?_
          refine lv_iadd hx hb dX0_keysOf_50 ?_
          obtain ⟨x_7, ex_7, hf⟩ := xl_some hf
          refine x_top ex_7 ?_
          refine lv_istore_n (lv' := [(2, .int x_7), (6, .ref (b + (6 + 2 * i_5))), (0, .ref b), (1, .int p1), (3, .ref (b + 5)), (4, .int 12), (5, .int x_2)]) hx hb dX0_keysOf_51 rfl hl (by decide) rfl (fun ls hl => ?_)
          obtain ⟨x_8, ex_8, hf⟩ := xl_some hf
          refine lv_iinc (v := x_8) (lv' := [(5, .int x_8), (2, .int x_7), (6, .ref (b + (6 + 2 * i_5))), (0, .ref b), (1, .int p1), (3, .ref (b + 5)), (4, .int 12)]) hx hb dX0_keysOf_52 hl (k := 6) rfl (by rw [ex_8]; rfl) (by decide) rfl (fun ls hl => ?_)
          refine lv_goto (tgt := 14) hx hb dX0_keysOf_55 (by decide) ?_
          exact ih_14 x_7 x_8 _ _ hL (lv_sub hl [3, 4, 1, 5, 6, 0] rfl) hf
        · have hf := (if_pos c_6).symm.trans hf
          refine lv_aload_n hx hb dX0_keysOf_37 rfl (lv_at hl 1 rfl) ?_
          refine lv_aload hx hb dX0_keysOf_38 (lv_at hl 0 rfl) ?_
          refine x_get S hK h_bk (6 + 2 * i_5) (by omega) rfl (bkE_hire G b i_5 hi_i_5 _) rfl in1 0 (by decide) (xm 3 rfl) (x := .int (v (6 + 2 * i_5) 0)) rfl dX0_keysOf_40 ?_
          obtain ⟨r_9, e_10, hf⟩ := xb_some hf
          refine x_callVi (As := [.int (v (6 + 2 * i_5) 0)]) (rest := [.int x_1]) S hK (c_X0_keysFor l G z b v (v (6 + 2 * i_5) 0) r_9 e_10) gX0_keysOf_X0_keysFor rfl 1 (by decide +kernel) rfl ⟨Nat.le_of_ble_eq_true rfl, Nat.le_of_ble_eq_true rfl⟩ h_bk 0 (by decide) rfl rfl rfl h_bk hl.1 rfl (Nat.le_of_ble_eq_true rfl) dX0_keysOf_43 hL ⟨Nat.zero_le _, Nat.zero_le _⟩ (fun H1 locs hL hpost => ?_)
          subst hpost
          refine lv_goto (tgt := 50) hx hb dX0_keysOf_46 (by decide) ?_
          refine lv_iadd hx hb dX0_keysOf_50 ?_
          obtain ⟨x_11, ex_11, hf⟩ := xl_some hf
          refine x_top ex_11 ?_
          refine lv_istore_n (lv' := [(2, .int x_11), (6, .ref (b + (6 + 2 * i_5))), (0, .ref b), (1, .int p1), (3, .ref (b + 5)), (4, .int 12), (5, .int x_2)]) hx hb dX0_keysOf_51 rfl hl (by decide) rfl (fun ls hl => ?_)
          obtain ⟨x_12, ex_12, hf⟩ := xl_some hf
          refine lv_iinc (v := x_12) (lv' := [(5, .int x_12), (2, .int x_11), (6, .ref (b + (6 + 2 * i_5))), (0, .ref b), (1, .int p1), (3, .ref (b + 5)), (4, .int 12)]) hx hb dX0_keysOf_52 hl (k := 6) rfl (by rw [ex_12]; rfl) (by decide) rfl (fun ls hl => ?_)
          refine lv_goto (tgt := 14) hx hb dX0_keysOf_55 (by decide) ?_
          exact ih_14 x_11 x_12 _ _ hL (lv_sub hl [3, 4, 1, 5, 6, 0] rfl) hf
  refine lp_14 _ (fun x_13 x_14 locs ls hL hl hf => ?_) 100000 0 0 _ _ hL (lv_sub hl [4, 5, 3, 2, 1, 0] rfl) hf
  refine lv_iload_n hx hb dX0_keysOf_58 rfl (lv_at hl 0 rfl) ?_
  have q0 := Option.some.inj hf
  subst r0
  subst hQ
  refine x_iret (post := (fun H H1 => H1 = H)) S hr hlocks rfl ?_ hL dX0_keysOf_59
  exact rfl
set_option maxRecDepth 100000 in
set_option maxHeartbeats 4000000 in
theorem c_X3_daysLate (l : Launch) (G : xG) (z : Nat) (b : Nat) (v : xV) (i : Nat) (p1 : Int32) (r0 : Int32) (hi_i : i < 6) (hf : f_X3_daysLate v i p1 = some r0) : xM l yX3_daysLate wsX3_daysLate 1 40 G z [.ref (b + (31 + i)), .int p1] (fun H => PX G b 37 (bkE G b) v H) (some (.int r0)) (fun H H1 => H1 = H) := by
  refine xM.of (cc := cX3_daysLate) (maxL := 2) (ret := (some .int)) (by decide +kernel) rfl (Nat.le_of_ble_eq_true rfl) ?_
  intro p e s m args below meth c ls Q hQ S hr hlocks hK hP hl
  obtain ⟨hx, hb, hml, hown, hts⟩ := id S
  have h_bk := hP
  have hL : ∀ q ∈ ([] : List Loc), z ≤ q.base := fun q h => absurd h List.not_mem_nil
  have hl : lv_has ls 2 [(0, .ref (b + (31 + i))), (1, .int p1)] := hl
  have in3 : ∀ w ∈ u_ws RX3 TX3 3, w ∈ wsX3_daysLate := fun _ h => List.mem_cons_of_mem _ (List.mem_append_right _ h)
  unfold f_X3_daysLate at hf
  refine lv_aload_n hx hb dX3_daysLate_0 rfl (lv_at hl 0 rfl) ?_
  refine x_get S hK h_bk (31 + i) (by omega) rfl (bkE_key G b i _) rfl in3 1 (by decide) (xm 1 rfl) (x := .int (v (31 + i) 1)) rfl dX3_daysLate_1 ?_
  refine lv_iconst (v := (-1)) hx hb dX3_daysLate_4 (by decide) ?_
  refine lv_icmp_ne (tgt := 12) hx hb dX3_daysLate_5 (by decide) (fun c_1 => ?_) (fun c_1 => ?_)
  · have hf := (if_neg c_1).symm.trans hf
    refine lv_iconst (v := 0) hx hb dX3_daysLate_12 (by decide) ?_
    refine lv_iload_n hx hb dX3_daysLate_13 rfl (lv_at hl 1 rfl) ?_
    refine lv_aload_n hx hb dX3_daysLate_14 rfl (lv_at hl 0 rfl) ?_
    refine x_get S hK h_bk (31 + i) (by omega) rfl (bkE_key G b i _) rfl in3 2 (by decide) (xm 2 rfl) (x := .int (v (31 + i) 2)) rfl dX3_daysLate_15 ?_
    refine lv_isub hx hb dX3_daysLate_18 ?_
    refine x_max S (xm 3 rfl) (xm 4 rfl) (xm 5 rfl) (xm 6 rfl) hl.1 (Nat.le_of_ble_eq_true rfl) (Nat.le_of_ble_eq_true rfl) (Nat.zero_le _) (Nat.zero_le _) dX3_daysLate_19 ?_
    have q0 := Option.some.inj hf
    subst r0
    subst hQ
    refine x_iret (post := (fun H H1 => H1 = H)) S hr hlocks rfl ?_ hL dX3_daysLate_22
    exact rfl
  · have hf := (if_pos c_1).symm.trans hf
    refine lv_iconst (v := 0) hx hb dX3_daysLate_8 (by decide) ?_
    refine lv_goto (tgt := 22) hx hb dX3_daysLate_9 (by decide) ?_
    have q0 := Option.some.inj hf
    subst r0
    subst hQ
    refine x_iret (post := (fun H H1 => H1 = H)) S hr hlocks rfl ?_ hL dX3_daysLate_22
    exact rfl
set_option maxRecDepth 100000 in
set_option maxHeartbeats 4000000 in
theorem c_X0_lateKeys (l : Launch) (G : xG) (z : Nat) (b : Nat) (v : xV) (r0 : Int32)  (hf : f_X0_lateKeys v = some r0) : xM l yX0_lateKeys wsX0_lateKeys 2 61 G z [.ref b] (fun H => PX G b 37 (bkE G b) v H) (some (.int r0)) (fun H H1 => H1 = H) := by
  refine xM.of (cc := cX0_lateKeys) (maxL := 6) (ret := (some .int)) (by decide +kernel) rfl (Nat.le_of_ble_eq_true rfl) ?_
  intro p e s m args below meth c ls Q hQ S hr hlocks hK hP hl
  obtain ⟨hx, hb, hml, hown, hts⟩ := id S
  have h_bk := hP
  have hL : ∀ q ∈ ([] : List Loc), z ≤ q.base := fun q h => absurd h List.not_mem_nil
  have hl : lv_has ls 6 [(0, .ref b)] := hl
  have in0 : ∀ w ∈ u_ws RX0 TX0 9, w ∈ wsX0_lateKeys := fun _ h => List.mem_cons_of_mem _ (List.mem_append_left _ (List.mem_append_right _ h))
  unfold f_X0_lateKeys at hf
  refine lv_iconst (v := 0) hx hb dX0_lateKeys_0 (by decide) ?_
  refine lv_istore_n (lv' := [(1, .int 0), (0, .ref b)]) hx hb dX0_lateKeys_1 rfl hl (by decide) rfl (fun ls hl => ?_)
  refine lv_aload_n hx hb dX0_lateKeys_2 rfl (lv_at hl 1 rfl) ?_
  refine x_get S hK h_bk 0 (by decide) rfl rfl rfl in0 8 (by decide) (xm 1 rfl) (x := .ref (b + 30)) rfl dX0_lateKeys_3 ?_
  refine lv_astore_n (lv' := [(2, .ref (b + 30)), (1, .int 0), (0, .ref b)]) hx hb dX0_lateKeys_6 rfl hl (by decide) rfl (fun ls hl => ?_)
  refine lv_aload_n hx hb dX0_lateKeys_7 rfl (lv_at hl 0 rfl) ?_
  refine x_alen S hK h_bk 30 (by decide) rfl rfl 3 rfl (r := 6) rfl dX0_lateKeys_8 ?_
  refine lv_istore_n (lv' := [(3, .int 6), (2, .ref (b + 30)), (1, .int 0), (0, .ref b)]) hx hb dX0_lateKeys_9 rfl hl (by decide) rfl (fun ls hl => ?_)
  refine lv_iconst (v := 0) hx hb dX0_lateKeys_10 (by decide) ?_
  refine lv_istore (lv' := [(4, .int 0), (3, .int 6), (2, .ref (b + 30)), (1, .int 0), (0, .ref b)]) hx hb dX0_lateKeys_11 hl (by decide) rfl (fun ls hl => ?_)
  have lp_13 : ∀ (K_13 : Int32 → Int32 → Option Int32), (∀ (x_1 : Int32) (x_2 : Int32) (locs : List Loc) (ls : Array Slot), (∀ q ∈ locs, z ≤ q.base) → lv_has ls 6 [(1, .int x_1)] → K_13 x_1 x_2 = some r0 → W p l e { frames := 2, cells := 0, slots := 0, locals := 61 } s m args below meth c s.heap locs 0 0 Q (F0 m 51 ls [])) → ∀ (n : Nat) (x_1 : Int32) (x_2 : Int32) (locs : List Loc) (ls : Array Slot), (∀ q ∈ locs, z ≤ q.base) → lv_has ls 6 [(0, .ref b), (1, .int x_1), (2, .ref (b + 30)), (3, .int 6), (4, .int x_2)] → L_X0_lateKeys_13 K_13 v n x_1 x_2 = some r0 → W p l e { frames := 2, cells := 0, slots := 0, locals := 61 } s m args below meth c s.heap locs 0 0 Q (F0 m 13 ls []) := by
    intro K_13 hK_13 n
    induction n with
    | zero =>
      intro x_1 x_2 locs ls hL hl hf
      cases hf
    | succ n ih_13 =>
      intro x_1 x_2 locs ls hL hl hf
      unfold L_X0_lateKeys_13 at hf
      refine lv_iload hx hb dX0_lateKeys_13 (lv_at hl 4 rfl) ?_
      refine lv_iload_n hx hb dX0_lateKeys_15 rfl (lv_at hl 3 rfl) ?_
      refine lv_icmp_ge (tgt := 51) hx hb dX0_lateKeys_16 (by decide) (fun c_3 => ?_) (fun c_3 => ?_)
      · have hf := (if_pos c_3).symm.trans hf
        exact hK_13 x_1 x_2 _ _ hL (lv_sub hl [1] rfl) hf
      · have hf := (if_neg c_3).symm.trans hf
        refine lv_aload_n hx hb dX0_lateKeys_19 rfl (lv_at hl 2 rfl) ?_
        refine lv_iload hx hb dX0_lateKeys_20 (lv_at hl 4 rfl) ?_
        obtain ⟨g_4, hf⟩ := xg_some hf
        obtain ⟨i_5, ei_5, hf⟩ := xl_some hf
        have hi_i_5 : i_5 < 6 := by rw [ei_5]; exact xin_lt g_4
        refine x_aald S hK h_bk 30 (by decide) rfl rfl 3 rfl i_5 ei_5.symm g_4 (r := (b + (31 + i_5))) rfl dX0_lateKeys_22 ?_
        refine lv_astore (lv' := [(5, .ref (b + (31 + i_5))), (0, .ref b), (1, .int x_1), (2, .ref (b + 30)), (3, .int 6), (4, .int x_2)]) hx hb dX0_lateKeys_23 hl (by decide) rfl (fun ls hl => ?_)
        refine lv_iload_n hx hb dX0_lateKeys_25 rfl (lv_at hl 2 rfl) ?_
        refine lv_aload hx hb dX0_lateKeys_26 (lv_at hl 0 rfl) ?_
        refine lv_aload_n hx hb dX0_lateKeys_28 rfl (lv_at hl 1 rfl) ?_
        refine x_get S hK h_bk 0 (by decide) rfl rfl rfl in0 0 (by decide) (xm 2 rfl) (x := .int (v 0 0)) rfl dX0_lateKeys_29 ?_
        obtain ⟨r_6, e_7, hf⟩ := xb_some hf
        refine x_callVi (As := [.int (v 0 0)]) (rest := [.int x_1]) S hK (c_X3_daysLate l G z b v i_5 (v 0 0) r_6 hi_i_5 e_7) gX0_lateKeys_X3_daysLate rfl 1 (by decide +kernel) rfl ⟨Nat.le_of_ble_eq_true rfl, Nat.le_of_ble_eq_true rfl⟩ h_bk (31 + i_5) (by omega) rfl (bkE_key G b i_5 _) rfl h_bk hl.1 rfl (Nat.le_of_ble_eq_true rfl) dX0_lateKeys_32 hL ⟨Nat.zero_le _, Nat.zero_le _⟩ (fun H1 locs hL hpost => ?_)
        subst hpost
        refine lv_if_le (tgt := 42) hx hb dX0_lateKeys_35 (by decide) (fun c_8 => ?_) (fun c_8 => ?_)
        · have hf := (if_pos c_8).symm.trans hf
          refine lv_iconst (v := 0) hx hb dX0_lateKeys_42 (by decide) ?_
          refine lv_iadd hx hb dX0_lateKeys_43 ?_
          obtain ⟨x_9, ex_9, hf⟩ := xl_some hf
          refine x_top ex_9 ?_
          refine lv_istore_n (lv' := [(1, .int x_9), (5, .ref (b + (31 + i_5))), (0, .ref b), (2, .ref (b + 30)), (3, .int 6), (4, .int x_2)]) hx hb dX0_lateKeys_44 rfl hl (by decide) rfl (fun ls hl => ?_)
          obtain ⟨x_10, ex_10, hf⟩ := xl_some hf
          refine lv_iinc (v := x_10) (lv' := [(4, .int x_10), (1, .int x_9), (5, .ref (b + (31 + i_5))), (0, .ref b), (2, .ref (b + 30)), (3, .int 6)]) hx hb dX0_lateKeys_45 hl (k := 5) rfl (by rw [ex_10]; rfl) (by decide) rfl (fun ls hl => ?_)
          refine lv_goto (tgt := 13) hx hb dX0_lateKeys_48 (by decide) ?_
          exact ih_13 x_9 x_10 _ _ hL (lv_sub hl [3, 1, 4, 5, 0] rfl) hf
        · have hf := (if_neg c_8).symm.trans hf
          refine lv_iconst (v := 1) hx hb dX0_lateKeys_38 (by decide) ?_
          refine lv_goto (tgt := 43) hx hb dX0_lateKeys_39 (by decide) ?_
          refine lv_iadd hx hb dX0_lateKeys_43 ?_
          obtain ⟨x_11, ex_11, hf⟩ := xl_some hf
          refine x_top ex_11 ?_
          refine lv_istore_n (lv' := [(1, .int x_11), (5, .ref (b + (31 + i_5))), (0, .ref b), (2, .ref (b + 30)), (3, .int 6), (4, .int x_2)]) hx hb dX0_lateKeys_44 rfl hl (by decide) rfl (fun ls hl => ?_)
          obtain ⟨x_12, ex_12, hf⟩ := xl_some hf
          refine lv_iinc (v := x_12) (lv' := [(4, .int x_12), (1, .int x_11), (5, .ref (b + (31 + i_5))), (0, .ref b), (2, .ref (b + 30)), (3, .int 6)]) hx hb dX0_lateKeys_45 hl (k := 5) rfl (by rw [ex_12]; rfl) (by decide) rfl (fun ls hl => ?_)
          refine lv_goto (tgt := 13) hx hb dX0_lateKeys_48 (by decide) ?_
          exact ih_13 x_11 x_12 _ _ hL (lv_sub hl [3, 1, 4, 5, 0] rfl) hf
  refine lp_13 _ (fun x_13 x_14 locs ls hL hl hf => ?_) 100000 0 0 _ _ hL (lv_sub hl [4, 3, 2, 1, 0] rfl) hf
  refine lv_iload_n hx hb dX0_lateKeys_51 rfl (lv_at hl 0 rfl) ?_
  have q0 := Option.some.inj hf
  subst r0
  subst hQ
  refine x_iret (post := (fun H H1 => H1 = H)) S hr hlocks rfl ?_ hL dX0_lateKeys_52
  exact rfl
set_option maxRecDepth 100000 in
set_option maxHeartbeats 4000000 in
theorem c_X0_priceOfSession (l : Launch) (G : xG) (z : Nat) (b : Nat) (w : Nat) (v : xV) (wv : xV) (r0 : Int32)  (hf : f_X0_priceOfSession v wv = some r0) : xM l yX0_priceOfSession wsX0_priceOfSession 1 40 G z [.ref b, .ref w] (fun H => PX G b 37 (bkE G b) v H ∧ PX G w 1 wsE wv H) (some (.int r0)) (fun H H1 => H1 = H) := by
  refine xM.of (cc := cX0_priceOfSession) (maxL := 7) (ret := (some .int)) (by decide +kernel) rfl (Nat.le_of_ble_eq_true rfl) ?_
  intro p e s m args below meth c ls Q hQ S hr hlocks hK hP hl
  obtain ⟨hx, hb, hml, hown, hts⟩ := id S
  obtain ⟨h_bk, h_ws⟩ := hP
  have hL : ∀ q ∈ ([] : List Loc), z ≤ q.base := fun q h => absurd h List.not_mem_nil
  have hl : lv_has ls 7 [(0, .ref b), (1, .ref w)] := hl
  have in0 : ∀ w ∈ u_ws RX0 TX0 9, w ∈ wsX0_priceOfSession := fun _ h => List.mem_cons_of_mem _ (List.mem_append_right _ h)
  have in6 : ∀ w ∈ u_ws RX6 TX6 7, w ∈ wsX0_priceOfSession := fun _ h => List.mem_cons_of_mem _ (List.mem_append_left _ (List.mem_append_right _ h))
  unfold f_X0_priceOfSession at hf
  refine lv_aload_n hx hb dX0_priceOfSession_0 rfl (lv_at hl 1 rfl) ?_
  refine x_get S hK h_ws 0 (by decide) rfl rfl rfl in6 3 (by decide) (xm 1 rfl) (x := .int (wv 0 3)) rfl dX0_priceOfSession_1 ?_
  refine lv_aload_n hx hb dX0_priceOfSession_4 rfl (lv_at hl 1 rfl) ?_
  refine x_get S hK h_ws 0 (by decide) rfl rfl rfl in6 2 (by decide) (xm 2 rfl) (x := .int (wv 0 2)) rfl dX0_priceOfSession_5 ?_
  refine lv_isub hx hb dX0_priceOfSession_8 ?_
  obtain ⟨x_1, ex_1, hf⟩ := xl_some hf
  refine x_top ex_1 ?_
  refine lv_istore_n (lv' := [(2, .int x_1), (0, .ref b), (1, .ref w)]) hx hb dX0_priceOfSession_9 rfl hl (by decide) rfl (fun ls hl => ?_)
  refine lv_iconst (v := 0) hx hb dX0_priceOfSession_10 (by decide) ?_
  refine lv_aload_n hx hb dX0_priceOfSession_11 rfl (lv_at hl 2 rfl) ?_
  refine x_get S hK h_ws 0 (by decide) rfl rfl rfl in6 3 (by decide) (xm 1 rfl) (x := .int (wv 0 3)) rfl dX0_priceOfSession_12 ?_
  refine lv_aload_n hx hb dX0_priceOfSession_15 rfl (lv_at hl 2 rfl) ?_
  refine x_get S hK h_ws 0 (by decide) rfl rfl rfl in6 2 (by decide) (xm 2 rfl) (x := .int (wv 0 2)) rfl dX0_priceOfSession_16 ?_
  refine lv_bipush (v := 18) hx hb dX0_priceOfSession_19 (by decide) ?_
  refine x_max S (xm 3 rfl) (xm 4 rfl) (xm 5 rfl) (xm 6 rfl) hl.1 (Nat.le_of_ble_eq_true rfl) (Nat.le_of_ble_eq_true rfl) (Nat.zero_le _) (Nat.zero_le _) dX0_priceOfSession_21 ?_
  refine lv_isub hx hb dX0_priceOfSession_24 ?_
  refine x_max S (xm 3 rfl) (xm 4 rfl) (xm 5 rfl) (xm 6 rfl) hl.1 (Nat.le_of_ble_eq_true rfl) (Nat.le_of_ble_eq_true rfl) (Nat.zero_le _) (Nat.zero_le _) dX0_priceOfSession_25 ?_
  obtain ⟨x_2, ex_2, hf⟩ := xl_some hf
  refine x_top ex_2 ?_
  refine lv_istore_n (lv' := [(3, .int x_2), (2, .int x_1), (0, .ref b), (1, .ref w)]) hx hb dX0_priceOfSession_28 rfl hl (by decide) rfl (fun ls hl => ?_)
  refine lv_iconst (v := 0) hx hb dX0_priceOfSession_29 (by decide) ?_
  refine lv_istore (lv' := [(4, .int 0), (3, .int x_2), (2, .int x_1), (0, .ref b), (1, .ref w)]) hx hb dX0_priceOfSession_30 hl (by decide) rfl (fun ls hl => ?_)
  refine lv_iconst (v := 0) hx hb dX0_priceOfSession_32 (by decide) ?_
  refine lv_istore (lv' := [(5, .int 0), (4, .int 0), (3, .int x_2), (2, .int x_1), (0, .ref b), (1, .ref w)]) hx hb dX0_priceOfSession_33 hl (by decide) rfl (fun ls hl => ?_)
  have lp_35 : ∀ (K_35 : Int32 → Int32 → Option Int32), (∀ (x_3 : Int32) (x_4 : Int32) (locs : List Loc) (ls : Array Slot), (∀ q ∈ locs, z ≤ q.base) → lv_has ls 7 [(4, .int x_3)] → K_35 x_3 x_4 = some r0 → W p l e { frames := 1, cells := 0, slots := 0, locals := 40 } s m args below meth c s.heap locs 0 0 Q (F0 m 98 ls [])) → ∀ (n : Nat) (x_3 : Int32) (x_4 : Int32) (locs : List Loc) (ls : Array Slot), (∀ q ∈ locs, z ≤ q.base) → lv_has ls 7 [(0, .ref b), (1, .ref w), (2, .int x_1), (3, .int x_2), (4, .int x_3), (5, .int x_4)] → L_X0_priceOfSession_35 K_35 v wv x_1 x_2 n x_3 x_4 = some r0 → W p l e { frames := 1, cells := 0, slots := 0, locals := 40 } s m args below meth c s.heap locs 0 0 Q (F0 m 35 ls []) := by
    intro K_35 hK_35 n
    induction n with
    | zero =>
      intro x_3 x_4 locs ls hL hl hf
      cases hf
    | succ n ih_35 =>
      intro x_3 x_4 locs ls hL hl hf
      unfold L_X0_priceOfSession_35 at hf
      refine lv_iload hx hb dX0_priceOfSession_35 (lv_at hl 5 rfl) ?_
      refine lv_iconst (v := 3) hx hb dX0_priceOfSession_37 (by decide) ?_
      refine lv_icmp_ge (tgt := 98) hx hb dX0_priceOfSession_38 (by decide) (fun c_5 => ?_) (fun c_5 => ?_)
      · have hf := (if_pos c_5).symm.trans hf
        exact hK_35 x_3 x_4 _ _ hL (lv_sub hl [4] rfl) hf
      · have hf := (if_neg c_5).symm.trans hf
        refine lv_aload_n hx hb dX0_priceOfSession_41 rfl (lv_at hl 1 rfl) ?_
        refine x_get S hK h_ws 0 (by decide) rfl rfl rfl in6 1 (by decide) (xm 7 rfl) (x := .int (wv 0 1)) rfl dX0_priceOfSession_42 ?_
        refine lv_iload hx hb dX0_priceOfSession_45 (lv_at hl 5 rfl) ?_
        refine lv_ishr hx hb dX0_priceOfSession_47 ?_
        refine lv_iconst (v := 1) hx hb dX0_priceOfSession_48 (by decide) ?_
        refine lv_iand hx hb dX0_priceOfSession_49 ?_
        refine lv_iconst (v := 1) hx hb dX0_priceOfSession_50 (by decide) ?_
        refine lv_icmp_ne (tgt := 92) hx hb dX0_priceOfSession_51 (by decide) (fun c_6 => ?_) (fun c_6 => ?_)
        · have hf := (if_neg c_6).symm.trans hf
          obtain ⟨x_7, ex_7, hf⟩ := xl_some hf
          refine lv_iinc (v := x_7) (lv' := [(5, .int x_7), (0, .ref b), (1, .ref w), (2, .int x_1), (3, .int x_2), (4, .int x_3)]) hx hb dX0_priceOfSession_92 hl (k := 5) rfl (by rw [ex_7]; rfl) (by decide) rfl (fun ls hl => ?_)
          refine lv_goto (tgt := 35) hx hb dX0_priceOfSession_95 (by decide) ?_
          exact ih_35 x_3 x_7 _ _ hL (lv_sub hl [1, 2, 3, 4, 5, 0] rfl) hf
        · have hf := (if_pos c_6).symm.trans hf
          refine lv_aload_n hx hb dX0_priceOfSession_54 rfl (lv_at hl 0 rfl) ?_
          refine x_get S hK h_bk 0 (by decide) rfl rfl rfl in0 3 (by decide) (xm 8 rfl) (x := .ref (b + 1)) rfl dX0_priceOfSession_55 ?_
          refine lv_iload hx hb dX0_priceOfSession_58 (lv_at hl 5 rfl) ?_
          obtain ⟨g_8, hf⟩ := xg_some hf
          refine x_iald S hK h_bk 1 (by decide) rfl rfl x_4.toNatClampNeg rfl g_8 dX0_priceOfSession_60 ?_
          refine lv_aload_n hx hb dX0_priceOfSession_61 rfl (lv_at hl 0 rfl) ?_
          refine x_get S hK h_bk 0 (by decide) rfl rfl rfl in0 3 (by decide) (xm 8 rfl) (x := .ref (b + 1)) rfl dX0_priceOfSession_62 ?_
          refine lv_iconst (v := 3) hx hb dX0_priceOfSession_65 (by decide) ?_
          refine x_iald S hK h_bk 1 (by decide) rfl rfl 3 (by decide) (by decide) dX0_priceOfSession_66 ?_
          refine lv_imul hx hb dX0_priceOfSession_67 ?_
          refine lv_bipush (v := 100) hx hb dX0_priceOfSession_68 (by decide) ?_
          refine lv_idiv hx hb dX0_priceOfSession_70 (by decide) ?_
          obtain ⟨x_9, ex_9, hf⟩ := xl_some hf
          refine x_top ex_9 ?_
          refine lv_istore (lv' := [(6, .int x_9), (0, .ref b), (1, .ref w), (2, .int x_1), (3, .int x_2), (4, .int x_3), (5, .int x_4)]) hx hb dX0_priceOfSession_71 hl (by decide) rfl (fun ls hl => ?_)
          refine lv_iload hx hb dX0_priceOfSession_73 (lv_at hl 5 rfl) ?_
          refine lv_aload_n hx hb dX0_priceOfSession_75 rfl (lv_at hl 1 rfl) ?_
          refine x_get S hK h_bk 0 (by decide) rfl rfl rfl in0 3 (by decide) (xm 8 rfl) (x := .ref (b + 1)) rfl dX0_priceOfSession_76 ?_
          refine lv_iload hx hb dX0_priceOfSession_79 (lv_at hl 6 rfl) ?_
          obtain ⟨g_10, hf⟩ := xg_some hf
          refine x_iald S hK h_bk 1 (by decide) rfl rfl x_4.toNatClampNeg rfl g_10 dX0_priceOfSession_81 ?_
          refine lv_iload_n hx hb dX0_priceOfSession_82 rfl (lv_at hl 3 rfl) ?_
          refine lv_imul hx hb dX0_priceOfSession_83 ?_
          refine lv_iload hx hb dX0_priceOfSession_84 (lv_at hl 0 rfl) ?_
          refine lv_iload_n hx hb dX0_priceOfSession_86 rfl (lv_at hl 4 rfl) ?_
          refine lv_imul hx hb dX0_priceOfSession_87 ?_
          refine lv_iadd hx hb dX0_priceOfSession_88 ?_
          refine lv_iadd hx hb dX0_priceOfSession_89 ?_
          obtain ⟨x_11, ex_11, hf⟩ := xl_some hf
          refine x_top ex_11 ?_
          refine lv_istore (lv' := [(4, .int x_11), (6, .int x_9), (0, .ref b), (1, .ref w), (2, .int x_1), (3, .int x_2), (5, .int x_4)]) hx hb dX0_priceOfSession_90 hl (by decide) rfl (fun ls hl => ?_)
          obtain ⟨x_12, ex_12, hf⟩ := xl_some hf
          refine lv_iinc (v := x_12) (lv' := [(5, .int x_12), (4, .int x_11), (6, .int x_9), (0, .ref b), (1, .ref w), (2, .int x_1), (3, .int x_2)]) hx hb dX0_priceOfSession_92 hl (k := 6) rfl (by rw [ex_12]; rfl) (by decide) rfl (fun ls hl => ?_)
          refine lv_goto (tgt := 35) hx hb dX0_priceOfSession_95 (by decide) ?_
          exact ih_35 x_11 x_12 _ _ hL (lv_sub hl [3, 4, 5, 6, 1, 0] rfl) hf
  refine lp_35 _ (fun x_13 x_14 locs ls hL hl hf => ?_) 100000 0 0 _ _ hL (lv_sub hl [4, 5, 3, 2, 1, 0] rfl) hf
  refine lv_iload hx hb dX0_priceOfSession_98 (lv_at hl 0 rfl) ?_
  have q0 := Option.some.inj hf
  subst r0
  subst hQ
  refine x_iret (post := (fun H H1 => H1 = H)) S hr hlocks rfl ?_ hL dX0_priceOfSession_100
  exact rfl
set_option maxRecDepth 100000 in
set_option maxHeartbeats 4000000 in
theorem c_X7_discountOf (l : Launch) (G : xG) (z : Nat) (p1 : Int32) (r0 : Int32)  (hf : f_X7_discountOf p1 = some r0) : xM l yX7_discountOf wsX7_discountOf 0 0 G z [.int p1] (fun H => H = H) (some (.int r0)) (fun H H1 => H1 = H) := by
  refine xM.of (cc := cX7_discountOf) (maxL := 1) (ret := (some .int)) (by decide +kernel) rfl (Nat.le_of_ble_eq_true rfl) ?_
  intro p e s m args below meth c ls Q hQ S hr hlocks hK hP hl
  obtain ⟨hx, hb, hml, hown, hts⟩ := id S
  have hL : ∀ q ∈ ([] : List Loc), z ≤ q.base := fun q h => absurd h List.not_mem_nil
  have hl : lv_has ls 1 [(0, .int p1)] := hl
  unfold f_X7_discountOf at hf
  refine lv_iload_n hx hb dX7_discountOf_0 rfl (lv_at hl 0 rfl) ?_
  refine lv_iconst (v := 4) hx hb dX7_discountOf_1 (by decide) ?_
  refine lv_icmp_ge (tgt := 7) hx hb dX7_discountOf_2 (by decide) (fun c_1 => ?_) (fun c_1 => ?_)
  · have hf := (if_pos c_1).symm.trans hf
    refine lv_iload_n hx hb dX7_discountOf_7 rfl (lv_at hl 0 rfl) ?_
    refine lv_bipush (v := 10) hx hb dX7_discountOf_8 (by decide) ?_
    refine lv_icmp_ge (tgt := 18) hx hb dX7_discountOf_10 (by decide) (fun c_2 => ?_) (fun c_2 => ?_)
    · have hf := (if_pos c_2).symm.trans hf
      refine lv_bipush (v := 20) hx hb dX7_discountOf_18 (by decide) ?_
      have q0 := Option.some.inj hf
      subst r0
      subst hQ
      refine x_iret (post := (fun H H1 => H1 = H)) S hr hlocks rfl ?_ hL dX7_discountOf_20
      exact rfl
    · have hf := (if_neg c_2).symm.trans hf
      refine lv_bipush (v := 10) hx hb dX7_discountOf_13 (by decide) ?_
      refine lv_goto (tgt := 20) hx hb dX7_discountOf_15 (by decide) ?_
      have q0 := Option.some.inj hf
      subst r0
      subst hQ
      refine x_iret (post := (fun H H1 => H1 = H)) S hr hlocks rfl ?_ hL dX7_discountOf_20
      exact rfl
  · have hf := (if_neg c_1).symm.trans hf
    refine lv_iconst (v := 0) hx hb dX7_discountOf_5 (by decide) ?_
    have q0 := Option.some.inj hf
    subst r0
    subst hQ
    refine x_iret (post := (fun H H1 => H1 = H)) S hr hlocks rfl ?_ hL dX7_discountOf_6
    exact rfl
set_option maxRecDepth 100000 in
set_option maxHeartbeats 4000000 in
theorem c_X0_priceOf (l : Launch) (G : xG) (z : Nat) (b : Nat) (w : Nat) (v : xV) (wv : xV) (r0 : Int32)  (hf : f_X0_priceOf v wv = some r0) : xM l yX0_priceOf wsX0_priceOf 2 66 G z [.ref b, .ref w] (fun H => PX G b 37 (bkE G b) v H ∧ PX G w 1 wsE wv H) (some (.int r0)) (fun H H1 => H1 = H) := by
  refine xM.of (cc := cX0_priceOf) (maxL := 3) (ret := (some .int)) (by decide +kernel) rfl (Nat.le_of_ble_eq_true rfl) ?_
  intro p e s m args below meth c ls Q hQ S hr hlocks hK hP hl
  obtain ⟨hx, hb, hml, hown, hts⟩ := id S
  obtain ⟨h_bk, h_ws⟩ := hP
  have hL : ∀ q ∈ ([] : List Loc), z ≤ q.base := fun q h => absurd h List.not_mem_nil
  have hl : lv_has ls 3 [(0, .ref b), (1, .ref w)] := hl
  have in6 : ∀ w ∈ u_ws RX6 TX6 7, w ∈ wsX0_priceOf := fun _ h => List.mem_cons_of_mem _ (List.mem_append_left _ (List.mem_append_right _ h))
  unfold f_X0_priceOf at hf
  refine lv_aload_n hx hb dX0_priceOf_0 rfl (lv_at hl 1 rfl) ?_
  refine x_get S hK h_ws 0 (by decide) rfl rfl rfl in6 5 (by decide) (xm 1 rfl) (x := .int (wv 0 5)) rfl dX0_priceOf_1 ?_
  refine lv_aload_n hx hb dX0_priceOf_4 rfl (lv_at hl 0 rfl) ?_
  refine lv_aload_n hx hb dX0_priceOf_5 rfl (lv_at hl 1 rfl) ?_
  obtain ⟨r_1, e_2, hf⟩ := xb_some hf
  refine x_callVi (As := [.ref w]) (rest := [.int (wv 0 5)]) S hK (c_X0_priceOfSession l G z b w v wv r_1 e_2) gX0_priceOf_X0_priceOfSession rfl 1 (by decide +kernel) rfl ⟨Nat.le_of_ble_eq_true rfl, Nat.le_of_ble_eq_true rfl⟩ h_bk 0 (by decide) rfl rfl rfl ⟨h_bk, h_ws⟩ hl.1 rfl (Nat.le_of_ble_eq_true rfl) dX0_priceOf_6 hL ⟨Nat.zero_le _, Nat.zero_le _⟩ (fun H1 locs hL hpost => ?_)
  subst hpost
  refine lv_imul hx hb dX0_priceOf_9 ?_
  obtain ⟨x_3, ex_3, hf⟩ := xl_some hf
  refine x_top ex_3 ?_
  refine lv_istore_n (lv' := [(2, .int x_3), (0, .ref b), (1, .ref w)]) hx hb dX0_priceOf_10 rfl hl (by decide) rfl (fun ls hl => ?_)
  refine lv_iload_n hx hb dX0_priceOf_11 rfl (lv_at hl 0 rfl) ?_
  refine lv_iload_n hx hb dX0_priceOf_12 rfl (lv_at hl 0 rfl) ?_
  refine lv_aload_n hx hb dX0_priceOf_13 rfl (lv_at hl 2 rfl) ?_
  refine x_get S hK h_ws 0 (by decide) rfl rfl rfl in6 5 (by decide) (xm 1 rfl) (x := .int (wv 0 5)) rfl dX0_priceOf_14 ?_
  obtain ⟨r_4, e_5, hf⟩ := xb_some hf
  refine x_callNi (As := [.int (wv 0 5)]) (rest := [.int x_3, .int x_3]) S hK (c_X7_discountOf l G z (wv 0 5) r_4 e_5) gX0_priceOf_X7_discountOf_n119 (xm 15 rfl) (xm 16 rfl) hK.2.2.2.1 rfl 1 (by decide +kernel) rfl ⟨Nat.le_of_ble_eq_true rfl, Nat.le_of_ble_eq_true rfl⟩ rfl hl.1 rfl (Nat.le_of_ble_eq_true rfl) dX0_priceOf_17 hL ⟨Nat.zero_le _, Nat.zero_le _⟩ (fun H1 locs hL hpost => ?_)
  subst hpost
  refine lv_imul hx hb dX0_priceOf_20 ?_
  refine lv_bipush (v := 100) hx hb dX0_priceOf_21 (by decide) ?_
  refine lv_idiv hx hb dX0_priceOf_23 (by decide) ?_
  refine lv_isub hx hb dX0_priceOf_24 ?_
  have q0 := Option.some.inj hf
  subst r0
  subst hQ
  refine x_iret (post := (fun H H1 => H1 = H)) S hr hlocks rfl ?_ hL dX0_priceOf_25
  exact rfl
set_option maxRecDepth 100000 in
set_option maxHeartbeats 4000000 in
theorem c_X1_begin (l : Launch) (G : xG) (z : Nat) (b : Nat) (w : Nat) (v : xV) (wv : xV) (i : Nat) (p2 : Int32) (p3 : Int32) (v' : xV) (hz_bk : z ≤ b) (hi_i : i < 12) (dj_bk_ws : b + 37 ≤ w ∨ w + 1 ≤ b) (hf : f_X1_begin v wv i p2 p3 = some v') : xM l yX1_begin wsX1_begin 0 0 G z [.ref (b + (6 + 2 * i)), .ref w, .int p2, .int p3] (fun H => PX G b 37 (bkE G b) v H ∧ PX G w 1 wsE wv H) none (fun H H1 => PX G b 37 (bkE G b) v' H1 ∧ XF (fun q => (b ≤ q ∧ q < b + 37)) H H1) := by
  refine xM.of (cc := cX1_begin) (maxL := 4) (ret := none) (by decide +kernel) rfl (Nat.le_of_ble_eq_true rfl) ?_
  intro p e s m args below meth c ls Q hQ S hr hlocks hK hP hl
  obtain ⟨hx, hb, hml, hown, hts⟩ := id S
  obtain ⟨h_bk, h_ws⟩ := hP
  have hL : ∀ q ∈ ([] : List Loc), z ≤ q.base := fun q h => absurd h List.not_mem_nil
  have hF : XF (fun q => (b ≤ q ∧ q < b + 37)) s.heap s.heap := XF.rf
  have hl : lv_has ls 4 [(0, .ref (b + (6 + 2 * i))), (1, .ref w), (2, .int p2), (3, .int p3)] := hl
  have in1 : ∀ w ∈ u_ws RX1 TX1 15, w ∈ wsX1_begin := fun _ h => List.mem_cons_of_mem _ (List.mem_append_right _ h)
  have in6 : ∀ w ∈ u_ws RX6 TX6 7, w ∈ wsX1_begin := fun _ h => List.mem_cons_of_mem _ (List.mem_append_left _ (List.mem_append_right _ h))
  unfold f_X1_begin at hf
  refine lv_aload_n hx hb dX1_begin_0 rfl (lv_at hl 0 rfl) ?_
  refine lv_aload_n hx hb dX1_begin_1 rfl (lv_at hl 1 rfl) ?_
  refine x_get S hK h_ws 0 (by decide) rfl rfl rfl in6 0 (by decide) (xm 1 rfl) (x := .int (wv 0 0)) rfl dX1_begin_2 ?_
  obtain ⟨v_1, ev_1, hf⟩ := xl_some hf
  refine x_put S hK h_bk hz_bk hL (6 + 2 * i) (by omega) rfl (bkE_hire G b i hi_i _) rfl in1 tyX1 tyX1_ok nmX1 1 (by decide) (xm 2 rfl) rfl (vp_nar_int _) rfl (Nat.le_of_ble_eq_true rfl) (bkE_hire G b i hi_i _) ev_1 dX1_begin_5 (fun H1 locs hL h_bk hfr => ?_)
  have h_ws := h_ws.kept hfr (fun q h1 h2 h3 => by (try dsimp only at h3); omega)
  have hF := hF.step hfr (fun q h => by (try dsimp only at h ⊢); omega)
  refine lv_aload_n hx hb dX1_begin_8 rfl (lv_at hl 0 rfl) ?_
  refine lv_aload_n hx hb dX1_begin_9 rfl (lv_at hl 1 rfl) ?_
  refine x_get S hK h_ws 0 (by decide) rfl rfl rfl in6 1 (by decide) (xm 3 rfl) (x := .int (wv 0 1)) rfl dX1_begin_10 ?_
  obtain ⟨v_2, ev_2, hf⟩ := xl_some hf
  refine x_put S hK h_bk hz_bk hL (6 + 2 * i) (by omega) rfl (bkE_hire G b i hi_i _) rfl in1 tyX1 tyX1_ok nmX1 2 (by decide) (xm 4 rfl) rfl (vp_nar_int _) rfl (Nat.le_of_ble_eq_true rfl) (bkE_hire G b i hi_i _) ev_2 dX1_begin_13 (fun H1 locs hL h_bk hfr => ?_)
  have h_ws := h_ws.kept hfr (fun q h1 h2 h3 => by (try dsimp only at h3); omega)
  have hF := hF.step hfr (fun q h => by (try dsimp only at h ⊢); omega)
  refine lv_aload_n hx hb dX1_begin_16 rfl (lv_at hl 0 rfl) ?_
  refine lv_aload_n hx hb dX1_begin_17 rfl (lv_at hl 1 rfl) ?_
  refine x_get S hK h_ws 0 (by decide) rfl rfl rfl in6 2 (by decide) (xm 5 rfl) (x := .int (wv 0 2)) rfl dX1_begin_18 ?_
  obtain ⟨v_3, ev_3, hf⟩ := xl_some hf
  refine x_put S hK h_bk hz_bk hL (6 + 2 * i) (by omega) rfl (bkE_hire G b i hi_i _) rfl in1 tyX1 tyX1_ok nmX1 3 (by decide) (xm 6 rfl) rfl (vp_nar_int _) rfl (Nat.le_of_ble_eq_true rfl) (bkE_hire G b i hi_i _) ev_3 dX1_begin_21 (fun H1 locs hL h_bk hfr => ?_)
  have h_ws := h_ws.kept hfr (fun q h1 h2 h3 => by (try dsimp only at h3); omega)
  have hF := hF.step hfr (fun q h => by (try dsimp only at h ⊢); omega)
  refine lv_aload_n hx hb dX1_begin_24 rfl (lv_at hl 0 rfl) ?_
  refine lv_aload_n hx hb dX1_begin_25 rfl (lv_at hl 1 rfl) ?_
  refine x_get S hK h_ws 0 (by decide) rfl rfl rfl in6 3 (by decide) (xm 7 rfl) (x := .int (wv 0 3)) rfl dX1_begin_26 ?_
  obtain ⟨v_4, ev_4, hf⟩ := xl_some hf
  refine x_put S hK h_bk hz_bk hL (6 + 2 * i) (by omega) rfl (bkE_hire G b i hi_i _) rfl in1 tyX1 tyX1_ok nmX1 4 (by decide) (xm 8 rfl) rfl (vp_nar_int _) rfl (Nat.le_of_ble_eq_true rfl) (bkE_hire G b i hi_i _) ev_4 dX1_begin_29 (fun H1 locs hL h_bk hfr => ?_)
  have h_ws := h_ws.kept hfr (fun q h1 h2 h3 => by (try dsimp only at h3); omega)
  have hF := hF.step hfr (fun q h => by (try dsimp only at h ⊢); omega)
  refine lv_aload_n hx hb dX1_begin_32 rfl (lv_at hl 0 rfl) ?_
  refine lv_aload_n hx hb dX1_begin_33 rfl (lv_at hl 1 rfl) ?_
  refine x_get S hK h_ws 0 (by decide) rfl rfl rfl in6 5 (by decide) (xm 9 rfl) (x := .int (wv 0 5)) rfl dX1_begin_34 ?_
  obtain ⟨v_5, ev_5, hf⟩ := xl_some hf
  refine x_put S hK h_bk hz_bk hL (6 + 2 * i) (by omega) rfl (bkE_hire G b i hi_i _) rfl in1 tyX1 tyX1_ok nmX1 5 (by decide) (xm 10 rfl) rfl (vp_nar_int _) rfl (Nat.le_of_ble_eq_true rfl) (bkE_hire G b i hi_i _) ev_5 dX1_begin_37 (fun H1 locs hL h_bk hfr => ?_)
  have h_ws := h_ws.kept hfr (fun q h1 h2 h3 => by (try dsimp only at h3); omega)
  have hF := hF.step hfr (fun q h => by (try dsimp only at h ⊢); omega)
  refine lv_aload_n hx hb dX1_begin_40 rfl (lv_at hl 0 rfl) ?_
  refine lv_aload_n hx hb dX1_begin_41 rfl (lv_at hl 1 rfl) ?_
  refine x_get S hK h_ws 0 (by decide) rfl rfl rfl in6 4 (by decide) (xm 11 rfl) (x := .int (wv 0 4)) rfl dX1_begin_42 ?_
  obtain ⟨v_6, ev_6, hf⟩ := xl_some hf
  refine x_put S hK h_bk hz_bk hL (6 + 2 * i) (by omega) rfl (bkE_hire G b i hi_i _) rfl in1 tyX1 tyX1_ok nmX1 6 (by decide) (xm 12 rfl) rfl (vp_nar_int _) rfl (Nat.le_of_ble_eq_true rfl) (bkE_hire G b i hi_i _) ev_6 dX1_begin_45 (fun H1 locs hL h_bk hfr => ?_)
  have h_ws := h_ws.kept hfr (fun q h1 h2 h3 => by (try dsimp only at h3); omega)
  have hF := hF.step hfr (fun q h => by (try dsimp only at h ⊢); omega)
  refine lv_aload_n hx hb dX1_begin_48 rfl (lv_at hl 0 rfl) ?_
  refine lv_aload_n hx hb dX1_begin_49 rfl (lv_at hl 1 rfl) ?_
  refine x_get S hK h_ws 0 (by decide) rfl rfl rfl in6 6 (by decide) (xm 13 rfl) (x := .int (wv 0 6)) rfl dX1_begin_50 ?_
  obtain ⟨v_7, ev_7, hf⟩ := xl_some hf
  refine x_put S hK h_bk hz_bk hL (6 + 2 * i) (by omega) rfl (bkE_hire G b i hi_i _) rfl in1 tyX1 tyX1_ok nmX1 7 (by decide) (xm 14 rfl) rfl (vp_nar_int _) rfl (Nat.le_of_ble_eq_true rfl) (bkE_hire G b i hi_i _) ev_7 dX1_begin_53 (fun H1 locs hL h_bk hfr => ?_)
  have h_ws := h_ws.kept hfr (fun q h1 h2 h3 => by (try dsimp only at h3); omega)
  have hF := hF.step hfr (fun q h => by (try dsimp only at h ⊢); omega)
  refine lv_aload_n hx hb dX1_begin_56 rfl (lv_at hl 0 rfl) ?_
  refine lv_iload_n hx hb dX1_begin_57 rfl (lv_at hl 2 rfl) ?_
  obtain ⟨v_8, ev_8, hf⟩ := xl_some hf
  refine x_put S hK h_bk hz_bk hL (6 + 2 * i) (by omega) rfl (bkE_hire G b i hi_i _) rfl in1 tyX1 tyX1_ok nmX1 8 (by decide) (xm 15 rfl) rfl (vp_nar_int _) rfl (Nat.le_of_ble_eq_true rfl) (bkE_hire G b i hi_i _) ev_8 dX1_begin_58 (fun H1 locs hL h_bk hfr => ?_)
  have h_ws := h_ws.kept hfr (fun q h1 h2 h3 => by (try dsimp only at h3); omega)
  have hF := hF.step hfr (fun q h => by (try dsimp only at h ⊢); omega)
  refine lv_aload_n hx hb dX1_begin_61 rfl (lv_at hl 0 rfl) ?_
  refine lv_iload_n hx hb dX1_begin_62 rfl (lv_at hl 3 rfl) ?_
  obtain ⟨v_9, ev_9, hf⟩ := xl_some hf
  refine x_put S hK h_bk hz_bk hL (6 + 2 * i) (by omega) rfl (bkE_hire G b i hi_i _) rfl in1 tyX1 tyX1_ok nmX1 11 (by decide) (xm 16 rfl) rfl (vp_nar_int _) rfl (Nat.le_of_ble_eq_true rfl) (bkE_hire G b i hi_i _) ev_9 dX1_begin_63 (fun H1 locs hL h_bk hfr => ?_)
  have h_ws := h_ws.kept hfr (fun q h1 h2 h3 => by (try dsimp only at h3); omega)
  have hF := hF.step hfr (fun q h => by (try dsimp only at h ⊢); omega)
  have q0 := Option.some.inj hf
  subst v'
  subst hQ
  refine x_vret (post := (fun H H1 => PX G b 37 (bkE G b) v_9 H1 ∧ XF (fun q => (b ≤ q ∧ q < b + 37)) H H1)) S hr hlocks rfl ?_ hL dX1_begin_66
  exact ⟨h_bk, hF⟩
set_option maxRecDepth 100000 in
set_option maxHeartbeats 4000000 in
theorem c_X0_make (l : Launch) (G : xG) (z : Nat) (b : Nat) (w : Nat) (v : xV) (wv : xV) (r0 : Int32) (v' : xV) (hz_bk : z ≤ b) (dj_bk_ws : b + 37 ≤ w ∨ w + 1 ≤ b) (hf : f_X0_make v wv = some (r0, v')) : xM l yX0_make wsX0_make 3 88 G z [.ref b, .ref w] (fun H => PX G b 37 (bkE G b) v H ∧ PX G w 1 wsE wv H) (some (.int r0)) (fun H H1 => PX G b 37 (bkE G b) v' H1 ∧ XF (fun q => (b ≤ q ∧ q < b + 37)) H H1) := by
  refine xM.of (cc := cX0_make) (maxL := 4) (ret := (some .int)) (by decide +kernel) rfl (Nat.le_of_ble_eq_true rfl) ?_
  intro p e s m args below meth c ls Q hQ S hr hlocks hK hP hl
  obtain ⟨hx, hb, hml, hown, hts⟩ := id S
  obtain ⟨h_bk, h_ws⟩ := hP
  have hL : ∀ q ∈ ([] : List Loc), z ≤ q.base := fun q h => absurd h List.not_mem_nil
  have hF : XF (fun q => (b ≤ q ∧ q < b + 37)) s.heap s.heap := XF.rf
  have hl : lv_has ls 4 [(0, .ref b), (1, .ref w)] := hl
  have in0 : ∀ w ∈ u_ws RX0 TX0 9, w ∈ wsX0_make := fun _ h => List.mem_cons_of_mem _ (List.mem_append_left _ (List.mem_append_left _ (List.mem_append_right _ h)))
  have in6 : ∀ w ∈ u_ws RX6 TX6 7, w ∈ wsX0_make := fun _ h => List.mem_cons_of_mem _ (List.mem_append_left _ (List.mem_append_right _ h))
  unfold f_X0_make at hf
  refine lv_aload_n hx hb dX0_make_0 rfl (lv_at hl 0 rfl) ?_
  refine x_get S hK h_bk 0 (by decide) rfl rfl rfl in0 2 (by decide) (xm 1 rfl) (x := .int (v 0 2)) rfl dX0_make_1 ?_
  refine lv_if_lt (tgt := 19) hx hb dX0_make_4 (by decide) (fun c_1 => ?_) (fun c_1 => ?_)
  · have hf := (if_pos c_1).symm.trans hf
    refine lv_ldc (v := (-2000000003)) hx hb hown (hts _ (xm 3 rfl)) dX0_make_19 ?_
    obtain ⟨q0, qq0⟩ := Prod.mk.inj (Option.some.inj hf)
    have q1 := qq0
    subst r0
    subst v'
    subst hQ
    refine x_iret (post := (fun H H1 => PX G b 37 (bkE G b) v H1 ∧ XF (fun q => (b ≤ q ∧ q < b + 37)) H H1)) S hr hlocks rfl ?_ hL dX0_make_21
    exact ⟨h_bk, hF⟩
  · have hf := (if_neg c_1).symm.trans hf
    refine lv_aload_n hx hb dX0_make_7 rfl (lv_at hl 0 rfl) ?_
    refine x_get S hK h_bk 0 (by decide) rfl rfl rfl in0 2 (by decide) (xm 1 rfl) (x := .int (v 0 2)) rfl dX0_make_8 ?_
    refine lv_aload_n hx hb dX0_make_11 rfl (lv_at hl 0 rfl) ?_
    refine x_get S hK h_bk 0 (by decide) rfl rfl rfl in0 7 (by decide) (xm 2 rfl) (x := .ref (b + 5)) rfl dX0_make_12 ?_
    refine x_alen S hK h_bk 5 (by decide) rfl rfl 2 rfl (r := 12) rfl dX0_make_15 ?_
    refine lv_icmp_lt (tgt := 22) hx hb dX0_make_16 (by decide) (fun c_2 => ?_) (fun c_2 => ?_)
    · have hf := (if_pos c_2).symm.trans hf
      refine lv_aload_n hx hb dX0_make_22 rfl (lv_at hl 0 rfl) ?_
      refine lv_aload_n hx hb dX0_make_23 rfl (lv_at hl 1 rfl) ?_
      obtain ⟨r_3, e_4, hf⟩ := xb_some hf
      refine x_callVi (As := [.ref w]) (rest := []) S hK (c_X0_priceOf l G z b w v wv r_3 e_4) gX0_make_X0_priceOf rfl 1 (by decide +kernel) rfl ⟨Nat.le_of_ble_eq_true rfl, Nat.le_of_ble_eq_true rfl⟩ h_bk 0 (by decide) rfl rfl rfl ⟨h_bk, h_ws⟩ hl.1 rfl (Nat.le_of_ble_eq_true rfl) dX0_make_24 hL ⟨Nat.zero_le _, Nat.zero_le _⟩ (fun H1 locs hL hpost => ?_)
      subst hpost
      refine lv_istore_n (lv' := [(2, .int r_3), (0, .ref b), (1, .ref w)]) hx hb dX0_make_27 rfl hl (by decide) rfl (fun ls hl => ?_)
      refine lv_aload_n hx hb dX0_make_28 rfl (lv_at hl 1 rfl) ?_
      refine x_get S hK h_bk 0 (by decide) rfl rfl rfl in0 3 (by decide) (xm 4 rfl) (x := .ref (b + 1)) rfl dX0_make_29 ?_
      refine lv_iconst (v := 5) hx hb dX0_make_32 (by decide) ?_
      refine x_iald S hK h_bk 1 (by decide) rfl rfl 5 (by decide) (by decide) dX0_make_33 ?_
      obtain ⟨x_5, ex_5, hf⟩ := xl_some hf
      refine x_top ex_5 ?_
      refine lv_istore_n (lv' := [(3, .int x_5), (2, .int r_3), (0, .ref b), (1, .ref w)]) hx hb dX0_make_34 rfl hl (by decide) rfl (fun ls hl => ?_)
      refine lv_aload_n hx hb dX0_make_35 rfl (lv_at hl 2 rfl) ?_
      refine x_get S hK h_bk 0 (by decide) rfl rfl rfl in0 7 (by decide) (xm 2 rfl) (x := .ref (b + 5)) rfl dX0_make_36 ?_
      refine lv_aload_n hx hb dX0_make_39 rfl (lv_at hl 2 rfl) ?_
      refine x_get S hK h_bk 0 (by decide) rfl rfl rfl in0 2 (by decide) (xm 1 rfl) (x := .int (v 0 2)) rfl dX0_make_40 ?_
      obtain ⟨g_6, hf⟩ := xg_some hf
      obtain ⟨i_7, ei_7, hf⟩ := xl_some hf
      have hi_i_7 : i_7 < 12 := by rw [ei_7]; exact xin_lt g_6
      refine x_aald S hK h_bk 5 (by decide) rfl rfl 2 rfl i_7 ei_7.symm g_6 (r := (b + (6 + 2 * i_7))) rfl dX0_make_43 ?_
      refine lv_aload_n hx hb dX0_make_44 rfl (lv_at hl 3 rfl) ?_
      refine lv_iload_n hx hb dX0_make_45 rfl (lv_at hl 1 rfl) ?_
      refine lv_iload_n hx hb dX0_make_46 rfl (lv_at hl 0 rfl) ?_
      obtain ⟨v_8, e_9, hf⟩ := xb_some hf
      refine x_callVv (As := [.ref w, .int r_3, .int x_5]) (rest := []) S hK (c_X1_begin l G z b w v wv i_7 r_3 x_5 v_8 (by omega) hi_i_7 (by omega) e_9) gX0_make_X1_begin rfl 3 (by decide +kernel) rfl ⟨Nat.le_of_ble_eq_true rfl, Nat.le_of_ble_eq_true rfl⟩ h_bk (6 + 2 * i_7) (by omega) rfl (bkE_hire G b i_7 hi_i_7 _) rfl ⟨h_bk, h_ws⟩ hl.1 rfl (Nat.le_of_ble_eq_true rfl) dX0_make_47 hL ⟨Nat.zero_le _, Nat.zero_le _⟩ (fun H1 locs hL hpost => ?_)
      obtain ⟨n_bk, hfr⟩ := hpost
      have h_bk := n_bk
      have h_ws := h_ws.kept hfr (fun q h1 h2 h3 => by (try dsimp only at h3); omega)
      have hF := hF.step hfr (fun q h => by (try dsimp only at h ⊢); omega)
      refine lv_aload_n hx hb dX0_make_50 rfl (lv_at hl 2 rfl) ?_
      refine lv_dup hx hb dX0_make_51 rfl ?_
      refine x_get S hK h_bk 0 (by decide) rfl rfl rfl in0 2 (by decide) (xm 1 rfl) (x := .int (v_8 0 2)) rfl dX0_make_52 ?_
      refine lv_iconst (v := 1) hx hb dX0_make_55 (by decide) ?_
      refine lv_iadd hx hb dX0_make_56 ?_
      obtain ⟨v_10, ev_10, hf⟩ := xl_some hf
      refine x_put S hK h_bk hz_bk hL 0 (by decide) rfl rfl rfl in0 tyX0 tyX0_ok nmX0 2 (by decide) (xm 1 rfl) rfl (vp_nar_int _) rfl (Nat.le_of_ble_eq_true rfl) rfl ev_10 dX0_make_57 (fun H1 locs hL h_bk hfr => ?_)
      have h_ws := h_ws.kept hfr (fun q h1 h2 h3 => by (try dsimp only at h3); omega)
      have hF := hF.step hfr (fun q h => by (try dsimp only at h ⊢); omega)
      refine lv_aload_n hx hb dX0_make_60 rfl (lv_at hl 2 rfl) ?_
      refine lv_aload_n hx hb dX0_make_61 rfl (lv_at hl 3 rfl) ?_
      refine x_get S hK h_ws 0 (by decide) rfl rfl rfl in6 0 (by decide) (xm 5 rfl) (x := .int (wv 0 0)) rfl dX0_make_62 ?_
      refine lv_iload_n hx hb dX0_make_65 rfl (lv_at hl 1 rfl) ?_
      refine lv_iconst (v := 0) hx hb dX0_make_66 (by decide) ?_
      obtain ⟨v_11, e_12, hf⟩ := xb_some hf
      refine x_callVv (As := [.int (wv 0 0), .int r_3, .int 0]) (rest := []) S hK (c_X0_charge l G z b v_10 (wv 0 0) r_3 0 v_11 (by omega) e_12) gX0_make_X0_charge rfl 3 (by decide +kernel) rfl ⟨Nat.le_of_ble_eq_true rfl, Nat.le_of_ble_eq_true rfl⟩ h_bk 0 (by decide) rfl rfl rfl h_bk hl.1 rfl (Nat.le_of_ble_eq_true rfl) dX0_make_67 hL ⟨Nat.zero_le _, Nat.zero_le _⟩ (fun H1 locs hL hpost => ?_)
      obtain ⟨n_bk, hfr⟩ := hpost
      have h_bk := n_bk
      have h_ws := h_ws.kept hfr (fun q h1 h2 h3 => by (try dsimp only at h3); omega)
      have hF := hF.step hfr (fun q h => by (try dsimp only at h ⊢); omega)
      refine lv_aload_n hx hb dX0_make_70 rfl (lv_at hl 2 rfl) ?_
      refine lv_aload_n hx hb dX0_make_71 rfl (lv_at hl 3 rfl) ?_
      refine x_get S hK h_ws 0 (by decide) rfl rfl rfl in6 0 (by decide) (xm 5 rfl) (x := .int (wv 0 0)) rfl dX0_make_72 ?_
      refine lv_iload_n hx hb dX0_make_75 rfl (lv_at hl 0 rfl) ?_
      refine lv_iconst (v := 2) hx hb dX0_make_76 (by decide) ?_
      obtain ⟨v_13, e_14, hf⟩ := xb_some hf
      refine x_callVv (As := [.int (wv 0 0), .int x_5, .int 2]) (rest := []) S hK (c_X0_charge l G z b v_11 (wv 0 0) x_5 2 v_13 (by omega) e_14) gX0_make_X0_charge rfl 3 (by decide +kernel) rfl ⟨Nat.le_of_ble_eq_true rfl, Nat.le_of_ble_eq_true rfl⟩ h_bk 0 (by decide) rfl rfl rfl h_bk hl.1 rfl (Nat.le_of_ble_eq_true rfl) dX0_make_77 hL ⟨Nat.zero_le _, Nat.zero_le _⟩ (fun H1 locs hL hpost => ?_)
      obtain ⟨n_bk, hfr⟩ := hpost
      have h_bk := n_bk
      have h_ws := h_ws.kept hfr (fun q h1 h2 h3 => by (try dsimp only at h3); omega)
      have hF := hF.step hfr (fun q h => by (try dsimp only at h ⊢); omega)
      refine lv_aload_n hx hb dX0_make_80 rfl (lv_at hl 2 rfl) ?_
      refine x_get S hK h_bk 0 (by decide) rfl rfl rfl in0 4 (by decide) (xm 6 rfl) (x := .ref (b + 2)) rfl dX0_make_81 ?_
      refine lv_iconst (v := 3) hx hb dX0_make_84 (by decide) ?_
      refine lv_dup2_11 hx hb dX0_make_85 rfl rfl ?_
      refine x_iald S hK h_bk 2 (by decide) rfl rfl 3 (by decide) (by decide) dX0_make_86 ?_
      refine lv_iload_n hx hb dX0_make_87 rfl (lv_at hl 0 rfl) ?_
      refine lv_iadd hx hb dX0_make_88 ?_
      obtain ⟨v_15, ev_15, hf⟩ := xl_some hf
      refine x_iast S hK h_bk hz_bk hL 2 (by decide) rfl rfl 3 (by decide) (by decide) rfl ev_15 dX0_make_89 (fun H1 locs hL h_bk hfr => ?_)
      have h_ws := h_ws.kept hfr (fun q h1 h2 h3 => by (try dsimp only at h3); omega)
      have hF := hF.step hfr (fun q h => by (try dsimp only at h ⊢); omega)
      refine lv_aload_n hx hb dX0_make_90 rfl (lv_at hl 2 rfl) ?_
      refine x_get S hK h_bk 0 (by decide) rfl rfl rfl in0 2 (by decide) (xm 1 rfl) (x := .int (v_15 0 2)) rfl dX0_make_91 ?_
      refine lv_iconst (v := 1) hx hb dX0_make_94 (by decide) ?_
      refine lv_isub hx hb dX0_make_95 ?_
      obtain ⟨q0, qq0⟩ := Prod.mk.inj (Option.some.inj hf)
      have q1 := qq0
      subst r0
      subst v'
      subst hQ
      refine x_iret (post := (fun H H1 => PX G b 37 (bkE G b) v_15 H1 ∧ XF (fun q => (b ≤ q ∧ q < b + 37)) H H1)) S hr hlocks rfl ?_ hL dX0_make_96
      exact ⟨h_bk, hF⟩
    · have hf := (if_neg c_2).symm.trans hf
      refine lv_ldc (v := (-2000000003)) hx hb hown (hts _ (xm 3 rfl)) dX0_make_19 ?_
      obtain ⟨q0, qq0⟩ := Prod.mk.inj (Option.some.inj hf)
      have q1 := qq0
      subst r0
      subst v'
      subst hQ
      refine x_iret (post := (fun H H1 => PX G b 37 (bkE G b) v H1 ∧ XF (fun q => (b ≤ q ∧ q < b + 37)) H H1)) S hr hlocks rfl ?_ hL dX0_make_21
      exact ⟨h_bk, hF⟩
set_option maxRecDepth 100000 in
set_option maxHeartbeats 4000000 in
theorem c_X0_takeFromDeposit (l : Launch) (G : xG) (z : Nat) (b : Nat) (v : xV) (i : Nat) (p2 : Int32) (p3 : Int32) (r0 : Int32) (v' : xV) (hz_bk : z ≤ b) (hi_i : i < 12) (hf : f_X0_takeFromDeposit v i p2 p3 = some (r0, v')) : xM l yX0_takeFromDeposit wsX0_takeFromDeposit 2 44 G z [.ref b, .ref (b + (6 + 2 * i)), .int p2, .int p3] (fun H => PX G b 37 (bkE G b) v H) (some (.int r0)) (fun H H1 => PX G b 37 (bkE G b) v' H1 ∧ XF (fun q => (b ≤ q ∧ q < b + 37)) H H1) := by
  refine xM.of (cc := cX0_takeFromDeposit) (maxL := 5) (ret := (some .int)) (by decide +kernel) rfl (Nat.le_of_ble_eq_true rfl) ?_
  intro p e s m args below meth c ls Q hQ S hr hlocks hK hP hl
  obtain ⟨hx, hb, hml, hown, hts⟩ := id S
  have h_bk := hP
  have hL : ∀ q ∈ ([] : List Loc), z ≤ q.base := fun q h => absurd h List.not_mem_nil
  have hF : XF (fun q => (b ≤ q ∧ q < b + 37)) s.heap s.heap := XF.rf
  have hl : lv_has ls 5 [(0, .ref b), (1, .ref (b + (6 + 2 * i))), (2, .int p2), (3, .int p3)] := hl
  have in0 : ∀ w ∈ u_ws RX0 TX0 9, w ∈ wsX0_takeFromDeposit := fun _ h => List.mem_cons_of_mem _ (List.mem_append_right _ h)
  have in1 : ∀ w ∈ u_ws RX1 TX1 15, w ∈ wsX0_takeFromDeposit := fun _ h => List.mem_cons_of_mem _ (List.mem_append_left _ (List.mem_append_right _ h))
  unfold f_X0_takeFromDeposit at hf
  refine lv_iload_n hx hb dX0_takeFromDeposit_0 rfl (lv_at hl 3 rfl) ?_
  refine lv_if_lt (tgt := 10) hx hb dX0_takeFromDeposit_1 (by decide) (fun c_1 => ?_) (fun c_1 => ?_)
  · have hf := (if_pos c_1).symm.trans hf
    refine lv_iconst (v := 0) hx hb dX0_takeFromDeposit_10 (by decide) ?_
    obtain ⟨q0, qq0⟩ := Prod.mk.inj (Option.some.inj hf)
    have q1 := qq0
    subst r0
    subst v'
    subst hQ
    refine x_iret (post := (fun H H1 => PX G b 37 (bkE G b) v H1 ∧ XF (fun q => (b ≤ q ∧ q < b + 37)) H H1)) S hr hlocks rfl ?_ hL dX0_takeFromDeposit_11
    exact ⟨h_bk, hF⟩
  · have hf := (if_neg c_1).symm.trans hf
    refine lv_iload_n hx hb dX0_takeFromDeposit_4 rfl (lv_at hl 3 rfl) ?_
    refine lv_bipush (v := 9) hx hb dX0_takeFromDeposit_5 (by decide) ?_
    refine lv_icmp_lt (tgt := 12) hx hb dX0_takeFromDeposit_7 (by decide) (fun c_2 => ?_) (fun c_2 => ?_)
    · have hf := (if_pos c_2).symm.trans hf
      refine lv_iload_n hx hb dX0_takeFromDeposit_12 rfl (lv_at hl 2 rfl) ?_
      refine lv_aload_n hx hb dX0_takeFromDeposit_13 rfl (lv_at hl 1 rfl) ?_
      refine x_get S hK h_bk (6 + 2 * i) (by omega) rfl (bkE_hire G b i hi_i _) rfl in1 11 (by decide) (xm 1 rfl) (x := .int (v (6 + 2 * i) 11)) rfl dX0_takeFromDeposit_14 ?_
      refine x_min S (xm 2 rfl) (xm 3 rfl) (xm 4 rfl) (xm 5 rfl) hl.1 (Nat.le_of_ble_eq_true rfl) (Nat.le_of_ble_eq_true rfl) (Nat.zero_le _) (Nat.zero_le _) dX0_takeFromDeposit_17 ?_
      obtain ⟨x_3, ex_3, hf⟩ := xl_some hf
      refine x_top ex_3 ?_
      refine lv_istore (lv' := [(4, .int x_3), (0, .ref b), (1, .ref (b + (6 + 2 * i))), (2, .int p2), (3, .int p3)]) hx hb dX0_takeFromDeposit_20 hl (by decide) rfl (fun ls hl => ?_)
      refine lv_aload_n hx hb dX0_takeFromDeposit_22 rfl (lv_at hl 2 rfl) ?_
      refine lv_dup hx hb dX0_takeFromDeposit_23 rfl ?_
      refine x_get S hK h_bk (6 + 2 * i) (by omega) rfl (bkE_hire G b i hi_i _) rfl in1 11 (by decide) (xm 1 rfl) (x := .int (v (6 + 2 * i) 11)) rfl dX0_takeFromDeposit_24 ?_
      refine lv_iload hx hb dX0_takeFromDeposit_27 (lv_at hl 0 rfl) ?_
      refine lv_isub hx hb dX0_takeFromDeposit_29 ?_
      obtain ⟨v_4, ev_4, hf⟩ := xl_some hf
      refine x_put S hK h_bk hz_bk hL (6 + 2 * i) (by omega) rfl (bkE_hire G b i hi_i _) rfl in1 tyX1 tyX1_ok nmX1 11 (by decide) (xm 1 rfl) rfl (vp_nar_int _) rfl (Nat.le_of_ble_eq_true rfl) (bkE_hire G b i hi_i _) ev_4 dX0_takeFromDeposit_30 (fun H1 locs hL h_bk hfr => ?_)
      have hF := hF.step hfr (fun q h => by (try dsimp only at h ⊢); omega)
      refine lv_aload_n hx hb dX0_takeFromDeposit_33 rfl (lv_at hl 1 rfl) ?_
      refine x_get S hK h_bk 0 (by decide) rfl rfl rfl in0 4 (by decide) (xm 6 rfl) (x := .ref (b + 2)) rfl dX0_takeFromDeposit_34 ?_
      refine lv_iconst (v := 3) hx hb dX0_takeFromDeposit_37 (by decide) ?_
      refine lv_dup2_11 hx hb dX0_takeFromDeposit_38 rfl rfl ?_
      refine x_iald S hK h_bk 2 (by decide) rfl rfl 3 (by decide) (by decide) dX0_takeFromDeposit_39 ?_
      refine lv_iload hx hb dX0_takeFromDeposit_40 (lv_at hl 0 rfl) ?_
      refine lv_isub hx hb dX0_takeFromDeposit_42 ?_
      obtain ⟨v_5, ev_5, hf⟩ := xl_some hf
      refine x_iast S hK h_bk hz_bk hL 2 (by decide) rfl rfl 3 (by decide) (by decide) rfl ev_5 dX0_takeFromDeposit_43 (fun H1 locs hL h_bk hfr => ?_)
      have hF := hF.step hfr (fun q h => by (try dsimp only at h ⊢); omega)
      refine lv_aload_n hx hb dX0_takeFromDeposit_44 rfl (lv_at hl 1 rfl) ?_
      refine x_get S hK h_bk 0 (by decide) rfl rfl rfl in0 4 (by decide) (xm 6 rfl) (x := .ref (b + 2)) rfl dX0_takeFromDeposit_45 ?_
      refine lv_iload_n hx hb dX0_takeFromDeposit_48 rfl (lv_at hl 4 rfl) ?_
      refine lv_dup2_11 hx hb dX0_takeFromDeposit_49 rfl rfl ?_
      obtain ⟨g_6, hf⟩ := xg_some hf
      refine x_iald S hK h_bk 2 (by decide) rfl rfl p3.toNatClampNeg rfl g_6 dX0_takeFromDeposit_50 ?_
      refine lv_iload hx hb dX0_takeFromDeposit_51 (lv_at hl 0 rfl) ?_
      refine lv_iadd hx hb dX0_takeFromDeposit_53 ?_
      obtain ⟨g_7, hf⟩ := xg_some hf
      obtain ⟨v_8, ev_8, hf⟩ := xl_some hf
      refine x_iast S hK h_bk hz_bk hL 2 (by decide) rfl rfl p3.toNatClampNeg rfl g_7 rfl ev_8 dX0_takeFromDeposit_54 (fun H1 locs hL h_bk hfr => ?_)
      have hF := hF.step hfr (fun q h => by (try dsimp only at h ⊢); omega)
      refine lv_aload_n hx hb dX0_takeFromDeposit_55 rfl (lv_at hl 1 rfl) ?_
      refine lv_aload_n hx hb dX0_takeFromDeposit_56 rfl (lv_at hl 2 rfl) ?_
      refine x_get S hK h_bk (6 + 2 * i) (by omega) rfl (bkE_hire G b i hi_i _) rfl in1 1 (by decide) (xm 7 rfl) (x := .int (v_8 (6 + 2 * i) 1)) rfl dX0_takeFromDeposit_57 ?_
      refine lv_iload_n hx hb dX0_takeFromDeposit_60 rfl (lv_at hl 3 rfl) ?_
      refine lv_iload hx hb dX0_takeFromDeposit_61 (lv_at hl 0 rfl) ?_
      refine lv_isub hx hb dX0_takeFromDeposit_63 ?_
      refine lv_bipush (v := 7) hx hb dX0_takeFromDeposit_64 (by decide) ?_
      obtain ⟨v_9, e_10, hf⟩ := xb_some hf
      refine x_callVv (As := [.int (v_8 (6 + 2 * i) 1), .int (p2 - x_3), .int 7]) (rest := []) S hK (c_X0_charge l G z b v_8 (v_8 (6 + 2 * i) 1) (p2 - x_3) 7 v_9 (by omega) e_10) gX0_takeFromDeposit_X0_charge rfl 3 (by decide +kernel) rfl ⟨Nat.le_of_ble_eq_true rfl, Nat.le_of_ble_eq_true rfl⟩ h_bk 0 (by decide) rfl rfl rfl h_bk hl.1 rfl (Nat.le_of_ble_eq_true rfl) dX0_takeFromDeposit_66 hL ⟨Nat.zero_le _, Nat.zero_le _⟩ (fun H1 locs hL hpost => ?_)
      obtain ⟨n_bk, hfr⟩ := hpost
      have h_bk := n_bk
      have hF := hF.step hfr (fun q h => by (try dsimp only at h ⊢); omega)
      refine lv_iload hx hb dX0_takeFromDeposit_69 (lv_at hl 0 rfl) ?_
      obtain ⟨q0, qq0⟩ := Prod.mk.inj (Option.some.inj hf)
      have q1 := qq0
      subst r0
      subst v'
      subst hQ
      refine x_iret (post := (fun H H1 => PX G b 37 (bkE G b) v_9 H1 ∧ XF (fun q => (b ≤ q ∧ q < b + 37)) H H1)) S hr hlocks rfl ?_ hL dX0_takeFromDeposit_71
      exact ⟨h_bk, hF⟩
    · have hf := (if_neg c_2).symm.trans hf
      refine lv_iconst (v := 0) hx hb dX0_takeFromDeposit_10 (by decide) ?_
      obtain ⟨q0, qq0⟩ := Prod.mk.inj (Option.some.inj hf)
      have q1 := qq0
      subst r0
      subst v'
      subst hQ
      refine x_iret (post := (fun H H1 => PX G b 37 (bkE G b) v H1 ∧ XF (fun q => (b ≤ q ∧ q < b + 37)) H H1)) S hr hlocks rfl ?_ hL dX0_takeFromDeposit_11
      exact ⟨h_bk, hF⟩
set_option maxRecDepth 100000 in
set_option maxHeartbeats 4000000 in
theorem c_X0_takeLateFees (l : Launch) (G : xG) (z : Nat) (b : Nat) (v : xV) (v' : xV) (hz_bk : z ≤ b) (hf : f_X0_takeLateFees v = some v') : xM l yX0_takeLateFees wsX0_takeLateFees 3 68 G z [.ref b] (fun H => PX G b 37 (bkE G b) v H) none (fun H H1 => PX G b 37 (bkE G b) v' H1 ∧ XF (fun q => (b ≤ q ∧ q < b + 37)) H H1) := by
  refine xM.of (cc := cX0_takeLateFees) (maxL := 6) (ret := none) (by decide +kernel) rfl (Nat.le_of_ble_eq_true rfl) ?_
  intro p e s m args below meth c ls Q hQ S hr hlocks hK hP hl
  obtain ⟨hx, hb, hml, hown, hts⟩ := id S
  have h_bk := hP
  have hL : ∀ q ∈ ([] : List Loc), z ≤ q.base := fun q h => absurd h List.not_mem_nil
  have hF : XF (fun q => (b ≤ q ∧ q < b + 37)) s.heap s.heap := XF.rf
  have hl : lv_has ls 6 [(0, .ref b)] := hl
  have in0 : ∀ w ∈ u_ws RX0 TX0 9, w ∈ wsX0_takeLateFees := fun _ h => List.mem_cons_of_mem _ (List.mem_append_left _ (List.mem_append_left _ (List.mem_append_right _ h)))
  have in3 : ∀ w ∈ u_ws RX3 TX3 3, w ∈ wsX0_takeLateFees := fun _ h => List.mem_cons_of_mem _ (List.mem_append_left _ (List.mem_append_right _ h))
  unfold f_X0_takeLateFees at hf
  refine lv_aload_n hx hb dX0_takeLateFees_0 rfl (lv_at hl 0 rfl) ?_
  refine x_get S hK h_bk 0 (by decide) rfl rfl rfl in0 8 (by decide) (xm 1 rfl) (x := .ref (b + 30)) rfl dX0_takeLateFees_1 ?_
  refine lv_astore_n (lv' := [(1, .ref (b + 30)), (0, .ref b)]) hx hb dX0_takeLateFees_4 rfl hl (by decide) rfl (fun ls hl => ?_)
  refine lv_aload_n hx hb dX0_takeLateFees_5 rfl (lv_at hl 0 rfl) ?_
  refine x_alen S hK h_bk 30 (by decide) rfl rfl 3 rfl (r := 6) rfl dX0_takeLateFees_6 ?_
  refine lv_istore_n (lv' := [(2, .int 6), (1, .ref (b + 30)), (0, .ref b)]) hx hb dX0_takeLateFees_7 rfl hl (by decide) rfl (fun ls hl => ?_)
  refine lv_iconst (v := 0) hx hb dX0_takeLateFees_8 (by decide) ?_
  refine lv_istore_n (lv' := [(3, .int 0), (2, .int 6), (1, .ref (b + 30)), (0, .ref b)]) hx hb dX0_takeLateFees_9 rfl hl (by decide) rfl (fun ls hl => ?_)
  have lp_10 : ∀ (K_10 : Int32 → xV → Option xV), (∀ (x_1 : Int32) (v_2 : xV) (H : Heap) (locs : List Loc) (ls : Array Slot), (∀ q ∈ locs, z ≤ q.base) → PX G b 37 (bkE G b) v_2 H → XF (fun q => (b ≤ q ∧ q < b + 37)) s.heap H → lv_has ls 6 [] → K_10 x_1 v_2 = some v' → W p l e { frames := 3, cells := 0, slots := 0, locals := 68 } s m args below meth c H locs 0 0 Q (F0 m 69 ls [])) → ∀ (n : Nat) (x_1 : Int32) (v_2 : xV) (H : Heap) (locs : List Loc) (ls : Array Slot), (∀ q ∈ locs, z ≤ q.base) → PX G b 37 (bkE G b) v_2 H → XF (fun q => (b ≤ q ∧ q < b + 37)) s.heap H → lv_has ls 6 [(0, .ref b), (1, .ref (b + 30)), (2, .int 6), (3, .int x_1)] → L_X0_takeLateFees_10 K_10 n x_1 v_2 = some v' → W p l e { frames := 3, cells := 0, slots := 0, locals := 68 } s m args below meth c H locs 0 0 Q (F0 m 10 ls []) := by
    intro K_10 hK_10 n
    induction n with
    | zero =>
      intro x_1 v_2 H locs ls hL h_bk hF hl hf
      cases hf
    | succ n ih_10 =>
      intro x_1 v_2 H locs ls hL h_bk hF hl hf
      unfold L_X0_takeLateFees_10 at hf
      refine lv_iload_n hx hb dX0_takeLateFees_10 rfl (lv_at hl 3 rfl) ?_
      refine lv_iload_n hx hb dX0_takeLateFees_11 rfl (lv_at hl 2 rfl) ?_
      refine lv_icmp_ge (tgt := 69) hx hb dX0_takeLateFees_12 (by decide) (fun c_3 => ?_) (fun c_3 => ?_)
      · have hf := (if_pos c_3).symm.trans hf
        exact hK_10 x_1 v_2 _ _ _ hL h_bk hF (lv_sub hl [] rfl) hf
      · have hf := (if_neg c_3).symm.trans hf
        refine lv_aload_n hx hb dX0_takeLateFees_15 rfl (lv_at hl 1 rfl) ?_
        refine lv_iload_n hx hb dX0_takeLateFees_16 rfl (lv_at hl 3 rfl) ?_
        obtain ⟨g_4, hf⟩ := xg_some hf
        obtain ⟨i_5, ei_5, hf⟩ := xl_some hf
        have hi_i_5 : i_5 < 6 := by rw [ei_5]; exact xin_lt g_4
        refine x_aald S hK h_bk 30 (by decide) rfl rfl 3 rfl i_5 ei_5.symm g_4 (r := (b + (31 + i_5))) rfl dX0_takeLateFees_17 ?_
        refine lv_astore (lv' := [(4, .ref (b + (31 + i_5))), (0, .ref b), (1, .ref (b + 30)), (2, .int 6), (3, .int x_1)]) hx hb dX0_takeLateFees_18 hl (by decide) rfl (fun ls hl => ?_)
        refine lv_aload_n hx hb dX0_takeLateFees_20 rfl (lv_at hl 1 rfl) ?_
        refine lv_aload hx hb dX0_takeLateFees_21 (lv_at hl 0 rfl) ?_
        refine x_get S hK h_bk (31 + i_5) (by omega) rfl (bkE_key G b i_5 _) rfl in3 1 (by decide) (xm 2 rfl) (x := .int (v_2 (31 + i_5) 1)) rfl dX0_takeLateFees_23 ?_
        obtain ⟨o_6, e_7, hf⟩ := xb_some hf
        refine x_callVi (As := [.int (v_2 (31 + i_5) 1)]) (rest := []) S hK (c_X0_hireAt l G z b v_2 (v_2 (31 + i_5) 1) o_6 e_7) gX0_takeLateFees_X0_hireAt rfl 1 (by decide +kernel) rfl ⟨Nat.le_of_ble_eq_true rfl, Nat.le_of_ble_eq_true rfl⟩ h_bk 0 (by decide) rfl rfl rfl h_bk hl.1 rfl (Nat.le_of_ble_eq_true rfl) dX0_takeLateFees_26 hL ⟨Nat.zero_le _, Nat.zero_le _⟩ (fun H1 locs hL hpost => ?_)
        subst hpost
        obtain _ | i_8 := o_6
        · have hf := (xo_n _ _).symm.trans hf
          show W _ _ _ _ _ _ _ _ _ _ _ _ _ _ _ (F0 _ _ _ (.null :: _))
          refine lv_astoreN (lv' := [(5, .null), (4, .ref (b + (31 + i_5))), (0, .ref b), (1, .ref (b + 30)), (2, .int 6), (3, .int x_1)]) hx hb dX0_takeLateFees_29 hl (by decide) rfl (fun ls hl => ?_)
          refine lv_aloadN hx hb dX0_takeLateFees_31 (lv_at hl 0 rfl) ?_
          refine lv_ifnullN (tgt := 63) hx hb dX0_takeLateFees_33 (by decide) ?_
          obtain ⟨x_9, ex_9, hf⟩ := xl_some hf
          refine lv_iinc (v := x_9) (lv' := [(3, .int x_9), (5, .null), (4, .ref (b + (31 + i_5))), (0, .ref b), (1, .ref (b + 30)), (2, .int 6)]) hx hb dX0_takeLateFees_63 hl (k := 5) rfl (by rw [ex_9]; rfl) (by decide) rfl (fun ls hl => ?_)
          refine lv_goto (tgt := 10) hx hb dX0_takeLateFees_66 (by decide) ?_
          exact ih_10 x_9 v_2 _ _ _ hL h_bk hF (lv_sub hl [3, 4, 5, 0] rfl) hf
        · have hf := (xo_s _ _ _).symm.trans hf
          obtain ⟨hi_i_8, hf⟩ := xg_some hf
          show W _ _ _ _ _ _ _ _ _ _ _ _ _ _ _ (F0 _ _ _ (.ref (b + (6 + 2 * i_8)) :: _))
          refine lv_astore (lv' := [(5, .ref (b + (6 + 2 * i_8))), (4, .ref (b + (31 + i_5))), (0, .ref b), (1, .ref (b + 30)), (2, .int 6), (3, .int x_1)]) hx hb dX0_takeLateFees_29 hl (by decide) rfl (fun ls hl => ?_)
          refine lv_aload hx hb dX0_takeLateFees_31 (lv_at hl 0 rfl) ?_
          refine lv_ifnull hx hb dX0_takeLateFees_33 ?_
          refine lv_aload hx hb dX0_takeLateFees_36 (lv_at hl 1 rfl) ?_
          refine lv_aload_n hx hb dX0_takeLateFees_38 rfl (lv_at hl 2 rfl) ?_
          refine x_get S hK h_bk 0 (by decide) rfl rfl rfl in0 0 (by decide) (xm 3 rfl) (x := .int (v_2 0 0)) rfl dX0_takeLateFees_39 ?_
          obtain ⟨r_10, e_11, hf⟩ := xb_some hf
          refine x_callVi (As := [.int (v_2 0 0)]) (rest := []) S hK (c_X3_daysLate l G z b v_2 i_5 (v_2 0 0) r_10 hi_i_5 e_11) gX0_takeLateFees_X3_daysLate rfl 1 (by decide +kernel) rfl ⟨Nat.le_of_ble_eq_true rfl, Nat.le_of_ble_eq_true rfl⟩ h_bk (31 + i_5) (by omega) rfl (bkE_key G b i_5 _) rfl h_bk hl.1 rfl (Nat.le_of_ble_eq_true rfl) dX0_takeLateFees_42 hL ⟨Nat.zero_le _, Nat.zero_le _⟩ (fun H1 locs hL hpost => ?_)
          subst hpost
          refine lv_if_le (tgt := 63) hx hb dX0_takeLateFees_45 (by decide) (fun c_12 => ?_) (fun c_12 => ?_)
          · have hf := (if_pos c_12).symm.trans hf
            obtain ⟨x_13, ex_13, hf⟩ := xl_some hf
            refine lv_iinc (v := x_13) (lv' := [(3, .int x_13), (5, .ref (b + (6 + 2 * i_8))), (4, .ref (b + (31 + i_5))), (0, .ref b), (1, .ref (b + 30)), (2, .int 6)]) hx hb dX0_takeLateFees_63 hl (k := 5) rfl (by rw [ex_13]; rfl) (by decide) rfl (fun ls hl => ?_)
            refine lv_goto (tgt := 10) hx hb dX0_takeLateFees_66 (by decide) ?_
            exact ih_10 x_13 v_2 _ _ _ hL h_bk hF (lv_sub hl [3, 4, 5, 0] rfl) hf
          · have hf := (if_neg c_12).symm.trans hf
            refine lv_aload_n hx hb dX0_takeLateFees_48 rfl (lv_at hl 2 rfl) ?_
            refine lv_aload hx hb dX0_takeLateFees_49 (lv_at hl 0 rfl) ?_
            refine lv_aload_n hx hb dX0_takeLateFees_51 rfl (lv_at hl 2 rfl) ?_
            refine x_get S hK h_bk 0 (by decide) rfl rfl rfl in0 3 (by decide) (xm 4 rfl) (x := .ref (b + 1)) rfl dX0_takeLateFees_52 ?_
            refine lv_bipush (v := 6) hx hb dX0_takeLateFees_55 (by decide) ?_
            refine x_iald S hK h_bk 1 (by decide) rfl rfl 6 (by decide) (by decide) dX0_takeLateFees_57 ?_
            refine lv_iconst (v := 5) hx hb dX0_takeLateFees_58 (by decide) ?_
            obtain ⟨r_14, v_15, e_16, hf⟩ := xb2_some hf
            refine x_callVi (As := [.ref (b + (6 + 2 * i_8)), .int (v_2 1 6), .int 5]) (rest := []) S hK (c_X0_takeFromDeposit l G z b v_2 i_8 (v_2 1 6) 5 r_14 v_15 (by omega) hi_i_8 e_16) gX0_takeLateFees_X0_takeFromDeposit rfl 3 (by decide +kernel) rfl ⟨Nat.le_of_ble_eq_true rfl, Nat.le_of_ble_eq_true rfl⟩ h_bk 0 (by decide) rfl rfl rfl h_bk hl.1 rfl (Nat.le_of_ble_eq_true rfl) dX0_takeLateFees_59 hL ⟨Nat.zero_le _, Nat.zero_le _⟩ (fun H1 locs hL hpost => ?_)
            obtain ⟨n_bk, hfr⟩ := hpost
            have h_bk := n_bk
            have hF := hF.step hfr (fun q h => by (try dsimp only at h ⊢); omega)
            refine lv_pop hx hb dX0_takeLateFees_62 rfl ?_
            obtain ⟨x_17, ex_17, hf⟩ := xl_some hf
            refine lv_iinc (v := x_17) (lv' := [(3, .int x_17), (5, .ref (b + (6 + 2 * i_8))), (4, .ref (b + (31 + i_5))), (0, .ref b), (1, .ref (b + 30)), (2, .int 6)]) hx hb dX0_takeLateFees_63 hl (k := 5) rfl (by rw [ex_17]; rfl) (by decide) rfl (fun ls hl => ?_)
            refine lv_goto (tgt := 10) hx hb dX0_takeLateFees_66 (by decide) ?_
            exact ih_10 x_17 v_15 _ _ _ hL h_bk hF (lv_sub hl [3, 4, 5, 0] rfl) hf
  refine lp_10 _ (fun x_18 v_19 H locs ls hL h_bk hF hl hf => ?_) 100000 0 v _ _ _ hL h_bk hF (lv_sub hl [3, 2, 1, 0] rfl) hf
  have q0 := Option.some.inj hf
  subst v'
  subst hQ
  refine x_vret (post := (fun H H1 => PX G b 37 (bkE G b) v_19 H1 ∧ XF (fun q => (b ≤ q ∧ q < b + 37)) H H1)) S hr hlocks rfl ?_ hL dX0_takeLateFees_69
  exact ⟨h_bk, hF⟩
set_option maxRecDepth 100000 in
set_option maxHeartbeats 4000000 in
theorem c_X0_passDay (l : Launch) (G : xG) (z : Nat) (b : Nat) (v : xV) (r0 : Int32) (v' : xV) (hz_bk : z ≤ b) (hf : f_X0_passDay v = some (r0, v')) : xM l yX0_passDay wsX0_passDay 4 93 G z [.ref b] (fun H => PX G b 37 (bkE G b) v H) (some (.int r0)) (fun H H1 => PX G b 37 (bkE G b) v' H1 ∧ XF (fun q => (b ≤ q ∧ q < b + 37)) H H1) := by
  refine xM.of (cc := cX0_passDay) (maxL := 7) (ret := (some .int)) (by decide +kernel) rfl (Nat.le_of_ble_eq_true rfl) ?_
  intro p e s m args below meth c ls Q hQ S hr hlocks hK hP hl
  obtain ⟨hx, hb, hml, hown, hts⟩ := id S
  have h_bk := hP
  have hL : ∀ q ∈ ([] : List Loc), z ≤ q.base := fun q h => absurd h List.not_mem_nil
  have hF : XF (fun q => (b ≤ q ∧ q < b + 37)) s.heap s.heap := XF.rf
  have hl : lv_has ls 7 [(0, .ref b)] := hl
  have in0 : ∀ w ∈ u_ws RX0 TX0 9, w ∈ wsX0_passDay := fun _ h => List.mem_cons_of_mem _ (List.mem_append_left _ (List.mem_append_left _ (List.mem_append_right _ h)))
  have in1 : ∀ w ∈ u_ws RX1 TX1 15, w ∈ wsX0_passDay := fun _ h => List.mem_cons_of_mem _ (List.mem_append_left _ (List.mem_append_right _ h))
  unfold f_X0_passDay at hf
  refine lv_iconst (v := 0) hx hb dX0_passDay_0 (by decide) ?_
  refine lv_istore_n (lv' := [(1, .int 0), (0, .ref b)]) hx hb dX0_passDay_1 rfl hl (by decide) rfl (fun ls hl => ?_)
  refine lv_aload_n hx hb dX0_passDay_2 rfl (lv_at hl 1 rfl) ?_
  refine x_get S hK h_bk 0 (by decide) rfl rfl rfl in0 7 (by decide) (xm 1 rfl) (x := .ref (b + 5)) rfl dX0_passDay_3 ?_
  refine lv_astore_n (lv' := [(2, .ref (b + 5)), (1, .int 0), (0, .ref b)]) hx hb dX0_passDay_6 rfl hl (by decide) rfl (fun ls hl => ?_)
  refine lv_aload_n hx hb dX0_passDay_7 rfl (lv_at hl 0 rfl) ?_
  refine x_alen S hK h_bk 5 (by decide) rfl rfl 2 rfl (r := 12) rfl dX0_passDay_8 ?_
  refine lv_istore_n (lv' := [(3, .int 12), (2, .ref (b + 5)), (1, .int 0), (0, .ref b)]) hx hb dX0_passDay_9 rfl hl (by decide) rfl (fun ls hl => ?_)
  refine lv_iconst (v := 0) hx hb dX0_passDay_10 (by decide) ?_
  refine lv_istore (lv' := [(4, .int 0), (3, .int 12), (2, .ref (b + 5)), (1, .int 0), (0, .ref b)]) hx hb dX0_passDay_11 hl (by decide) rfl (fun ls hl => ?_)
  have lp_13 : ∀ (K_13 : Int32 → Int32 → xV → Option (Int32 × xV)), (∀ (x_1 : Int32) (x_2 : Int32) (v_3 : xV) (H : Heap) (locs : List Loc) (ls : Array Slot), (∀ q ∈ locs, z ≤ q.base) → PX G b 37 (bkE G b) v_3 H → XF (fun q => (b ≤ q ∧ q < b + 37)) s.heap H → lv_has ls 7 [(0, .ref b), (1, .int x_1)] → K_13 x_1 x_2 v_3 = some (r0, v') → W p l e { frames := 4, cells := 0, slots := 0, locals := 93 } s m args below meth c H locs 0 0 Q (F0 m 65 ls [])) → ∀ (n : Nat) (x_1 : Int32) (x_2 : Int32) (v_3 : xV) (H : Heap) (locs : List Loc) (ls : Array Slot), (∀ q ∈ locs, z ≤ q.base) → PX G b 37 (bkE G b) v_3 H → XF (fun q => (b ≤ q ∧ q < b + 37)) s.heap H → lv_has ls 7 [(0, .ref b), (1, .int x_1), (2, .ref (b + 5)), (3, .int 12), (4, .int x_2)] → L_X0_passDay_13 K_13 n x_1 x_2 v_3 = some (r0, v') → W p l e { frames := 4, cells := 0, slots := 0, locals := 93 } s m args below meth c H locs 0 0 Q (F0 m 13 ls []) := by
    intro K_13 hK_13 n
    induction n with
    | zero =>
      intro x_1 x_2 v_3 H locs ls hL h_bk hF hl hf
      cases hf
    | succ n ih_13 =>
      intro x_1 x_2 v_3 H locs ls hL h_bk hF hl hf
      unfold L_X0_passDay_13 at hf
      refine lv_iload hx hb dX0_passDay_13 (lv_at hl 4 rfl) ?_
      refine lv_iload_n hx hb dX0_passDay_15 rfl (lv_at hl 3 rfl) ?_
      refine lv_icmp_ge (tgt := 65) hx hb dX0_passDay_16 (by decide) (fun c_4 => ?_) (fun c_4 => ?_)
      · have hf := (if_pos c_4).symm.trans hf
        exact hK_13 x_1 x_2 v_3 _ _ _ hL h_bk hF (lv_sub hl [0, 1] rfl) hf
      · have hf := (if_neg c_4).symm.trans hf
        refine lv_aload_n hx hb dX0_passDay_19 rfl (lv_at hl 2 rfl) ?_
        refine lv_iload hx hb dX0_passDay_20 (lv_at hl 4 rfl) ?_
        obtain ⟨g_5, hf⟩ := xg_some hf
        obtain ⟨i_6, ei_6, hf⟩ := xl_some hf
        have hi_i_6 : i_6 < 12 := by rw [ei_6]; exact xin_lt g_5
        refine x_aald S hK h_bk 5 (by decide) rfl rfl 2 rfl i_6 ei_6.symm g_5 (r := (b + (6 + 2 * i_6))) rfl dX0_passDay_22 ?_
        refine lv_astore (lv' := [(5, .ref (b + (6 + 2 * i_6))), (0, .ref b), (1, .int x_1), (2, .ref (b + 5)), (3, .int 12), (4, .int x_2)]) hx hb dX0_passDay_23 hl (by decide) rfl (fun ls hl => ?_)
        refine lv_aload hx hb dX0_passDay_25 (lv_at hl 0 rfl) ?_
        refine lv_aload_n hx hb dX0_passDay_27 rfl (lv_at hl 1 rfl) ?_
        refine x_get S hK h_bk 0 (by decide) rfl rfl rfl in0 0 (by decide) (xm 2 rfl) (x := .int (v_3 0 0)) rfl dX0_passDay_28 ?_
        obtain ⟨r_7, e_8, hf⟩ := xb_some hf
        refine x_callVi (As := [.int (v_3 0 0)]) (rest := []) S hK (c_X1_indexOn l G z b v_3 i_6 (v_3 0 0) r_7 hi_i_6 e_8) gX0_passDay_X1_indexOn rfl 1 (by decide +kernel) rfl ⟨Nat.le_of_ble_eq_true rfl, Nat.le_of_ble_eq_true rfl⟩ h_bk (6 + 2 * i_6) (by omega) rfl (bkE_hire G b i_6 hi_i_6 _) rfl h_bk hl.1 rfl (Nat.le_of_ble_eq_true rfl) dX0_passDay_31 hL ⟨Nat.zero_le _, Nat.zero_le _⟩ (fun H1 locs hL hpost => ?_)
        subst hpost
        refine lv_istore (lv' := [(6, .int r_7), (5, .ref (b + (6 + 2 * i_6))), (0, .ref b), (1, .int x_1), (2, .ref (b + 5)), (3, .int 12), (4, .int x_2)]) hx hb dX0_passDay_34 hl (by decide) rfl (fun ls hl => ?_)
        refine lv_iload hx hb dX0_passDay_36 (lv_at hl 0 rfl) ?_
        refine lv_iconst (v := (-1)) hx hb dX0_passDay_38 (by decide) ?_
        refine lv_icmp_eq (tgt := 59) hx hb dX0_passDay_39 (by decide) (fun c_9 => ?_) (fun c_9 => ?_)
        · have hf := (if_pos c_9).symm.trans hf
          obtain ⟨x_10, ex_10, hf⟩ := xl_some hf
          refine lv_iinc (v := x_10) (lv' := [(4, .int x_10), (6, .int r_7), (5, .ref (b + (6 + 2 * i_6))), (0, .ref b), (1, .int x_1), (2, .ref (b + 5)), (3, .int 12)]) hx hb dX0_passDay_59 hl (k := 6) rfl (by rw [ex_10]; rfl) (by decide) rfl (fun ls hl => ?_)
          refine lv_goto (tgt := 13) hx hb dX0_passDay_62 (by decide) ?_
          exact ih_13 x_1 x_10 v_3 _ _ _ hL h_bk hF (lv_sub hl [3, 4, 5, 6, 0] rfl) hf
        · have hf := (if_neg c_9).symm.trans hf
          refine lv_aload hx hb dX0_passDay_42 (lv_at hl 1 rfl) ?_
          refine lv_dup hx hb dX0_passDay_44 rfl ?_
          refine x_get S hK h_bk (6 + 2 * i_6) (by omega) rfl (bkE_hire G b i_6 hi_i_6 _) rfl in1 9 (by decide) (xm 3 rfl) (x := .int (v_3 (6 + 2 * i_6) 9)) rfl dX0_passDay_45 ?_
          refine lv_iconst (v := 1) hx hb dX0_passDay_48 (by decide) ?_
          refine lv_iload hx hb dX0_passDay_49 (lv_at hl 0 rfl) ?_
          refine lv_ishl hx hb dX0_passDay_51 ?_
          refine lv_ior hx hb dX0_passDay_52 ?_
          obtain ⟨v_11, ev_11, hf⟩ := xl_some hf
          refine x_put S hK h_bk hz_bk hL (6 + 2 * i_6) (by omega) rfl (bkE_hire G b i_6 hi_i_6 _) rfl in1 tyX1 tyX1_ok nmX1 9 (by decide) (xm 3 rfl) rfl (vp_nar_int _) rfl (Nat.le_of_ble_eq_true rfl) (bkE_hire G b i_6 hi_i_6 _) ev_11 dX0_passDay_53 (fun H1 locs hL h_bk hfr => ?_)
          have hF := hF.step hfr (fun q h => by (try dsimp only at h ⊢); omega)
          obtain ⟨x_12, ex_12, hf⟩ := xl_some hf
          refine lv_iinc (v := x_12) (lv' := [(1, .int x_12), (6, .int r_7), (5, .ref (b + (6 + 2 * i_6))), (0, .ref b), (2, .ref (b + 5)), (3, .int 12), (4, .int x_2)]) hx hb dX0_passDay_56 hl (k := 3) rfl (by rw [ex_12]; rfl) (by decide) rfl (fun ls hl => ?_)
          obtain ⟨x_13, ex_13, hf⟩ := xl_some hf
          refine lv_iinc (v := x_13) (lv' := [(4, .int x_13), (1, .int x_12), (6, .int r_7), (5, .ref (b + (6 + 2 * i_6))), (0, .ref b), (2, .ref (b + 5)), (3, .int 12)]) hx hb dX0_passDay_59 hl (k := 6) rfl (by rw [ex_13]; rfl) (by decide) rfl (fun ls hl => ?_)
          refine lv_goto (tgt := 13) hx hb dX0_passDay_62 (by decide) ?_
          exact ih_13 x_12 x_13 v_11 _ _ _ hL h_bk hF (lv_sub hl [4, 1, 5, 6, 0] rfl) hf
  refine lp_13 _ (fun x_14 x_15 v_16 H locs ls hL h_bk hF hl hf => ?_) 100000 0 0 v _ _ _ hL h_bk hF (lv_sub hl [4, 3, 2, 1, 0] rfl) hf
  refine lv_aload_n hx hb dX0_passDay_65 rfl (lv_at hl 0 rfl) ?_
  refine lv_dup hx hb dX0_passDay_66 rfl ?_
  refine x_get S hK h_bk 0 (by decide) rfl rfl rfl in0 0 (by decide) (xm 2 rfl) (x := .int (v_16 0 0)) rfl dX0_passDay_67 ?_
  refine lv_iconst (v := 1) hx hb dX0_passDay_70 (by decide) ?_
  refine lv_iadd hx hb dX0_passDay_71 ?_
  obtain ⟨v_17, ev_17, hf⟩ := xl_some hf
  refine x_put S hK h_bk hz_bk hL 0 (by decide) rfl rfl rfl in0 tyX0 tyX0_ok nmX0 0 (by decide) (xm 2 rfl) rfl (vp_nar_int _) rfl (Nat.le_of_ble_eq_true rfl) rfl ev_17 dX0_passDay_72 (fun H1 locs hL h_bk hfr => ?_)
  have hF := hF.step hfr (fun q h => by (try dsimp only at h ⊢); omega)
  refine lv_aload_n hx hb dX0_passDay_75 rfl (lv_at hl 0 rfl) ?_
  obtain ⟨v_18, e_19, hf⟩ := xb_some hf
  refine x_callVv (As := []) (rest := []) S hK (c_X0_takeLateFees l G z b v_17 v_18 (by omega) e_19) gX0_passDay_X0_takeLateFees rfl 0 (by decide +kernel) rfl ⟨Nat.le_of_ble_eq_true rfl, Nat.le_of_ble_eq_true rfl⟩ h_bk 0 (by decide) rfl rfl rfl h_bk hl.1 rfl (Nat.le_of_ble_eq_true rfl) dX0_passDay_76 hL ⟨Nat.zero_le _, Nat.zero_le _⟩ (fun H1 locs hL hpost => ?_)
  obtain ⟨n_bk, hfr⟩ := hpost
  have h_bk := n_bk
  have hF := hF.step hfr (fun q h => by (try dsimp only at h ⊢); omega)
  refine lv_iload_n hx hb dX0_passDay_79 rfl (lv_at hl 1 rfl) ?_
  obtain ⟨q0, qq0⟩ := Prod.mk.inj (Option.some.inj hf)
  have q1 := qq0
  subst r0
  subst v'
  subst hQ
  refine x_iret (post := (fun H H1 => PX G b 37 (bkE G b) v_18 H1 ∧ XF (fun q => (b ≤ q ∧ q < b + 37)) H H1)) S hr hlocks rfl ?_ hL dX0_passDay_80
  exact ⟨h_bk, hF⟩
