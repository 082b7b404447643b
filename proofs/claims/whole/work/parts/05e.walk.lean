/-! ===== the methods, walked (written by program) ===== -/
set_option maxRecDepth 100000 in
set_option maxHeartbeats 4000000 in
theorem c_X7_lend (l : Launch) (G : xG) (z : Nat) (a : Nat) (dv : xV) (v : xV) (hv : xV) (kv : Nat → xV) (p1 : Int32) (p2 : Int32) (r0 : Int32) (v' : xV) (hv' : xV) (kv' : Nat → xV) (hz_bk : z ≤ (a + 1)) (hz_hs : z ≤ (a + 38)) (hf : f_X7_lend dv v hv kv p1 p2 = some (r0, v', hv', kv')) : xM l yX7_lend wsX7_lend 4 104 G z [.ref a, .int p1, .int p2] (fun H => PX G a 1 (hlE a) dv H ∧ PX G (a + 1) 37 (bkE G (a + 1)) v H ∧ PX G (a + 38) 2 (hsE G (a + 38)) hv H ∧ HU G (a + 38) kv H) (some (.int r0)) (fun H H1 => PX G (a + 1) 37 (bkE G (a + 1)) v' H1 ∧ PX G (a + 38) 2 (hsE G (a + 38)) hv' H1 ∧ HU G (a + 38) kv' H1 ∧ XF (fun q => ((a + 1) ≤ q ∧ q < (a + 1) + 37) ∨ ((a + 38) ≤ q ∧ q < (a + 38) + 2) ∨ ((a + 38) + 2 ≤ q ∧ q < (a + 38) + 150)) H H1) := by
  refine xM.of (cc := cX7_lend) (maxL := 6) (ret := (some .int)) (by decide +kernel) rfl (Nat.le_of_ble_eq_true rfl) ?_
  intro p e s m args below meth c ls Q hQ S hr hlocks hK hP hl
  obtain ⟨hx, hb, hml, hown, hts⟩ := id S
  obtain ⟨h_hl, h_bk, h_hs, h_hu⟩ := hP
  have hL : ∀ q ∈ ([] : List Loc), z ≤ q.base := fun q h => absurd h List.not_mem_nil
  have hF : XF (fun q => ((a + 1) ≤ q ∧ q < (a + 1) + 37) ∨ ((a + 38) ≤ q ∧ q < (a + 38) + 2) ∨ ((a + 38) + 2 ≤ q ∧ q < (a + 38) + 150)) s.heap s.heap := XF.rf
  have hl : lv_has ls 6 [(0, .ref a), (1, .int p1), (2, .int p2)] := hl
  have in0 : ∀ w ∈ u_ws RX0 TX0 9, w ∈ wsX7_lend := fun _ h => List.mem_cons_of_mem _ (List.mem_append_left _ (List.mem_append_right _ h))
  have in1 : ∀ w ∈ u_ws RX1 TX1 15, w ∈ wsX7_lend := fun _ h => List.mem_cons_of_mem _ (List.mem_append_left _ (List.mem_append_left _ (List.mem_append_right _ h)))
  have in3 : ∀ w ∈ u_ws RX3 TX3 3, w ∈ wsX7_lend := fun _ h => List.mem_cons_of_mem _ (List.mem_append_left _ (List.mem_append_left _ (List.mem_append_left _ (List.mem_append_right _ h))))
  have in7 : ∀ w ∈ u_ws RX7 TX7 6, w ∈ wsX7_lend := fun _ h => List.mem_cons_of_mem _ (List.mem_append_left _ (List.mem_append_left _ (List.mem_append_left _ (List.mem_append_left _ (List.mem_append_right _ h)))))
  unfold f_X7_lend at hf
  refine lv_aload_n hx hb dX7_lend_0 rfl (lv_at hl 0 rfl) ?_
  refine x_get S hK h_hl 0 (by decide) rfl rfl rfl in7 0 (by decide) (xm 1 rfl) (x := .ref (a + 1)) rfl dX7_lend_1 ?_
  refine lv_iload_n hx hb dX7_lend_4 rfl (lv_at hl 1 rfl) ?_
  obtain ⟨o_1, e_2, hf⟩ := xb_some hf
  refine x_callVi (As := [.int p1]) (rest := []) S hK (c_X0_keyAt l G z (a + 1) v p1 o_1 e_2) gX7_lend_X0_keyAt rfl 1 (by decide +kernel) rfl ⟨Nat.le_of_ble_eq_true rfl, Nat.le_of_ble_eq_true rfl⟩ h_bk 0 (by decide) rfl rfl rfl h_bk hl.1 rfl (Nat.le_of_ble_eq_true rfl) dX7_lend_5 hL ⟨Nat.zero_le _, Nat.zero_le _⟩ (fun H1 locs hL hpost => ?_)
  subst hpost
  obtain _ | i_3 := o_1
  · have hf := (xo_n _ _).symm.trans hf
    show W _ _ _ _ _ _ _ _ _ _ _ _ _ _ _ (F0 _ _ _ (.null :: _))
    refine lv_astore_nN (lv' := [(3, .null), (0, .ref a), (1, .int p1), (2, .int p2)]) hx hb dX7_lend_8 rfl hl (by decide) rfl (fun ls hl => ?_)
    refine lv_aload_n hx hb dX7_lend_9 rfl (lv_at hl 1 rfl) ?_
    refine x_get S hK h_hl 0 (by decide) rfl rfl rfl in7 0 (by decide) (xm 1 rfl) (x := .ref (a + 1)) rfl dX7_lend_10 ?_
    refine lv_iload_n hx hb dX7_lend_13 rfl (lv_at hl 3 rfl) ?_
    obtain ⟨o_4, e_5, hf⟩ := xb_some hf
    refine x_callVi (As := [.int p2]) (rest := []) S hK (c_X0_hireAt l G z (a + 1) v p2 o_4 e_5) gX7_lend_X0_hireAt rfl 1 (by decide +kernel) rfl ⟨Nat.le_of_ble_eq_true rfl, Nat.le_of_ble_eq_true rfl⟩ h_bk 0 (by decide) rfl rfl rfl h_bk hl.1 rfl (Nat.le_of_ble_eq_true rfl) dX7_lend_14 hL ⟨Nat.zero_le _, Nat.zero_le _⟩ (fun H1 locs hL hpost => ?_)
    subst hpost
    obtain _ | i_6 := o_4
    · have hf := (xo_n _ _).symm.trans hf
      show W _ _ _ _ _ _ _ _ _ _ _ _ _ _ _ (F0 _ _ _ (.null :: _))
      refine lv_astoreN (lv' := [(4, .null), (3, .null), (0, .ref a), (1, .int p1), (2, .int p2)]) hx hb dX7_lend_17 hl (by decide) rfl (fun ls hl => ?_)
      refine lv_aload_nN hx hb dX7_lend_19 rfl (lv_at hl 1 rfl) ?_
      refine lv_ifnullN (tgt := 28) hx hb dX7_lend_20 (by decide) ?_
      refine lv_ldc (v := (-2000000001)) hx hb hown (hts _ (xm 2 rfl)) dX7_lend_28 ?_
      obtain ⟨q0, qq0⟩ := Prod.mk.inj (Option.some.inj hf)
      obtain ⟨q1, qq1⟩ := Prod.mk.inj (qq0)
      obtain ⟨q2, qq2⟩ := Prod.mk.inj (qq1)
      have q3 := qq2
      subst r0
      subst v'
      subst hv'
      subst kv'
      subst hQ
      refine x_iret (post := (fun H H1 => PX G (a + 1) 37 (bkE G (a + 1)) v H1 ∧ PX G (a + 38) 2 (hsE G (a + 38)) hv H1 ∧ HU G (a + 38) kv H1 ∧ XF (fun q => ((a + 1) ≤ q ∧ q < (a + 1) + 37) ∨ ((a + 38) ≤ q ∧ q < (a + 38) + 2) ∨ ((a + 38) + 2 ≤ q ∧ q < (a + 38) + 150)) H H1)) S hr hlocks rfl ?_ hL dX7_lend_30
      exact ⟨h_bk, h_hs, h_hu, hF⟩
    · have hf := (xo_s _ _ _).symm.trans hf
      obtain ⟨hi_i_6, hf⟩ := xg_some hf
      show W _ _ _ _ _ _ _ _ _ _ _ _ _ _ _ (F0 _ _ _ (.ref ((a + 1) + (6 + 2 * i_6)) :: _))
      refine lv_astore (lv' := [(4, .ref ((a + 1) + (6 + 2 * i_6))), (3, .null), (0, .ref a), (1, .int p1), (2, .int p2)]) hx hb dX7_lend_17 hl (by decide) rfl (fun ls hl => ?_)
      refine lv_aload_nN hx hb dX7_lend_19 rfl (lv_at hl 1 rfl) ?_
      refine lv_ifnullN (tgt := 28) hx hb dX7_lend_20 (by decide) ?_
      refine lv_ldc (v := (-2000000001)) hx hb hown (hts _ (xm 2 rfl)) dX7_lend_28 ?_
      obtain ⟨q0, qq0⟩ := Prod.mk.inj (Option.some.inj hf)
      obtain ⟨q1, qq1⟩ := Prod.mk.inj (qq0)
      obtain ⟨q2, qq2⟩ := Prod.mk.inj (qq1)
      have q3 := qq2
      subst r0
      subst v'
      subst hv'
      subst kv'
      subst hQ
      refine x_iret (post := (fun H H1 => PX G (a + 1) 37 (bkE G (a + 1)) v H1 ∧ PX G (a + 38) 2 (hsE G (a + 38)) hv H1 ∧ HU G (a + 38) kv H1 ∧ XF (fun q => ((a + 1) ≤ q ∧ q < (a + 1) + 37) ∨ ((a + 38) ≤ q ∧ q < (a + 38) + 2) ∨ ((a + 38) + 2 ≤ q ∧ q < (a + 38) + 150)) H H1)) S hr hlocks rfl ?_ hL dX7_lend_30
      exact ⟨h_bk, h_hs, h_hu, hF⟩
  · have hf := (xo_s _ _ _).symm.trans hf
    obtain ⟨hi_i_3, hf⟩ := xg_some hf
    show W _ _ _ _ _ _ _ _ _ _ _ _ _ _ _ (F0 _ _ _ (.ref ((a + 1) + (31 + i_3)) :: _))
    refine lv_astore_n (lv' := [(3, .ref ((a + 1) + (31 + i_3))), (0, .ref a), (1, .int p1), (2, .int p2)]) hx hb dX7_lend_8 rfl hl (by decide) rfl (fun ls hl => ?_)
    refine lv_aload_n hx hb dX7_lend_9 rfl (lv_at hl 1 rfl) ?_
    refine x_get S hK h_hl 0 (by decide) rfl rfl rfl in7 0 (by decide) (xm 1 rfl) (x := .ref (a + 1)) rfl dX7_lend_10 ?_
    refine lv_iload_n hx hb dX7_lend_13 rfl (lv_at hl 3 rfl) ?_
    obtain ⟨o_7, e_8, hf⟩ := xb_some hf
    refine x_callVi (As := [.int p2]) (rest := []) S hK (c_X0_hireAt l G z (a + 1) v p2 o_7 e_8) gX7_lend_X0_hireAt rfl 1 (by decide +kernel) rfl ⟨Nat.le_of_ble_eq_true rfl, Nat.le_of_ble_eq_true rfl⟩ h_bk 0 (by decide) rfl rfl rfl h_bk hl.1 rfl (Nat.le_of_ble_eq_true rfl) dX7_lend_14 hL ⟨Nat.zero_le _, Nat.zero_le _⟩ (fun H1 locs hL hpost => ?_)
    subst hpost
    obtain _ | i_9 := o_7
    · have hf := (xo_n _ _).symm.trans hf
      show W _ _ _ _ _ _ _ _ _ _ _ _ _ _ _ (F0 _ _ _ (.null :: _))
      refine lv_astoreN (lv' := [(4, .null), (3, .ref ((a + 1) + (31 + i_3))), (0, .ref a), (1, .int p1), (2, .int p2)]) hx hb dX7_lend_17 hl (by decide) rfl (fun ls hl => ?_)
      refine lv_aload_n hx hb dX7_lend_19 rfl (lv_at hl 1 rfl) ?_
      refine lv_ifnull hx hb dX7_lend_20 ?_
      refine lv_aloadN hx hb dX7_lend_23 (lv_at hl 0 rfl) ?_
      refine lv_ifnonnullN hx hb dX7_lend_25 ?_
      refine lv_ldc (v := (-2000000001)) hx hb hown (hts _ (xm 2 rfl)) dX7_lend_28 ?_
      obtain ⟨q0, qq0⟩ := Prod.mk.inj (Option.some.inj hf)
      obtain ⟨q1, qq1⟩ := Prod.mk.inj (qq0)
      obtain ⟨q2, qq2⟩ := Prod.mk.inj (qq1)
      have q3 := qq2
      subst r0
      subst v'
      subst hv'
      subst kv'
      subst hQ
      refine x_iret (post := (fun H H1 => PX G (a + 1) 37 (bkE G (a + 1)) v H1 ∧ PX G (a + 38) 2 (hsE G (a + 38)) hv H1 ∧ HU G (a + 38) kv H1 ∧ XF (fun q => ((a + 1) ≤ q ∧ q < (a + 1) + 37) ∨ ((a + 38) ≤ q ∧ q < (a + 38) + 2) ∨ ((a + 38) + 2 ≤ q ∧ q < (a + 38) + 150)) H H1)) S hr hlocks rfl ?_ hL dX7_lend_30
      exact ⟨h_bk, h_hs, h_hu, hF⟩
    · have hf := (xo_s _ _ _).symm.trans hf
      obtain ⟨hi_i_9, hf⟩ := xg_some hf
      show W _ _ _ _ _ _ _ _ _ _ _ _ _ _ _ (F0 _ _ _ (.ref ((a + 1) + (6 + 2 * i_9)) :: _))
      refine lv_astore (lv' := [(4, .ref ((a + 1) + (6 + 2 * i_9))), (3, .ref ((a + 1) + (31 + i_3))), (0, .ref a), (1, .int p1), (2, .int p2)]) hx hb dX7_lend_17 hl (by decide) rfl (fun ls hl => ?_)
      refine lv_aload_n hx hb dX7_lend_19 rfl (lv_at hl 1 rfl) ?_
      refine lv_ifnull hx hb dX7_lend_20 ?_
      refine lv_aload hx hb dX7_lend_23 (lv_at hl 0 rfl) ?_
      refine lv_ifnonnull (tgt := 31) hx hb dX7_lend_25 (by decide) ?_
      refine lv_aload hx hb dX7_lend_31 (lv_at hl 0 rfl) ?_
      obtain ⟨r_10, e_11, hf⟩ := xb_some hf
      refine x_callVi (As := []) (rest := []) S hK (c_X1_lastPlannedDay l G z (a + 1) v i_9 r_10 hi_i_9 e_11) gX7_lend_X1_lastPlannedDay rfl 0 (by decide +kernel) rfl ⟨Nat.le_of_ble_eq_true rfl, Nat.le_of_ble_eq_true rfl⟩ h_bk (6 + 2 * i_9) (by omega) rfl (bkE_hire G (a + 1) i_9 hi_i_9 _) rfl h_bk hl.1 rfl (Nat.le_of_ble_eq_true rfl) dX7_lend_33 hL ⟨Nat.zero_le _, Nat.zero_le _⟩ (fun H1 locs hL hpost => ?_)
      subst hpost
      refine lv_istore (lv' := [(5, .int r_10), (4, .ref ((a + 1) + (6 + 2 * i_9))), (3, .ref ((a + 1) + (31 + i_3))), (0, .ref a), (1, .int p1), (2, .int p2)]) hx hb dX7_lend_36 hl (by decide) rfl (fun ls hl => ?_)
      refine lv_aload_n hx hb dX7_lend_38 rfl (lv_at hl 2 rfl) ?_
      refine x_get S hK h_bk (31 + i_3) (by omega) rfl (bkE_key G (a + 1) i_3 _) rfl in3 1 (by decide) (xm 3 rfl) (x := .int (v (31 + i_3) 1)) rfl dX7_lend_39 ?_
      refine lv_iconst (v := (-1)) hx hb dX7_lend_42 (by decide) ?_
      refine lv_icmp_ne (tgt := 67) hx hb dX7_lend_43 (by decide) (fun c_12 => ?_) (fun c_12 => ?_)
      · have hf := (if_neg c_12).symm.trans hf
        refine lv_ldc (v := (-2000000002)) hx hb hown (hts _ (xm 6 rfl)) dX7_lend_67 ?_
        obtain ⟨q0, qq0⟩ := Prod.mk.inj (Option.some.inj hf)
        obtain ⟨q1, qq1⟩ := Prod.mk.inj (qq0)
        obtain ⟨q2, qq2⟩ := Prod.mk.inj (qq1)
        have q3 := qq2
        subst r0
        subst v'
        subst hv'
        subst kv'
        subst hQ
        refine x_iret (post := (fun H H1 => PX G (a + 1) 37 (bkE G (a + 1)) v H1 ∧ PX G (a + 38) 2 (hsE G (a + 38)) hv H1 ∧ HU G (a + 38) kv H1 ∧ XF (fun q => ((a + 1) ≤ q ∧ q < (a + 1) + 37) ∨ ((a + 38) ≤ q ∧ q < (a + 38) + 2) ∨ ((a + 38) + 2 ≤ q ∧ q < (a + 38) + 150)) H H1)) S hr hlocks rfl ?_ hL dX7_lend_69
        exact ⟨h_bk, h_hs, h_hu, hF⟩
      · have hf := (if_pos c_12).symm.trans hf
        refine lv_iload hx hb dX7_lend_46 (lv_at hl 0 rfl) ?_
        refine lv_iconst (v := (-1)) hx hb dX7_lend_48 (by decide) ?_
        refine lv_icmp_eq (tgt := 67) hx hb dX7_lend_49 (by decide) (fun c_13 => ?_) (fun c_13 => ?_)
        · have hf := (if_pos c_13).symm.trans hf
          refine lv_ldc (v := (-2000000002)) hx hb hown (hts _ (xm 6 rfl)) dX7_lend_67 ?_
          obtain ⟨q0, qq0⟩ := Prod.mk.inj (Option.some.inj hf)
          obtain ⟨q1, qq1⟩ := Prod.mk.inj (qq0)
          obtain ⟨q2, qq2⟩ := Prod.mk.inj (qq1)
          have q3 := qq2
          subst r0
          subst v'
          subst hv'
          subst kv'
          subst hQ
          refine x_iret (post := (fun H H1 => PX G (a + 1) 37 (bkE G (a + 1)) v H1 ∧ PX G (a + 38) 2 (hsE G (a + 38)) hv H1 ∧ HU G (a + 38) kv H1 ∧ XF (fun q => ((a + 1) ≤ q ∧ q < (a + 1) + 37) ∨ ((a + 38) ≤ q ∧ q < (a + 38) + 2) ∨ ((a + 38) + 2 ≤ q ∧ q < (a + 38) + 150)) H H1)) S hr hlocks rfl ?_ hL dX7_lend_69
          exact ⟨h_bk, h_hs, h_hu, hF⟩
        · have hf := (if_neg c_13).symm.trans hf
          refine lv_aload hx hb dX7_lend_52 (lv_at hl 1 rfl) ?_
          refine x_get S hK h_bk (6 + 2 * i_9) (by omega) rfl (bkE_hire G (a + 1) i_9 hi_i_9 _) rfl in1 2 (by decide) (xm 4 rfl) (x := .int (v (6 + 2 * i_9) 2)) rfl dX7_lend_54 ?_
          refine lv_aload_n hx hb dX7_lend_57 rfl (lv_at hl 2 rfl) ?_
          refine x_get S hK h_bk (31 + i_3) (by omega) rfl (bkE_key G (a + 1) i_3 _) rfl in3 0 (by decide) (xm 5 rfl) (x := .int (v (31 + i_3) 0)) rfl dX7_lend_58 ?_
          refine lv_ishr hx hb dX7_lend_61 ?_
          refine lv_iconst (v := 1) hx hb dX7_lend_62 (by decide) ?_
          refine lv_iand hx hb dX7_lend_63 ?_
          refine lv_if_ne (tgt := 70) hx hb dX7_lend_64 (by decide) (fun c_14 => ?_) (fun c_14 => ?_)
          · have hf := (if_neg c_14).symm.trans hf
            refine lv_aload_n hx hb dX7_lend_70 rfl (lv_at hl 3 rfl) ?_
            refine x_get S hK h_hl 0 (by decide) rfl rfl rfl in7 1 (by decide) (xm 7 rfl) (x := .ref (a + 38)) rfl dX7_lend_71 ?_
            refine lv_aload_n hx hb dX7_lend_74 rfl (lv_at hl 3 rfl) ?_
            refine x_get S hK h_hl 0 (by decide) rfl rfl rfl in7 0 (by decide) (xm 1 rfl) (x := .ref (a + 1)) rfl dX7_lend_75 ?_
            obtain ⟨hv_15, kv_16, e_17, hf⟩ := xb2_some hf
            refine x_callVv (As := [.ref (a + 1)]) (rest := []) S hK (c_X2_save l G z (a + 38) (a + 1) hv kv v hv_15 kv_16 (by omega) (by omega) (by omega) e_17) gX7_lend_X2_save rfl 1 (by decide +kernel) rfl ⟨Nat.le_of_ble_eq_true rfl, Nat.le_of_ble_eq_true rfl⟩ h_hs 0 (by decide) rfl rfl rfl ⟨h_hs, h_hu, h_bk⟩ hl.1 rfl (Nat.le_of_ble_eq_true rfl) dX7_lend_78 hL ⟨Nat.zero_le _, Nat.zero_le _⟩ (fun H1 locs hL hpost => ?_)
            obtain ⟨n_hs, n_hu, hfr⟩ := hpost
            have h_hs := n_hs
            have h_hu := n_hu
            have h_hl := h_hl.kept hfr (fun q h1 h2 h3 => by (try dsimp only at h3); omega)
            have h_bk := h_bk.kept hfr (fun q h1 h2 h3 => by (try dsimp only at h3); omega)
            have hF := hF.step hfr (fun q h => by (try dsimp only at h ⊢); omega)
            refine lv_aload_n hx hb dX7_lend_81 rfl (lv_at hl 2 rfl) ?_
            refine lv_iload_n hx hb dX7_lend_82 rfl (lv_at hl 5 rfl) ?_
            obtain ⟨v_18, ev_18, hf⟩ := xl_some hf
            refine x_put S hK h_bk hz_bk hL (31 + i_3) (by omega) rfl (bkE_key G (a + 1) i_3 _) rfl in3 tyX3 tyX3_ok nmX3 1 (by decide) (xm 3 rfl) rfl (vp_nar_int _) rfl (Nat.le_of_ble_eq_true rfl) (bkE_key G (a + 1) i_3 _) ev_18 dX7_lend_83 (fun H1 locs hL h_bk hfr => ?_)
            have h_hl := h_hl.kept hfr (fun q h1 h2 h3 => by (try dsimp only at h3); omega)
            have h_hs := h_hs.kept hfr (fun q h1 h2 h3 => by (try dsimp only at h3); omega)
            have h_hu := h_hu.kept hfr (fun q h1 h2 h3 => by (try dsimp only at h3); omega)
            have hF := hF.step hfr (fun q h => by (try dsimp only at h ⊢); omega)
            refine lv_aload_n hx hb dX7_lend_86 rfl (lv_at hl 2 rfl) ?_
            refine lv_iload hx hb dX7_lend_87 (lv_at hl 0 rfl) ?_
            refine lv_aload_n hx hb dX7_lend_89 rfl (lv_at hl 3 rfl) ?_
            refine x_get S hK h_hl 0 (by decide) rfl rfl rfl in7 0 (by decide) (xm 1 rfl) (x := .ref (a + 1)) rfl dX7_lend_90 ?_
            refine x_get S hK h_bk 0 (by decide) rfl rfl rfl in0 3 (by decide) (xm 8 rfl) (x := .ref ((a + 1) + 1)) rfl dX7_lend_93 ?_
            refine lv_bipush (v := 7) hx hb dX7_lend_96 (by decide) ?_
            refine x_iald S hK h_bk 1 (by decide) rfl rfl 7 (by decide) (by decide) dX7_lend_98 ?_
            refine lv_iadd hx hb dX7_lend_99 ?_
            obtain ⟨v_19, ev_19, hf⟩ := xl_some hf
            refine x_put S hK h_bk hz_bk hL (31 + i_3) (by omega) rfl (bkE_key G (a + 1) i_3 _) rfl in3 tyX3 tyX3_ok nmX3 2 (by decide) (xm 9 rfl) rfl (vp_nar_int _) rfl (Nat.le_of_ble_eq_true rfl) (bkE_key G (a + 1) i_3 _) ev_19 dX7_lend_100 (fun H1 locs hL h_bk hfr => ?_)
            have h_hl := h_hl.kept hfr (fun q h1 h2 h3 => by (try dsimp only at h3); omega)
            have h_hs := h_hs.kept hfr (fun q h1 h2 h3 => by (try dsimp only at h3); omega)
            have h_hu := h_hu.kept hfr (fun q h1 h2 h3 => by (try dsimp only at h3); omega)
            have hF := hF.step hfr (fun q h => by (try dsimp only at h ⊢); omega)
            refine lv_aload_n hx hb dX7_lend_103 rfl (lv_at hl 2 rfl) ?_
            refine x_get S hK h_bk (31 + i_3) (by omega) rfl (bkE_key G (a + 1) i_3 _) rfl in3 2 (by decide) (xm 9 rfl) (x := .int (v_19 (31 + i_3) 2)) rfl dX7_lend_104 ?_
            obtain ⟨q0, qq0⟩ := Prod.mk.inj (Option.some.inj hf)
            obtain ⟨q1, qq1⟩ := Prod.mk.inj (qq0)
            obtain ⟨q2, qq2⟩ := Prod.mk.inj (qq1)
            have q3 := qq2
            subst r0
            subst v'
            subst hv'
            subst kv'
            subst hQ
            refine x_iret (post := (fun H H1 => PX G (a + 1) 37 (bkE G (a + 1)) v_19 H1 ∧ PX G (a + 38) 2 (hsE G (a + 38)) hv_15 H1 ∧ HU G (a + 38) kv_16 H1 ∧ XF (fun q => ((a + 1) ≤ q ∧ q < (a + 1) + 37) ∨ ((a + 38) ≤ q ∧ q < (a + 38) + 2) ∨ ((a + 38) + 2 ≤ q ∧ q < (a + 38) + 150)) H H1)) S hr hlocks rfl ?_ hL dX7_lend_107
            exact ⟨h_bk, h_hs, h_hu, hF⟩
          · have hf := (if_pos c_14).symm.trans hf
            refine lv_ldc (v := (-2000000002)) hx hb hown (hts _ (xm 6 rfl)) dX7_lend_67 ?_
            obtain ⟨q0, qq0⟩ := Prod.mk.inj (Option.some.inj hf)
            obtain ⟨q1, qq1⟩ := Prod.mk.inj (qq0)
            obtain ⟨q2, qq2⟩ := Prod.mk.inj (qq1)
            have q3 := qq2
            subst r0
            subst v'
            subst hv'
            subst kv'
            subst hQ
            refine x_iret (post := (fun H H1 => PX G (a + 1) 37 (bkE G (a + 1)) v H1 ∧ PX G (a + 38) 2 (hsE G (a + 38)) hv H1 ∧ HU G (a + 38) kv H1 ∧ XF (fun q => ((a + 1) ≤ q ∧ q < (a + 1) + 37) ∨ ((a + 38) ≤ q ∧ q < (a + 38) + 2) ∨ ((a + 38) + 2 ≤ q ∧ q < (a + 38) + 150)) H H1)) S hr hlocks rfl ?_ hL dX7_lend_69
            exact ⟨h_bk, h_hs, h_hu, hF⟩
set_option maxRecDepth 100000 in
set_option maxHeartbeats 4000000 in
theorem c_X7_pass (l : Launch) (G : xG) (z : Nat) (a : Nat) (dv : xV) (v : xV) (hv : xV) (kv : Nat → xV) (p1 : Int32) (r0 : Int32) (v' : xV) (hv' : xV) (kv' : Nat → xV) (hz_bk : z ≤ (a + 1)) (hz_hs : z ≤ (a + 38)) (hf : f_X7_pass dv v hv kv p1 = some (r0, v', hv', kv')) : xM l yX7_pass wsX7_pass 5 119 G z [.ref a, .int p1] (fun H => PX G a 1 (hlE a) dv H ∧ PX G (a + 1) 37 (bkE G (a + 1)) v H ∧ PX G (a + 38) 2 (hsE G (a + 38)) hv H ∧ HU G (a + 38) kv H) (some (.int r0)) (fun H H1 => PX G (a + 1) 37 (bkE G (a + 1)) v' H1 ∧ PX G (a + 38) 2 (hsE G (a + 38)) hv' H1 ∧ HU G (a + 38) kv' H1 ∧ XF (fun q => ((a + 1) ≤ q ∧ q < (a + 1) + 37) ∨ ((a + 38) ≤ q ∧ q < (a + 38) + 2) ∨ ((a + 38) + 2 ≤ q ∧ q < (a + 38) + 150)) H H1) := by
  refine xM.of (cc := cX7_pass) (maxL := 4) (ret := (some .int)) (by decide +kernel) rfl (Nat.le_of_ble_eq_true rfl) ?_
  intro p e s m args below meth c ls Q hQ S hr hlocks hK hP hl
  obtain ⟨hx, hb, hml, hown, hts⟩ := id S
  obtain ⟨h_hl, h_bk, h_hs, h_hu⟩ := hP
  have hL : ∀ q ∈ ([] : List Loc), z ≤ q.base := fun q h => absurd h List.not_mem_nil
  have hF : XF (fun q => ((a + 1) ≤ q ∧ q < (a + 1) + 37) ∨ ((a + 38) ≤ q ∧ q < (a + 38) + 2) ∨ ((a + 38) + 2 ≤ q ∧ q < (a + 38) + 150)) s.heap s.heap := XF.rf
  have hl : lv_has ls 4 [(0, .ref a), (1, .int p1)] := hl
  have in0 : ∀ w ∈ u_ws RX0 TX0 9, w ∈ wsX7_pass := fun _ h => List.mem_cons_of_mem _ (List.mem_append_left _ (List.mem_append_left _ (List.mem_append_left _ (List.mem_append_right _ h))))
  have in7 : ∀ w ∈ u_ws RX7 TX7 6, w ∈ wsX7_pass := fun _ h => List.mem_cons_of_mem _ (List.mem_append_left _ (List.mem_append_left _ (List.mem_append_left _ (List.mem_append_left _ (List.mem_append_right _ h)))))
  unfold f_X7_pass at hf
  refine lv_iload_n hx hb dX7_pass_0 rfl (lv_at hl 1 rfl) ?_
  refine lv_iconst (v := 1) hx hb dX7_pass_1 (by decide) ?_
  refine lv_icmp_lt (tgt := 11) hx hb dX7_pass_2 (by decide) (fun c_1 => ?_) (fun c_1 => ?_)
  · have hf := (if_pos c_1).symm.trans hf
    refine lv_ldc (v := (-2000000001)) hx hb hown (hts _ (xm 1 rfl)) dX7_pass_11 ?_
    obtain ⟨q0, qq0⟩ := Prod.mk.inj (Option.some.inj hf)
    obtain ⟨q1, qq1⟩ := Prod.mk.inj (qq0)
    obtain ⟨q2, qq2⟩ := Prod.mk.inj (qq1)
    have q3 := qq2
    subst r0
    subst v'
    subst hv'
    subst kv'
    subst hQ
    refine x_iret (post := (fun H H1 => PX G (a + 1) 37 (bkE G (a + 1)) v H1 ∧ PX G (a + 38) 2 (hsE G (a + 38)) hv H1 ∧ HU G (a + 38) kv H1 ∧ XF (fun q => ((a + 1) ≤ q ∧ q < (a + 1) + 37) ∨ ((a + 38) ≤ q ∧ q < (a + 38) + 2) ∨ ((a + 38) + 2 ≤ q ∧ q < (a + 38) + 150)) H H1)) S hr hlocks rfl ?_ hL dX7_pass_13
    exact ⟨h_bk, h_hs, h_hu, hF⟩
  · have hf := (if_neg c_1).symm.trans hf
    refine lv_iload_n hx hb dX7_pass_5 rfl (lv_at hl 1 rfl) ?_
    refine lv_bipush (v := 60) hx hb dX7_pass_6 (by decide) ?_
    refine lv_icmp_le (tgt := 14) hx hb dX7_pass_8 (by decide) (fun c_2 => ?_) (fun c_2 => ?_)
    · have hf := (if_pos c_2).symm.trans hf
      refine lv_aload_n hx hb dX7_pass_14 rfl (lv_at hl 0 rfl) ?_
      refine x_get S hK h_hl 0 (by decide) rfl rfl rfl in7 0 (by decide) (xm 2 rfl) (x := .ref (a + 1)) rfl dX7_pass_15 ?_
      refine x_get S hK h_bk 0 (by decide) rfl rfl rfl in0 0 (by decide) (xm 3 rfl) (x := .int (v 0 0)) rfl dX7_pass_18 ?_
      refine lv_iload_n hx hb dX7_pass_21 rfl (lv_at hl 1 rfl) ?_
      refine lv_iadd hx hb dX7_pass_22 ?_
      refine lv_sipush (v := 400) hx hb dX7_pass_23 (by decide) ?_
      refine lv_icmp_le (tgt := 32) hx hb dX7_pass_26 (by decide) (fun c_3 => ?_) (fun c_3 => ?_)
      · have hf := (if_pos c_3).symm.trans hf
        refine lv_aload_n hx hb dX7_pass_32 rfl (lv_at hl 0 rfl) ?_
        refine x_get S hK h_hl 0 (by decide) rfl rfl rfl in7 1 (by decide) (xm 5 rfl) (x := .ref (a + 38)) rfl dX7_pass_33 ?_
        refine lv_aload_n hx hb dX7_pass_36 rfl (lv_at hl 0 rfl) ?_
        refine x_get S hK h_hl 0 (by decide) rfl rfl rfl in7 0 (by decide) (xm 2 rfl) (x := .ref (a + 1)) rfl dX7_pass_37 ?_
        obtain ⟨hv_4, kv_5, e_6, hf⟩ := xb2_some hf
        refine x_callVv (As := [.ref (a + 1)]) (rest := []) S hK (c_X2_save l G z (a + 38) (a + 1) hv kv v hv_4 kv_5 (by omega) (by omega) (by omega) e_6) gX7_pass_X2_save rfl 1 (by decide +kernel) rfl ⟨Nat.le_of_ble_eq_true rfl, Nat.le_of_ble_eq_true rfl⟩ h_hs 0 (by decide) rfl rfl rfl ⟨h_hs, h_hu, h_bk⟩ hl.1 rfl (Nat.le_of_ble_eq_true rfl) dX7_pass_40 hL ⟨Nat.zero_le _, Nat.zero_le _⟩ (fun H1 locs hL hpost => ?_)
        obtain ⟨n_hs, n_hu, hfr⟩ := hpost
        have h_hs := n_hs
        have h_hu := n_hu
        have h_hl := h_hl.kept hfr (fun q h1 h2 h3 => by (try dsimp only at h3); omega)
        have h_bk := h_bk.kept hfr (fun q h1 h2 h3 => by (try dsimp only at h3); omega)
        have hF := hF.step hfr (fun q h => by (try dsimp only at h ⊢); omega)
        refine lv_iconst (v := 0) hx hb dX7_pass_43 (by decide) ?_
        refine lv_istore_n (lv' := [(2, .int 0), (0, .ref a), (1, .int p1)]) hx hb dX7_pass_44 rfl hl (by decide) rfl (fun ls hl => ?_)
        refine lv_iconst (v := 0) hx hb dX7_pass_45 (by decide) ?_
        refine lv_istore_n (lv' := [(3, .int 0), (2, .int 0), (0, .ref a), (1, .int p1)]) hx hb dX7_pass_46 rfl hl (by decide) rfl (fun ls hl => ?_)
        have lp_47 : ∀ (K_47 : Int32 → Int32 → xV → Option (Int32 × xV × xV × (Nat → xV))), (∀ (x_7 : Int32) (x_8 : Int32) (v_9 : xV) (H : Heap) (locs : List Loc) (ls : Array Slot), (∀ q ∈ locs, z ≤ q.base) → PX G a 1 (hlE a) dv H → PX G (a + 1) 37 (bkE G (a + 1)) v_9 H → PX G (a + 38) 2 (hsE G (a + 38)) hv_4 H → HU G (a + 38) kv_5 H → XF (fun q => ((a + 1) ≤ q ∧ q < (a + 1) + 37) ∨ ((a + 38) ≤ q ∧ q < (a + 38) + 2) ∨ ((a + 38) + 2 ≤ q ∧ q < (a + 38) + 150)) s.heap H → lv_has ls 4 [(2, .int x_7)] → K_47 x_7 x_8 v_9 = some (r0, v', hv', kv') → W p l e { frames := 5, cells := 0, slots := 0, locals := 119 } s m args below meth c H locs 0 0 Q (F0 m 68 ls [])) → ∀ (n : Nat) (x_7 : Int32) (x_8 : Int32) (v_9 : xV) (H : Heap) (locs : List Loc) (ls : Array Slot), (∀ q ∈ locs, z ≤ q.base) → PX G a 1 (hlE a) dv H → PX G (a + 1) 37 (bkE G (a + 1)) v_9 H → PX G (a + 38) 2 (hsE G (a + 38)) hv_4 H → HU G (a + 38) kv_5 H → XF (fun q => ((a + 1) ≤ q ∧ q < (a + 1) + 37) ∨ ((a + 38) ≤ q ∧ q < (a + 38) + 2) ∨ ((a + 38) + 2 ≤ q ∧ q < (a + 38) + 150)) s.heap H → lv_has ls 4 [(0, .ref a), (1, .int p1), (2, .int x_7), (3, .int x_8)] → L_X7_pass_47 K_47 p1 n x_7 x_8 v_9 = some (r0, v', hv', kv') → W p l e { frames := 5, cells := 0, slots := 0, locals := 119 } s m args below meth c H locs 0 0 Q (F0 m 47 ls []) := by
          intro K_47 hK_47 n
          induction n with
          | zero =>
            intro x_7 x_8 v_9 H locs ls hL h_hl h_bk h_hs h_hu hF hl hf
            cases hf
          | succ n ih_47 =>
            intro x_7 x_8 v_9 H locs ls hL h_hl h_bk h_hs h_hu hF hl hf
            unfold L_X7_pass_47 at hf
            refine lv_iload_n hx hb dX7_pass_47 rfl (lv_at hl 3 rfl) ?_
            refine lv_iload_n hx hb dX7_pass_48 rfl (lv_at hl 1 rfl) ?_
            refine lv_icmp_ge (tgt := 68) hx hb dX7_pass_49 (by decide) (fun c_10 => ?_) (fun c_10 => ?_)
            · have hf := (if_pos c_10).symm.trans hf
              exact hK_47 x_7 x_8 v_9 _ _ _ hL h_hl h_bk h_hs h_hu hF (lv_sub hl [2] rfl) hf
            · have hf := (if_neg c_10).symm.trans hf
              refine lv_iload_n hx hb dX7_pass_52 rfl (lv_at hl 2 rfl) ?_
              refine lv_aload_n hx hb dX7_pass_53 rfl (lv_at hl 0 rfl) ?_
              refine x_get S hK h_hl 0 (by decide) rfl rfl rfl in7 0 (by decide) (xm 2 rfl) (x := .ref (a + 1)) rfl dX7_pass_54 ?_
              obtain ⟨r_11, v_12, e_13, hf⟩ := xb2_some hf
              refine x_callVi (As := []) (rest := [.int x_7]) S hK (c_X0_passDay l G z (a + 1) v_9 r_11 v_12 (by omega) e_13) gX7_pass_X0_passDay rfl 0 (by decide +kernel) rfl ⟨Nat.le_of_ble_eq_true rfl, Nat.le_of_ble_eq_true rfl⟩ h_bk 0 (by decide) rfl rfl rfl h_bk hl.1 rfl (Nat.le_of_ble_eq_true rfl) dX7_pass_57 hL ⟨Nat.zero_le _, Nat.zero_le _⟩ (fun H1 locs hL hpost => ?_)
              obtain ⟨n_bk, hfr⟩ := hpost
              have h_bk := n_bk
              have h_hl := h_hl.kept hfr (fun q h1 h2 h3 => by (try dsimp only at h3); omega)
              have h_hs := h_hs.kept hfr (fun q h1 h2 h3 => by (try dsimp only at h3); omega)
              have h_hu := h_hu.kept hfr (fun q h1 h2 h3 => by (try dsimp only at h3); omega)
              have hF := hF.step hfr (fun q h => by (try dsimp only at h ⊢); omega)
              refine lv_iadd hx hb dX7_pass_60 ?_
              obtain ⟨x_14, ex_14, hf⟩ := xl_some hf
              refine x_top ex_14 ?_
              refine lv_istore_n (lv' := [(2, .int x_14), (0, .ref a), (1, .int p1), (3, .int x_8)]) hx hb dX7_pass_61 rfl hl (by decide) rfl (fun ls hl => ?_)
              obtain ⟨x_15, ex_15, hf⟩ := xl_some hf
              refine lv_iinc (v := x_15) (lv' := [(3, .int x_15), (2, .int x_14), (0, .ref a), (1, .int p1)]) hx hb dX7_pass_62 hl (k := 3) rfl (by rw [ex_15]; rfl) (by decide) rfl (fun ls hl => ?_)
              refine lv_goto (tgt := 47) hx hb dX7_pass_65 (by decide) ?_
              exact ih_47 x_14 x_15 v_12 _ _ _ hL h_hl h_bk h_hs h_hu hF (lv_sub hl [2, 3, 1, 0] rfl) hf
        refine lp_47 _ (fun x_16 x_17 v_18 H locs ls hL h_hl h_bk h_hs h_hu hF hl hf => ?_) 100000 0 0 v _ _ _ hL h_hl h_bk h_hs h_hu hF (lv_sub hl [2, 3, 1, 0] rfl) hf
        refine lv_iload_n hx hb dX7_pass_68 rfl (lv_at hl 0 rfl) ?_
        obtain ⟨q0, qq0⟩ := Prod.mk.inj (Option.some.inj hf)
        obtain ⟨q1, qq1⟩ := Prod.mk.inj (qq0)
        obtain ⟨q2, qq2⟩ := Prod.mk.inj (qq1)
        have q3 := qq2
        subst r0
        subst v'
        subst hv'
        subst kv'
        subst hQ
        refine x_iret (post := (fun H H1 => PX G (a + 1) 37 (bkE G (a + 1)) v_18 H1 ∧ PX G (a + 38) 2 (hsE G (a + 38)) hv_4 H1 ∧ HU G (a + 38) kv_5 H1 ∧ XF (fun q => ((a + 1) ≤ q ∧ q < (a + 1) + 37) ∨ ((a + 38) ≤ q ∧ q < (a + 38) + 2) ∨ ((a + 38) + 2 ≤ q ∧ q < (a + 38) + 150)) H H1)) S hr hlocks rfl ?_ hL dX7_pass_69
        exact ⟨h_bk, h_hs, h_hu, hF⟩
      · have hf := (if_neg c_3).symm.trans hf
        refine lv_ldc (v := (-2000000003)) hx hb hown (hts _ (xm 4 rfl)) dX7_pass_29 ?_
        obtain ⟨q0, qq0⟩ := Prod.mk.inj (Option.some.inj hf)
        obtain ⟨q1, qq1⟩ := Prod.mk.inj (qq0)
        obtain ⟨q2, qq2⟩ := Prod.mk.inj (qq1)
        have q3 := qq2
        subst r0
        subst v'
        subst hv'
        subst kv'
        subst hQ
        refine x_iret (post := (fun H H1 => PX G (a + 1) 37 (bkE G (a + 1)) v H1 ∧ PX G (a + 38) 2 (hsE G (a + 38)) hv H1 ∧ HU G (a + 38) kv H1 ∧ XF (fun q => ((a + 1) ≤ q ∧ q < (a + 1) + 37) ∨ ((a + 38) ≤ q ∧ q < (a + 38) + 2) ∨ ((a + 38) + 2 ≤ q ∧ q < (a + 38) + 150)) H H1)) S hr hlocks rfl ?_ hL dX7_pass_31
        exact ⟨h_bk, h_hs, h_hu, hF⟩
    · have hf := (if_neg c_2).symm.trans hf
      refine lv_ldc (v := (-2000000001)) hx hb hown (hts _ (xm 1 rfl)) dX7_pass_11 ?_
      obtain ⟨q0, qq0⟩ := Prod.mk.inj (Option.some.inj hf)
      obtain ⟨q1, qq1⟩ := Prod.mk.inj (qq0)
      obtain ⟨q2, qq2⟩ := Prod.mk.inj (qq1)
      have q3 := qq2
      subst r0
      subst v'
      subst hv'
      subst kv'
      subst hQ
      refine x_iret (post := (fun H H1 => PX G (a + 1) 37 (bkE G (a + 1)) v H1 ∧ PX G (a + 38) 2 (hsE G (a + 38)) hv H1 ∧ HU G (a + 38) kv H1 ∧ XF (fun q => ((a + 1) ≤ q ∧ q < (a + 1) + 37) ∨ ((a + 38) ≤ q ∧ q < (a + 38) + 2) ∨ ((a + 38) + 2 ≤ q ∧ q < (a + 38) + 150)) H H1)) S hr hlocks rfl ?_ hL dX7_pass_13
      exact ⟨h_bk, h_hs, h_hu, hF⟩
set_option maxRecDepth 100000 in
set_option maxHeartbeats 4000000 in
theorem c_X7_pay (l : Launch) (G : xG) (z : Nat) (a : Nat) (dv : xV) (v : xV) (hv : xV) (kv : Nat → xV) (p1 : Int32) (p2 : Int32) (r0 : Int32) (v' : xV) (hv' : xV) (kv' : Nat → xV) (hz_bk : z ≤ (a + 1)) (hz_hs : z ≤ (a + 38)) (hf : f_X7_pay dv v hv kv p1 p2 = some (r0, v', hv', kv')) : xM l yX7_pay wsX7_pay 4 104 G z [.ref a, .int p1, .int p2] (fun H => PX G a 1 (hlE a) dv H ∧ PX G (a + 1) 37 (bkE G (a + 1)) v H ∧ PX G (a + 38) 2 (hsE G (a + 38)) hv H ∧ HU G (a + 38) kv H) (some (.int r0)) (fun H H1 => PX G (a + 1) 37 (bkE G (a + 1)) v' H1 ∧ PX G (a + 38) 2 (hsE G (a + 38)) hv' H1 ∧ HU G (a + 38) kv' H1 ∧ XF (fun q => ((a + 1) ≤ q ∧ q < (a + 1) + 37) ∨ ((a + 38) ≤ q ∧ q < (a + 38) + 2) ∨ ((a + 38) + 2 ≤ q ∧ q < (a + 38) + 150)) H H1) := by
  refine xM.of (cc := cX7_pay) (maxL := 3) (ret := (some .int)) (by decide +kernel) rfl (Nat.le_of_ble_eq_true rfl) ?_
  intro p e s m args below meth c ls Q hQ S hr hlocks hK hP hl
  obtain ⟨hx, hb, hml, hown, hts⟩ := id S
  obtain ⟨h_hl, h_bk, h_hs, h_hu⟩ := hP
  have hL : ∀ q ∈ ([] : List Loc), z ≤ q.base := fun q h => absurd h List.not_mem_nil
  have hF : XF (fun q => ((a + 1) ≤ q ∧ q < (a + 1) + 37) ∨ ((a + 38) ≤ q ∧ q < (a + 38) + 2) ∨ ((a + 38) + 2 ≤ q ∧ q < (a + 38) + 150)) s.heap s.heap := XF.rf
  have hl : lv_has ls 3 [(0, .ref a), (1, .int p1), (2, .int p2)] := hl
  have in0 : ∀ w ∈ u_ws RX0 TX0 9, w ∈ wsX7_pay := fun _ h => List.mem_cons_of_mem _ (List.mem_append_left _ (List.mem_append_left _ (List.mem_append_left _ (List.mem_append_right _ h))))
  have in7 : ∀ w ∈ u_ws RX7 TX7 6, w ∈ wsX7_pay := fun _ h => List.mem_cons_of_mem _ (List.mem_append_left _ (List.mem_append_left _ (List.mem_append_left _ (List.mem_append_left _ (List.mem_append_right _ h)))))
  unfold f_X7_pay at hf
  refine lv_aload_n hx hb dX7_pay_0 rfl (lv_at hl 0 rfl) ?_
  refine x_get S hK h_hl 0 (by decide) rfl rfl rfl in7 0 (by decide) (xm 1 rfl) (x := .ref (a + 1)) rfl dX7_pay_1 ?_
  refine lv_iload_n hx hb dX7_pay_4 rfl (lv_at hl 1 rfl) ?_
  obtain ⟨r_1, e_2, hf⟩ := xb_some hf
  refine x_callVi (As := [.int p1]) (rest := []) S hK (c_X0_isHirer l G z (a + 1) v p1 r_1 e_2) gX7_pay_X0_isHirer rfl 1 (by decide +kernel) rfl ⟨Nat.le_of_ble_eq_true rfl, Nat.le_of_ble_eq_true rfl⟩ h_bk 0 (by decide) rfl rfl rfl h_bk hl.1 rfl (Nat.le_of_ble_eq_true rfl) dX7_pay_5 hL ⟨Nat.zero_le _, Nat.zero_le _⟩ (fun H1 locs hL hpost => ?_)
  subst hpost
  refine lv_if_eq (tgt := 22) hx hb dX7_pay_8 (by decide) (fun c_3 => ?_) (fun c_3 => ?_)
  · have hf := (if_pos c_3).symm.trans hf
    refine lv_ldc (v := (-2000000001)) hx hb hown (hts _ (xm 3 rfl)) dX7_pay_22 ?_
    obtain ⟨q0, qq0⟩ := Prod.mk.inj (Option.some.inj hf)
    obtain ⟨q1, qq1⟩ := Prod.mk.inj (qq0)
    obtain ⟨q2, qq2⟩ := Prod.mk.inj (qq1)
    have q3 := qq2
    subst r0
    subst v'
    subst hv'
    subst kv'
    subst hQ
    refine x_iret (post := (fun H H1 => PX G (a + 1) 37 (bkE G (a + 1)) v H1 ∧ PX G (a + 38) 2 (hsE G (a + 38)) hv H1 ∧ HU G (a + 38) kv H1 ∧ XF (fun q => ((a + 1) ≤ q ∧ q < (a + 1) + 37) ∨ ((a + 38) ≤ q ∧ q < (a + 38) + 2) ∨ ((a + 38) + 2 ≤ q ∧ q < (a + 38) + 150)) H H1)) S hr hlocks rfl ?_ hL dX7_pay_24
    exact ⟨h_bk, h_hs, h_hu, hF⟩
  · have hf := (if_neg c_3).symm.trans hf
    refine lv_iload_n hx hb dX7_pay_11 rfl (lv_at hl 2 rfl) ?_
    refine lv_iconst (v := 1) hx hb dX7_pay_12 (by decide) ?_
    refine lv_icmp_lt (tgt := 22) hx hb dX7_pay_13 (by decide) (fun c_4 => ?_) (fun c_4 => ?_)
    · have hf := (if_pos c_4).symm.trans hf
      refine lv_ldc (v := (-2000000001)) hx hb hown (hts _ (xm 3 rfl)) dX7_pay_22 ?_
      obtain ⟨q0, qq0⟩ := Prod.mk.inj (Option.some.inj hf)
      obtain ⟨q1, qq1⟩ := Prod.mk.inj (qq0)
      obtain ⟨q2, qq2⟩ := Prod.mk.inj (qq1)
      have q3 := qq2
      subst r0
      subst v'
      subst hv'
      subst kv'
      subst hQ
      refine x_iret (post := (fun H H1 => PX G (a + 1) 37 (bkE G (a + 1)) v H1 ∧ PX G (a + 38) 2 (hsE G (a + 38)) hv H1 ∧ HU G (a + 38) kv H1 ∧ XF (fun q => ((a + 1) ≤ q ∧ q < (a + 1) + 37) ∨ ((a + 38) ≤ q ∧ q < (a + 38) + 2) ∨ ((a + 38) + 2 ≤ q ∧ q < (a + 38) + 150)) H H1)) S hr hlocks rfl ?_ hL dX7_pay_24
      exact ⟨h_bk, h_hs, h_hu, hF⟩
    · have hf := (if_neg c_4).symm.trans hf
      refine lv_iload_n hx hb dX7_pay_16 rfl (lv_at hl 2 rfl) ?_
      refine lv_ldc (v := 1000000) hx hb hown (hts _ (xm 2 rfl)) dX7_pay_17 ?_
      refine lv_icmp_le (tgt := 25) hx hb dX7_pay_19 (by decide) (fun c_5 => ?_) (fun c_5 => ?_)
      · have hf := (if_pos c_5).symm.trans hf
        refine lv_aload_n hx hb dX7_pay_25 rfl (lv_at hl 0 rfl) ?_
        refine x_get S hK h_hl 0 (by decide) rfl rfl rfl in7 0 (by decide) (xm 1 rfl) (x := .ref (a + 1)) rfl dX7_pay_26 ?_
        refine x_get S hK h_bk 0 (by decide) rfl rfl rfl in0 6 (by decide) (xm 4 rfl) (x := .ref ((a + 1) + 4)) rfl dX7_pay_29 ?_
        refine lv_iload_n hx hb dX7_pay_32 rfl (lv_at hl 1 rfl) ?_
        obtain ⟨g_6, hf⟩ := xg_some hf
        refine x_iald S hK h_bk 4 (by decide) rfl rfl p1.toNatClampNeg rfl g_6 dX7_pay_33 ?_
        refine lv_iload_n hx hb dX7_pay_34 rfl (lv_at hl 2 rfl) ?_
        refine lv_iadd hx hb dX7_pay_35 ?_
        refine lv_ldc (v := 100000000) hx hb hown (hts _ (xm 5 rfl)) dX7_pay_36 ?_
        refine lv_icmp_le (tgt := 44) hx hb dX7_pay_38 (by decide) (fun c_7 => ?_) (fun c_7 => ?_)
        · have hf := (if_pos c_7).symm.trans hf
          refine lv_aload_n hx hb dX7_pay_44 rfl (lv_at hl 0 rfl) ?_
          refine x_get S hK h_hl 0 (by decide) rfl rfl rfl in7 1 (by decide) (xm 7 rfl) (x := .ref (a + 38)) rfl dX7_pay_45 ?_
          refine lv_aload_n hx hb dX7_pay_48 rfl (lv_at hl 0 rfl) ?_
          refine x_get S hK h_hl 0 (by decide) rfl rfl rfl in7 0 (by decide) (xm 1 rfl) (x := .ref (a + 1)) rfl dX7_pay_49 ?_
          obtain ⟨hv_8, kv_9, e_10, hf⟩ := xb2_some hf
          refine x_callVv (As := [.ref (a + 1)]) (rest := []) S hK (c_X2_save l G z (a + 38) (a + 1) hv kv v hv_8 kv_9 (by omega) (by omega) (by omega) e_10) gX7_pay_X2_save rfl 1 (by decide +kernel) rfl ⟨Nat.le_of_ble_eq_true rfl, Nat.le_of_ble_eq_true rfl⟩ h_hs 0 (by decide) rfl rfl rfl ⟨h_hs, h_hu, h_bk⟩ hl.1 rfl (Nat.le_of_ble_eq_true rfl) dX7_pay_52 hL ⟨Nat.zero_le _, Nat.zero_le _⟩ (fun H1 locs hL hpost => ?_)
          obtain ⟨n_hs, n_hu, hfr⟩ := hpost
          have h_hs := n_hs
          have h_hu := n_hu
          have h_hl := h_hl.kept hfr (fun q h1 h2 h3 => by (try dsimp only at h3); omega)
          have h_bk := h_bk.kept hfr (fun q h1 h2 h3 => by (try dsimp only at h3); omega)
          have hF := hF.step hfr (fun q h => by (try dsimp only at h ⊢); omega)
          refine lv_aload_n hx hb dX7_pay_55 rfl (lv_at hl 0 rfl) ?_
          refine x_get S hK h_hl 0 (by decide) rfl rfl rfl in7 0 (by decide) (xm 1 rfl) (x := .ref (a + 1)) rfl dX7_pay_56 ?_
          refine lv_iload_n hx hb dX7_pay_59 rfl (lv_at hl 1 rfl) ?_
          refine lv_iload_n hx hb dX7_pay_60 rfl (lv_at hl 2 rfl) ?_
          refine lv_bipush (v := 8) hx hb dX7_pay_61 (by decide) ?_
          obtain ⟨v_11, e_12, hf⟩ := xb_some hf
          refine x_callVv (As := [.int p1, .int p2, .int 8]) (rest := []) S hK (c_X0_credit l G z (a + 1) v p1 p2 8 v_11 (by omega) e_12) gX7_pay_X0_credit rfl 3 (by decide +kernel) rfl ⟨Nat.le_of_ble_eq_true rfl, Nat.le_of_ble_eq_true rfl⟩ h_bk 0 (by decide) rfl rfl rfl h_bk hl.1 rfl (Nat.le_of_ble_eq_true rfl) dX7_pay_63 hL ⟨Nat.zero_le _, Nat.zero_le _⟩ (fun H1 locs hL hpost => ?_)
          obtain ⟨n_bk, hfr⟩ := hpost
          have h_bk := n_bk
          have h_hl := h_hl.kept hfr (fun q h1 h2 h3 => by (try dsimp only at h3); omega)
          have h_hs := h_hs.kept hfr (fun q h1 h2 h3 => by (try dsimp only at h3); omega)
          have h_hu := h_hu.kept hfr (fun q h1 h2 h3 => by (try dsimp only at h3); omega)
          have hF := hF.step hfr (fun q h => by (try dsimp only at h ⊢); omega)
          refine lv_aload_n hx hb dX7_pay_66 rfl (lv_at hl 0 rfl) ?_
          refine x_get S hK h_hl 0 (by decide) rfl rfl rfl in7 0 (by decide) (xm 1 rfl) (x := .ref (a + 1)) rfl dX7_pay_67 ?_
          refine x_get S hK h_bk 0 (by decide) rfl rfl rfl in0 5 (by decide) (xm 8 rfl) (x := .ref ((a + 1) + 3)) rfl dX7_pay_70 ?_
          refine lv_iload_n hx hb dX7_pay_73 rfl (lv_at hl 1 rfl) ?_
          obtain ⟨g_13, hf⟩ := xg_some hf
          refine x_iald S hK h_bk 3 (by decide) rfl rfl p1.toNatClampNeg rfl g_13 dX7_pay_74 ?_
          refine lv_aload_n hx hb dX7_pay_75 rfl (lv_at hl 0 rfl) ?_
          refine x_get S hK h_hl 0 (by decide) rfl rfl rfl in7 0 (by decide) (xm 1 rfl) (x := .ref (a + 1)) rfl dX7_pay_76 ?_
          refine x_get S hK h_bk 0 (by decide) rfl rfl rfl in0 6 (by decide) (xm 4 rfl) (x := .ref ((a + 1) + 4)) rfl dX7_pay_79 ?_
          refine lv_iload_n hx hb dX7_pay_82 rfl (lv_at hl 1 rfl) ?_
          obtain ⟨g_14, hf⟩ := xg_some hf
          refine x_iald S hK h_bk 4 (by decide) rfl rfl p1.toNatClampNeg rfl g_14 dX7_pay_83 ?_
          refine lv_isub hx hb dX7_pay_84 ?_
          obtain ⟨q0, qq0⟩ := Prod.mk.inj (Option.some.inj hf)
          obtain ⟨q1, qq1⟩ := Prod.mk.inj (qq0)
          obtain ⟨q2, qq2⟩ := Prod.mk.inj (qq1)
          have q3 := qq2
          subst r0
          subst v'
          subst hv'
          subst kv'
          subst hQ
          refine x_iret (post := (fun H H1 => PX G (a + 1) 37 (bkE G (a + 1)) v_11 H1 ∧ PX G (a + 38) 2 (hsE G (a + 38)) hv_8 H1 ∧ HU G (a + 38) kv_9 H1 ∧ XF (fun q => ((a + 1) ≤ q ∧ q < (a + 1) + 37) ∨ ((a + 38) ≤ q ∧ q < (a + 38) + 2) ∨ ((a + 38) + 2 ≤ q ∧ q < (a + 38) + 150)) H H1)) S hr hlocks rfl ?_ hL dX7_pay_85
          exact ⟨h_bk, h_hs, h_hu, hF⟩
        · have hf := (if_neg c_7).symm.trans hf
          refine lv_ldc (v := (-2000000003)) hx hb hown (hts _ (xm 6 rfl)) dX7_pay_41 ?_
          obtain ⟨q0, qq0⟩ := Prod.mk.inj (Option.some.inj hf)
          obtain ⟨q1, qq1⟩ := Prod.mk.inj (qq0)
          obtain ⟨q2, qq2⟩ := Prod.mk.inj (qq1)
          have q3 := qq2
          subst r0
          subst v'
          subst hv'
          subst kv'
          subst hQ
          refine x_iret (post := (fun H H1 => PX G (a + 1) 37 (bkE G (a + 1)) v H1 ∧ PX G (a + 38) 2 (hsE G (a + 38)) hv H1 ∧ HU G (a + 38) kv H1 ∧ XF (fun q => ((a + 1) ≤ q ∧ q < (a + 1) + 37) ∨ ((a + 38) ≤ q ∧ q < (a + 38) + 2) ∨ ((a + 38) + 2 ≤ q ∧ q < (a + 38) + 150)) H H1)) S hr hlocks rfl ?_ hL dX7_pay_43
          exact ⟨h_bk, h_hs, h_hu, hF⟩
      · have hf := (if_neg c_5).symm.trans hf
        refine lv_ldc (v := (-2000000001)) hx hb hown (hts _ (xm 3 rfl)) dX7_pay_22 ?_
        obtain ⟨q0, qq0⟩ := Prod.mk.inj (Option.some.inj hf)
        obtain ⟨q1, qq1⟩ := Prod.mk.inj (qq0)
        obtain ⟨q2, qq2⟩ := Prod.mk.inj (qq1)
        have q3 := qq2
        subst r0
        subst v'
        subst hv'
        subst kv'
        subst hQ
        refine x_iret (post := (fun H H1 => PX G (a + 1) 37 (bkE G (a + 1)) v H1 ∧ PX G (a + 38) 2 (hsE G (a + 38)) hv H1 ∧ HU G (a + 38) kv H1 ∧ XF (fun q => ((a + 1) ≤ q ∧ q < (a + 1) + 37) ∨ ((a + 38) ≤ q ∧ q < (a + 38) + 2) ∨ ((a + 38) + 2 ≤ q ∧ q < (a + 38) + 150)) H H1)) S hr hlocks rfl ?_ hL dX7_pay_24
        exact ⟨h_bk, h_hs, h_hu, hF⟩
set_option maxRecDepth 100000 in
set_option maxHeartbeats 4000000 in
theorem c_X7_price (l : Launch) (G : xG) (z : Nat) (a : Nat) (dv : xV) (v : xV) (wv : xV) (p1 : Int32) (p2 : Int32) (p3 : Int32) (r0 : Int32) (wv' : xV) (hz_ws : z ≤ (a + 229)) (hf : f_X7_price dv v wv p1 p2 p3 = some (r0, wv')) : xM l yX7_price wsX7_price 3 88 G z [.ref a, .int p1, .int p2, .int p3] (fun H => PX G a 1 (hlE a) dv H ∧ PX G (a + 1) 37 (bkE G (a + 1)) v H ∧ PX G (a + 229) 1 wsE wv H) (some (.int r0)) (fun H H1 => PX G (a + 229) 1 wsE wv' H1 ∧ XF (fun q => ((a + 229) ≤ q ∧ q < (a + 229) + 1)) H H1) := by
  refine xM.of (cc := cX7_price) (maxL := 4) (ret := (some .int)) (by decide +kernel) rfl (Nat.le_of_ble_eq_true rfl) ?_
  intro p e s m args below meth c ls Q hQ S hr hlocks hK hP hl
  obtain ⟨hx, hb, hml, hown, hts⟩ := id S
  obtain ⟨h_hl, h_bk, h_ws⟩ := hP
  have hL : ∀ q ∈ ([] : List Loc), z ≤ q.base := fun q h => absurd h List.not_mem_nil
  have hF : XF (fun q => ((a + 229) ≤ q ∧ q < (a + 229) + 1)) s.heap s.heap := XF.rf
  have hl : lv_has ls 4 [(0, .ref a), (1, .int p1), (2, .int p2), (3, .int p3)] := hl
  have in6 : ∀ w ∈ u_ws RX6 TX6 7, w ∈ wsX7_price := fun _ h => List.mem_cons_of_mem _ (List.mem_append_left _ (List.mem_append_right _ h))
  have in7 : ∀ w ∈ u_ws RX7 TX7 6, w ∈ wsX7_price := fun _ h => List.mem_cons_of_mem _ (List.mem_append_left _ (List.mem_append_left _ (List.mem_append_right _ h)))
  unfold f_X7_price at hf
  refine lv_aload_n hx hb dX7_price_0 rfl (lv_at hl 0 rfl) ?_
  refine x_get S hK h_hl 0 (by decide) rfl rfl rfl in7 4 (by decide) (xm 1 rfl) (x := .ref (a + 229)) rfl dX7_price_1 ?_
  refine lv_iload_n hx hb dX7_price_4 rfl (lv_at hl 1 rfl) ?_
  obtain ⟨wv_1, ewv_1, hf⟩ := xl_some hf
  refine x_put S hK h_ws hz_ws hL 0 (by decide) rfl rfl rfl in6 tyX6 tyX6_ok nmX6 1 (by decide) (xm 2 rfl) rfl (vp_nar_int _) rfl (Nat.le_of_ble_eq_true rfl) rfl ewv_1 dX7_price_5 (fun H1 locs hL h_ws hfr => ?_)
  have h_hl := h_hl.kept hfr (fun q h1 h2 h3 => by (try dsimp only at h3); omega)
  have h_bk := h_bk.kept hfr (fun q h1 h2 h3 => by (try dsimp only at h3); omega)
  have hF := hF.step hfr (fun q h => by (try dsimp only at h ⊢); omega)
  refine lv_aload_n hx hb dX7_price_8 rfl (lv_at hl 0 rfl) ?_
  refine x_get S hK h_hl 0 (by decide) rfl rfl rfl in7 4 (by decide) (xm 1 rfl) (x := .ref (a + 229)) rfl dX7_price_9 ?_
  refine lv_iload_n hx hb dX7_price_12 rfl (lv_at hl 2 rfl) ?_
  obtain ⟨wv_2, e_3, hf⟩ := xb_some hf
  refine x_callVv (As := [.int p2]) (rest := []) S hK (c_X6_takeHours l G z (a + 229) wv_1 p2 wv_2 (by omega) e_3) gX7_price_X6_takeHours rfl 1 (by decide +kernel) rfl ⟨Nat.le_of_ble_eq_true rfl, Nat.le_of_ble_eq_true rfl⟩ h_ws 0 (by decide) rfl rfl rfl h_ws hl.1 rfl (Nat.le_of_ble_eq_true rfl) dX7_price_13 hL ⟨Nat.zero_le _, Nat.zero_le _⟩ (fun H1 locs hL hpost => ?_)
  obtain ⟨n_ws, hfr⟩ := hpost
  have h_ws := n_ws
  have h_hl := h_hl.kept hfr (fun q h1 h2 h3 => by (try dsimp only at h3); omega)
  have h_bk := h_bk.kept hfr (fun q h1 h2 h3 => by (try dsimp only at h3); omega)
  have hF := hF.step hfr (fun q h => by (try dsimp only at h ⊢); omega)
  refine lv_aload_n hx hb dX7_price_16 rfl (lv_at hl 0 rfl) ?_
  refine x_get S hK h_hl 0 (by decide) rfl rfl rfl in7 4 (by decide) (xm 1 rfl) (x := .ref (a + 229)) rfl dX7_price_17 ?_
  refine lv_iconst (v := 0) hx hb dX7_price_20 (by decide) ?_
  refine lv_iload_n hx hb dX7_price_21 rfl (lv_at hl 3 rfl) ?_
  refine lv_iconst (v := 1) hx hb dX7_price_22 (by decide) ?_
  obtain ⟨wv_4, e_5, hf⟩ := xb_some hf
  refine x_callVv (As := [.int 0, .int p3, .int 1]) (rest := []) S hK (c_X6_takeSeries l G z (a + 229) wv_2 0 p3 1 wv_4 (by omega) e_5) gX7_price_X6_takeSeries rfl 3 (by decide +kernel) rfl ⟨Nat.le_of_ble_eq_true rfl, Nat.le_of_ble_eq_true rfl⟩ h_ws 0 (by decide) rfl rfl rfl h_ws hl.1 rfl (Nat.le_of_ble_eq_true rfl) dX7_price_23 hL ⟨Nat.zero_le _, Nat.zero_le _⟩ (fun H1 locs hL hpost => ?_)
  obtain ⟨n_ws, hfr⟩ := hpost
  have h_ws := n_ws
  have h_hl := h_hl.kept hfr (fun q h1 h2 h3 => by (try dsimp only at h3); omega)
  have h_bk := h_bk.kept hfr (fun q h1 h2 h3 => by (try dsimp only at h3); omega)
  have hF := hF.step hfr (fun q h => by (try dsimp only at h ⊢); omega)
  refine lv_iload_n hx hb dX7_price_26 rfl (lv_at hl 1 rfl) ?_
  obtain ⟨r_6, e_7, hf⟩ := xb_some hf
  refine x_callTi (As := [.int p1]) (rest := []) S hK (c_X7_areRooms l G z p1 r_6 e_7) gX7_price_X7_areRooms rfl 1 (by decide +kernel) rfl ⟨Nat.le_of_ble_eq_true rfl, Nat.le_of_ble_eq_true rfl⟩ rfl hl.1 rfl (Nat.le_of_ble_eq_true rfl) dX7_price_27 hL ⟨Nat.zero_le _, Nat.zero_le _⟩ (fun H1 locs hL hpost => ?_)
  subst hpost
  refine lv_if_eq (tgt := 44) hx hb dX7_price_30 (by decide) (fun c_8 => ?_) (fun c_8 => ?_)
  · have hf := (if_pos c_8).symm.trans hf
    refine lv_ldc (v := (-2000000001)) hx hb hown (hts _ (xm 3 rfl)) dX7_price_44 ?_
    obtain ⟨q0, qq0⟩ := Prod.mk.inj (Option.some.inj hf)
    have q1 := qq0
    subst r0
    subst wv'
    subst hQ
    refine x_iret (post := (fun H H1 => PX G (a + 229) 1 wsE wv_4 H1 ∧ XF (fun q => ((a + 229) ≤ q ∧ q < (a + 229) + 1)) H H1)) S hr hlocks rfl ?_ hL dX7_price_46
    exact ⟨h_ws, hF⟩
  · have hf := (if_neg c_8).symm.trans hf
    refine lv_aload_n hx hb dX7_price_33 rfl (lv_at hl 0 rfl) ?_
    refine x_get S hK h_hl 0 (by decide) rfl rfl rfl in7 4 (by decide) (xm 1 rfl) (x := .ref (a + 229)) rfl dX7_price_34 ?_
    refine lv_iconst (v := 0) hx hb dX7_price_37 (by decide) ?_
    obtain ⟨r_9, e_10, hf⟩ := xb_some hf
    refine x_callVi (As := [.int 0]) (rest := []) S hK (c_X6_isInRange l G z (a + 229) wv_4 0 r_9 e_10) gX7_price_X6_isInRange rfl 1 (by decide +kernel) rfl ⟨Nat.le_of_ble_eq_true rfl, Nat.le_of_ble_eq_true rfl⟩ h_ws 0 (by decide) rfl rfl rfl h_ws hl.1 rfl (Nat.le_of_ble_eq_true rfl) dX7_price_38 hL ⟨Nat.zero_le _, Nat.zero_le _⟩ (fun H1 locs hL hpost => ?_)
    subst hpost
    refine lv_if_ne (tgt := 47) hx hb dX7_price_41 (by decide) (fun c_11 => ?_) (fun c_11 => ?_)
    · have hf := (if_neg c_11).symm.trans hf
      refine lv_aload_n hx hb dX7_price_47 rfl (lv_at hl 0 rfl) ?_
      refine x_get S hK h_hl 0 (by decide) rfl rfl rfl in7 0 (by decide) (xm 4 rfl) (x := .ref (a + 1)) rfl dX7_price_48 ?_
      refine lv_aload_n hx hb dX7_price_51 rfl (lv_at hl 0 rfl) ?_
      refine x_get S hK h_hl 0 (by decide) rfl rfl rfl in7 4 (by decide) (xm 1 rfl) (x := .ref (a + 229)) rfl dX7_price_52 ?_
      obtain ⟨r_12, e_13, hf⟩ := xb_some hf
      refine x_callVi (As := [.ref (a + 229)]) (rest := []) S hK (c_X0_priceOf l G z (a + 1) (a + 229) v wv_4 r_12 e_13) gX7_price_X0_priceOf rfl 1 (by decide +kernel) rfl ⟨Nat.le_of_ble_eq_true rfl, Nat.le_of_ble_eq_true rfl⟩ h_bk 0 (by decide) rfl rfl rfl ⟨h_bk, h_ws⟩ hl.1 rfl (Nat.le_of_ble_eq_true rfl) dX7_price_55 hL ⟨Nat.zero_le _, Nat.zero_le _⟩ (fun H1 locs hL hpost => ?_)
      subst hpost
      obtain ⟨q0, qq0⟩ := Prod.mk.inj (Option.some.inj hf)
      have q1 := qq0
      subst r0
      subst wv'
      subst hQ
      refine x_iret (post := (fun H H1 => PX G (a + 229) 1 wsE wv_4 H1 ∧ XF (fun q => ((a + 229) ≤ q ∧ q < (a + 229) + 1)) H H1)) S hr hlocks rfl ?_ hL dX7_price_58
      exact ⟨h_ws, hF⟩
    · have hf := (if_pos c_11).symm.trans hf
      refine lv_ldc (v := (-2000000001)) hx hb hown (hts _ (xm 3 rfl)) dX7_price_44 ?_
      obtain ⟨q0, qq0⟩ := Prod.mk.inj (Option.some.inj hf)
      have q1 := qq0
      subst r0
      subst wv'
      subst hQ
      refine x_iret (post := (fun H H1 => PX G (a + 229) 1 wsE wv_4 H1 ∧ XF (fun q => ((a + 229) ≤ q ∧ q < (a + 229) + 1)) H H1)) S hr hlocks rfl ?_ hL dX7_price_46
      exact ⟨h_ws, hF⟩
set_option maxRecDepth 100000 in
set_option maxHeartbeats 4000000 in
theorem c_X7_report (l : Launch) (G : xG) (z : Nat) (a : Nat) (dv : xV) (v : xV) (hv : xV) (kv : Nat → xV) (p1 : Int32) (p2 : Int32) (r0 : Int32) (v' : xV) (hv' : xV) (kv' : Nat → xV) (hz_bk : z ≤ (a + 1)) (hz_hs : z ≤ (a + 38)) (hf : f_X7_report dv v hv kv p1 p2 = some (r0, v', hv', kv')) : xM l yX7_report wsX7_report 4 104 G z [.ref a, .int p1, .int p2] (fun H => PX G a 1 (hlE a) dv H ∧ PX G (a + 1) 37 (bkE G (a + 1)) v H ∧ PX G (a + 38) 2 (hsE G (a + 38)) hv H ∧ HU G (a + 38) kv H) (some (.int r0)) (fun H H1 => PX G (a + 1) 37 (bkE G (a + 1)) v' H1 ∧ PX G (a + 38) 2 (hsE G (a + 38)) hv' H1 ∧ HU G (a + 38) kv' H1 ∧ XF (fun q => ((a + 1) ≤ q ∧ q < (a + 1) + 37) ∨ ((a + 38) ≤ q ∧ q < (a + 38) + 2) ∨ ((a + 38) + 2 ≤ q ∧ q < (a + 38) + 150)) H H1) := by
  refine xM.of (cc := cX7_report) (maxL := 6) (ret := (some .int)) (by decide +kernel) rfl (Nat.le_of_ble_eq_true rfl) ?_
  intro p e s m args below meth c ls Q hQ S hr hlocks hK hP hl
  obtain ⟨hx, hb, hml, hown, hts⟩ := id S
  obtain ⟨h_hl, h_bk, h_hs, h_hu⟩ := hP
  have hL : ∀ q ∈ ([] : List Loc), z ≤ q.base := fun q h => absurd h List.not_mem_nil
  have hF : XF (fun q => ((a + 1) ≤ q ∧ q < (a + 1) + 37) ∨ ((a + 38) ≤ q ∧ q < (a + 38) + 2) ∨ ((a + 38) + 2 ≤ q ∧ q < (a + 38) + 150)) s.heap s.heap := XF.rf
  have hl : lv_has ls 6 [(0, .ref a), (1, .int p1), (2, .int p2)] := hl
  have in1 : ∀ w ∈ u_ws RX1 TX1 15, w ∈ wsX7_report := fun _ h => List.mem_cons_of_mem _ (List.mem_append_left _ (List.mem_append_left _ (List.mem_append_left _ (List.mem_append_right _ h))))
  have in7 : ∀ w ∈ u_ws RX7 TX7 6, w ∈ wsX7_report := fun _ h => List.mem_cons_of_mem _ (List.mem_append_left _ (List.mem_append_left _ (List.mem_append_left _ (List.mem_append_left _ (List.mem_append_right _ h)))))
  unfold f_X7_report at hf
  refine lv_aload_n hx hb dX7_report_0 rfl (lv_at hl 0 rfl) ?_
  refine x_get S hK h_hl 0 (by decide) rfl rfl rfl in7 0 (by decide) (xm 1 rfl) (x := .ref (a + 1)) rfl dX7_report_1 ?_
  refine lv_iload_n hx hb dX7_report_4 rfl (lv_at hl 1 rfl) ?_
  obtain ⟨o_1, e_2, hf⟩ := xb_some hf
  refine x_callVi (As := [.int p1]) (rest := []) S hK (c_X0_hireOfSession l G z (a + 1) v p1 o_1 e_2) gX7_report_X0_hireOfSession rfl 1 (by decide +kernel) rfl ⟨Nat.le_of_ble_eq_true rfl, Nat.le_of_ble_eq_true rfl⟩ h_bk 0 (by decide) rfl rfl rfl h_bk hl.1 rfl (Nat.le_of_ble_eq_true rfl) dX7_report_5 hL ⟨Nat.zero_le _, Nat.zero_le _⟩ (fun H1 locs hL hpost => ?_)
  subst hpost
  obtain _ | i_3 := o_1
  · have hf := (xo_n _ _).symm.trans hf
    show W _ _ _ _ _ _ _ _ _ _ _ _ _ _ _ (F0 _ _ _ (.null :: _))
    refine lv_astore_nN (lv' := [(3, .null), (0, .ref a), (1, .int p1), (2, .int p2)]) hx hb dX7_report_8 rfl hl (by decide) rfl (fun ls hl => ?_)
    refine lv_aload_nN hx hb dX7_report_9 rfl (lv_at hl 0 rfl) ?_
    refine lv_ifnullN (tgt := 22) hx hb dX7_report_10 (by decide) ?_
    refine lv_ldc (v := (-2000000001)) hx hb hown (hts _ (xm 2 rfl)) dX7_report_22 ?_
    obtain ⟨q0, qq0⟩ := Prod.mk.inj (Option.some.inj hf)
    obtain ⟨q1, qq1⟩ := Prod.mk.inj (qq0)
    obtain ⟨q2, qq2⟩ := Prod.mk.inj (qq1)
    have q3 := qq2
    subst r0
    subst v'
    subst hv'
    subst kv'
    subst hQ
    refine x_iret (post := (fun H H1 => PX G (a + 1) 37 (bkE G (a + 1)) v H1 ∧ PX G (a + 38) 2 (hsE G (a + 38)) hv H1 ∧ HU G (a + 38) kv H1 ∧ XF (fun q => ((a + 1) ≤ q ∧ q < (a + 1) + 37) ∨ ((a + 38) ≤ q ∧ q < (a + 38) + 2) ∨ ((a + 38) + 2 ≤ q ∧ q < (a + 38) + 150)) H H1)) S hr hlocks rfl ?_ hL dX7_report_24
    exact ⟨h_bk, h_hs, h_hu, hF⟩
  · have hf := (xo_s _ _ _).symm.trans hf
    obtain ⟨hi_i_3, hf⟩ := xg_some hf
    show W _ _ _ _ _ _ _ _ _ _ _ _ _ _ _ (F0 _ _ _ (.ref ((a + 1) + (6 + 2 * i_3)) :: _))
    refine lv_astore_n (lv' := [(3, .ref ((a + 1) + (6 + 2 * i_3))), (0, .ref a), (1, .int p1), (2, .int p2)]) hx hb dX7_report_8 rfl hl (by decide) rfl (fun ls hl => ?_)
    refine lv_aload_n hx hb dX7_report_9 rfl (lv_at hl 0 rfl) ?_
    refine lv_ifnull hx hb dX7_report_10 ?_
    refine lv_iload_n hx hb dX7_report_13 rfl (lv_at hl 3 rfl) ?_
    refine lv_if_lt (tgt := 22) hx hb dX7_report_14 (by decide) (fun c_4 => ?_) (fun c_4 => ?_)
    · have hf := (if_pos c_4).symm.trans hf
      refine lv_ldc (v := (-2000000001)) hx hb hown (hts _ (xm 2 rfl)) dX7_report_22 ?_
      obtain ⟨q0, qq0⟩ := Prod.mk.inj (Option.some.inj hf)
      obtain ⟨q1, qq1⟩ := Prod.mk.inj (qq0)
      obtain ⟨q2, qq2⟩ := Prod.mk.inj (qq1)
      have q3 := qq2
      subst r0
      subst v'
      subst hv'
      subst kv'
      subst hQ
      refine x_iret (post := (fun H H1 => PX G (a + 1) 37 (bkE G (a + 1)) v H1 ∧ PX G (a + 38) 2 (hsE G (a + 38)) hv H1 ∧ HU G (a + 38) kv H1 ∧ XF (fun q => ((a + 1) ≤ q ∧ q < (a + 1) + 37) ∨ ((a + 38) ≤ q ∧ q < (a + 38) + 2) ∨ ((a + 38) + 2 ≤ q ∧ q < (a + 38) + 150)) H H1)) S hr hlocks rfl ?_ hL dX7_report_24
      exact ⟨h_bk, h_hs, h_hu, hF⟩
    · have hf := (if_neg c_4).symm.trans hf
      refine lv_iload_n hx hb dX7_report_17 rfl (lv_at hl 3 rfl) ?_
      refine lv_iconst (v := 3) hx hb dX7_report_18 (by decide) ?_
      refine lv_icmp_le (tgt := 25) hx hb dX7_report_19 (by decide) (fun c_5 => ?_) (fun c_5 => ?_)
      · have hf := (if_pos c_5).symm.trans hf
        refine lv_aload_n hx hb dX7_report_25 rfl (lv_at hl 0 rfl) ?_
        refine lv_iload_n hx hb dX7_report_26 rfl (lv_at hl 2 rfl) ?_
        refine lv_bipush (v := 20) hx hb dX7_report_27 (by decide) ?_
        refine lv_irem hx hb dX7_report_29 (by decide) ?_
        obtain ⟨r_6, e_7, hf⟩ := xb_some hf
        refine x_callVi (As := [.int (p1 - p1 / 20 * 20)]) (rest := []) S hK (c_X1_stateOf l G z (a + 1) v i_3 (p1 - p1 / 20 * 20) r_6 hi_i_3 e_7) gX7_report_X1_stateOf rfl 1 (by decide +kernel) rfl ⟨Nat.le_of_ble_eq_true rfl, Nat.le_of_ble_eq_true rfl⟩ h_bk (6 + 2 * i_3) (by omega) rfl (bkE_hire G (a + 1) i_3 hi_i_3 _) rfl h_bk hl.1 rfl (Nat.le_of_ble_eq_true rfl) dX7_report_30 hL ⟨Nat.zero_le _, Nat.zero_le _⟩ (fun H1 locs hL hpost => ?_)
        subst hpost
        refine lv_iconst (v := 1) hx hb dX7_report_33 (by decide) ?_
        refine lv_icmp_ne (tgt := 52) hx hb dX7_report_34 (by decide) (fun c_8 => ?_) (fun c_8 => ?_)
        · have hf := (if_neg c_8).symm.trans hf
          refine lv_ldc (v := (-2000000002)) hx hb hown (hts _ (xm 4 rfl)) dX7_report_52 ?_
          obtain ⟨q0, qq0⟩ := Prod.mk.inj (Option.some.inj hf)
          obtain ⟨q1, qq1⟩ := Prod.mk.inj (qq0)
          obtain ⟨q2, qq2⟩ := Prod.mk.inj (qq1)
          have q3 := qq2
          subst r0
          subst v'
          subst hv'
          subst kv'
          subst hQ
          refine x_iret (post := (fun H H1 => PX G (a + 1) 37 (bkE G (a + 1)) v H1 ∧ PX G (a + 38) 2 (hsE G (a + 38)) hv H1 ∧ HU G (a + 38) kv H1 ∧ XF (fun q => ((a + 1) ≤ q ∧ q < (a + 1) + 37) ∨ ((a + 38) ≤ q ∧ q < (a + 38) + 2) ∨ ((a + 38) + 2 ≤ q ∧ q < (a + 38) + 150)) H H1)) S hr hlocks rfl ?_ hL dX7_report_54
          exact ⟨h_bk, h_hs, h_hu, hF⟩
        · have hf := (if_pos c_8).symm.trans hf
          refine lv_aload_n hx hb dX7_report_37 rfl (lv_at hl 0 rfl) ?_
          refine x_get S hK h_bk (6 + 2 * i_3) (by omega) rfl (bkE_hire G (a + 1) i_3 hi_i_3 _) rfl in1 13 (by decide) (xm 3 rfl) (x := .int (v (6 + 2 * i_3) 13)) rfl dX7_report_38 ?_
          refine lv_if_ne (tgt := 52) hx hb dX7_report_41 (by decide) (fun c_9 => ?_) (fun c_9 => ?_)
          · have hf := (if_neg c_9).symm.trans hf
            refine lv_ldc (v := (-2000000002)) hx hb hown (hts _ (xm 4 rfl)) dX7_report_52 ?_
            obtain ⟨q0, qq0⟩ := Prod.mk.inj (Option.some.inj hf)
            obtain ⟨q1, qq1⟩ := Prod.mk.inj (qq0)
            obtain ⟨q2, qq2⟩ := Prod.mk.inj (qq1)
            have q3 := qq2
            subst r0
            subst v'
            subst hv'
            subst kv'
            subst hQ
            refine x_iret (post := (fun H H1 => PX G (a + 1) 37 (bkE G (a + 1)) v H1 ∧ PX G (a + 38) 2 (hsE G (a + 38)) hv H1 ∧ HU G (a + 38) kv H1 ∧ XF (fun q => ((a + 1) ≤ q ∧ q < (a + 1) + 37) ∨ ((a + 38) ≤ q ∧ q < (a + 38) + 2) ∨ ((a + 38) + 2 ≤ q ∧ q < (a + 38) + 150)) H H1)) S hr hlocks rfl ?_ hL dX7_report_54
            exact ⟨h_bk, h_hs, h_hu, hF⟩
          · have hf := (if_pos c_9).symm.trans hf
            refine lv_aload_n hx hb dX7_report_44 rfl (lv_at hl 0 rfl) ?_
            refine lv_iload_n hx hb dX7_report_45 rfl (lv_at hl 3 rfl) ?_
            obtain ⟨r_10, e_11, hf⟩ := xb_some hf
            refine x_callVi (As := [.int p2]) (rest := []) S hK (c_X1_canHaveFault l G z (a + 1) v i_3 p2 r_10 hi_i_3 e_11) gX7_report_X1_canHaveFault rfl 1 (by decide +kernel) rfl ⟨Nat.le_of_ble_eq_true rfl, Nat.le_of_ble_eq_true rfl⟩ h_bk (6 + 2 * i_3) (by omega) rfl (bkE_hire G (a + 1) i_3 hi_i_3 _) rfl h_bk hl.1 rfl (Nat.le_of_ble_eq_true rfl) dX7_report_46 hL ⟨Nat.zero_le _, Nat.zero_le _⟩ (fun H1 locs hL hpost => ?_)
            subst hpost
            refine lv_if_ne (tgt := 55) hx hb dX7_report_49 (by decide) (fun c_12 => ?_) (fun c_12 => ?_)
            · have hf := (if_neg c_12).symm.trans hf
              refine lv_aload_n hx hb dX7_report_55 rfl (lv_at hl 0 rfl) ?_
              refine x_get S hK h_bk (6 + 2 * i_3) (by omega) rfl (bkE_hire G (a + 1) i_3 hi_i_3 _) rfl in1 12 (by decide) (xm 5 rfl) (x := .int (v (6 + 2 * i_3) 12)) rfl dX7_report_56 ?_
              refine lv_bipush (v := 8) hx hb dX7_report_59 (by decide) ?_
              refine lv_icmp_lt (tgt := 67) hx hb dX7_report_61 (by decide) (fun c_13 => ?_) (fun c_13 => ?_)
              · have hf := (if_pos c_13).symm.trans hf
                refine lv_aload_n hx hb dX7_report_67 rfl (lv_at hl 1 rfl) ?_
                refine x_get S hK h_hl 0 (by decide) rfl rfl rfl in7 1 (by decide) (xm 7 rfl) (x := .ref (a + 38)) rfl dX7_report_68 ?_
                refine lv_aload_n hx hb dX7_report_71 rfl (lv_at hl 1 rfl) ?_
                refine x_get S hK h_hl 0 (by decide) rfl rfl rfl in7 0 (by decide) (xm 1 rfl) (x := .ref (a + 1)) rfl dX7_report_72 ?_
                obtain ⟨hv_14, kv_15, e_16, hf⟩ := xb2_some hf
                refine x_callVv (As := [.ref (a + 1)]) (rest := []) S hK (c_X2_save l G z (a + 38) (a + 1) hv kv v hv_14 kv_15 (by omega) (by omega) (by omega) e_16) gX7_report_X2_save rfl 1 (by decide +kernel) rfl ⟨Nat.le_of_ble_eq_true rfl, Nat.le_of_ble_eq_true rfl⟩ h_hs 0 (by decide) rfl rfl rfl ⟨h_hs, h_hu, h_bk⟩ hl.1 rfl (Nat.le_of_ble_eq_true rfl) dX7_report_75 hL ⟨Nat.zero_le _, Nat.zero_le _⟩ (fun H1 locs hL hpost => ?_)
                obtain ⟨n_hs, n_hu, hfr⟩ := hpost
                have h_hs := n_hs
                have h_hu := n_hu
                have h_hl := h_hl.kept hfr (fun q h1 h2 h3 => by (try dsimp only at h3); omega)
                have h_bk := h_bk.kept hfr (fun q h1 h2 h3 => by (try dsimp only at h3); omega)
                have hF := hF.step hfr (fun q h => by (try dsimp only at h ⊢); omega)
                refine lv_aload_n hx hb dX7_report_78 rfl (lv_at hl 0 rfl) ?_
                refine lv_iload_n hx hb dX7_report_79 rfl (lv_at hl 3 rfl) ?_
                obtain ⟨r_17, e_18, hf⟩ := xb_some hf
                refine x_callVi (As := [.int p2]) (rest := []) S hK (c_X1_costOfFault l G z (a + 1) v i_3 p2 r_17 hi_i_3 e_18) gX7_report_X1_costOfFault rfl 1 (by decide +kernel) rfl ⟨Nat.le_of_ble_eq_true rfl, Nat.le_of_ble_eq_true rfl⟩ h_bk (6 + 2 * i_3) (by omega) rfl (bkE_hire G (a + 1) i_3 hi_i_3 _) rfl h_bk hl.1 rfl (Nat.le_of_ble_eq_true rfl) dX7_report_80 hL ⟨Nat.zero_le _, Nat.zero_le _⟩ (fun H1 locs hL hpost => ?_)
                subst hpost
                refine lv_istore (lv' := [(4, .int r_17), (3, .ref ((a + 1) + (6 + 2 * i_3))), (0, .ref a), (1, .int p1), (2, .int p2)]) hx hb dX7_report_83 hl (by decide) rfl (fun ls hl => ?_)
                refine lv_aload_n hx hb dX7_report_85 rfl (lv_at hl 2 rfl) ?_
                refine x_get S hK h_hl 0 (by decide) rfl rfl rfl in7 0 (by decide) (xm 1 rfl) (x := .ref (a + 1)) rfl dX7_report_86 ?_
                refine lv_aload_n hx hb dX7_report_89 rfl (lv_at hl 1 rfl) ?_
                refine lv_iload hx hb dX7_report_90 (lv_at hl 0 rfl) ?_
                refine lv_iconst (v := 4) hx hb dX7_report_92 (by decide) ?_
                obtain ⟨r_19, v_20, e_21, hf⟩ := xb2_some hf
                refine x_callVi (As := [.ref ((a + 1) + (6 + 2 * i_3)), .int r_17, .int 4]) (rest := []) S hK (c_X0_takeFromDeposit l G z (a + 1) v i_3 r_17 4 r_19 v_20 (by omega) hi_i_3 e_21) gX7_report_X0_takeFromDeposit rfl 3 (by decide +kernel) rfl ⟨Nat.le_of_ble_eq_true rfl, Nat.le_of_ble_eq_true rfl⟩ h_bk 0 (by decide) rfl rfl rfl h_bk hl.1 rfl (Nat.le_of_ble_eq_true rfl) dX7_report_93 hL ⟨Nat.zero_le _, Nat.zero_le _⟩ (fun H1 locs hL hpost => ?_)
                obtain ⟨n_bk, hfr⟩ := hpost
                have h_bk := n_bk
                have h_hl := h_hl.kept hfr (fun q h1 h2 h3 => by (try dsimp only at h3); omega)
                have h_hs := h_hs.kept hfr (fun q h1 h2 h3 => by (try dsimp only at h3); omega)
                have h_hu := h_hu.kept hfr (fun q h1 h2 h3 => by (try dsimp only at h3); omega)
                have hF := hF.step hfr (fun q h => by (try dsimp only at h ⊢); omega)
                refine lv_istore (lv' := [(5, .int r_19), (4, .int r_17), (3, .ref ((a + 1) + (6 + 2 * i_3))), (0, .ref a), (1, .int p1), (2, .int p2)]) hx hb dX7_report_96 hl (by decide) rfl (fun ls hl => ?_)
                refine lv_aload_n hx hb dX7_report_98 rfl (lv_at hl 2 rfl) ?_
                refine lv_iload_n hx hb dX7_report_99 rfl (lv_at hl 5 rfl) ?_
                refine lv_iload_n hx hb dX7_report_100 rfl (lv_at hl 4 rfl) ?_
                refine lv_iload hx hb dX7_report_101 (lv_at hl 1 rfl) ?_
                refine lv_iload hx hb dX7_report_103 (lv_at hl 0 rfl) ?_
                obtain ⟨v_22, e_23, hf⟩ := xb_some hf
                refine x_callVv (As := [.int p2, .int p1, .int r_17, .int r_19]) (rest := []) S hK (c_X1_addFault l G z (a + 1) v_20 i_3 p2 p1 r_17 r_19 v_22 (by omega) hi_i_3 e_23) gX7_report_X1_addFault rfl 4 (by decide +kernel) rfl ⟨Nat.le_of_ble_eq_true rfl, Nat.le_of_ble_eq_true rfl⟩ h_bk (6 + 2 * i_3) (by omega) rfl (bkE_hire G (a + 1) i_3 hi_i_3 _) rfl h_bk hl.1 rfl (Nat.le_of_ble_eq_true rfl) dX7_report_105 hL ⟨Nat.zero_le _, Nat.zero_le _⟩ (fun H1 locs hL hpost => ?_)
                obtain ⟨n_bk, hfr⟩ := hpost
                have h_bk := n_bk
                have h_hl := h_hl.kept hfr (fun q h1 h2 h3 => by (try dsimp only at h3); omega)
                have h_hs := h_hs.kept hfr (fun q h1 h2 h3 => by (try dsimp only at h3); omega)
                have h_hu := h_hu.kept hfr (fun q h1 h2 h3 => by (try dsimp only at h3); omega)
                have hF := hF.step hfr (fun q h => by (try dsimp only at h ⊢); omega)
                refine lv_iload hx hb dX7_report_108 (lv_at hl 1 rfl) ?_
                obtain ⟨q0, qq0⟩ := Prod.mk.inj (Option.some.inj hf)
                obtain ⟨q1, qq1⟩ := Prod.mk.inj (qq0)
                obtain ⟨q2, qq2⟩ := Prod.mk.inj (qq1)
                have q3 := qq2
                subst r0
                subst v'
                subst hv'
                subst kv'
                subst hQ
                refine x_iret (post := (fun H H1 => PX G (a + 1) 37 (bkE G (a + 1)) v_22 H1 ∧ PX G (a + 38) 2 (hsE G (a + 38)) hv_14 H1 ∧ HU G (a + 38) kv_15 H1 ∧ XF (fun q => ((a + 1) ≤ q ∧ q < (a + 1) + 37) ∨ ((a + 38) ≤ q ∧ q < (a + 38) + 2) ∨ ((a + 38) + 2 ≤ q ∧ q < (a + 38) + 150)) H H1)) S hr hlocks rfl ?_ hL dX7_report_110
                exact ⟨h_bk, h_hs, h_hu, hF⟩
              · have hf := (if_neg c_13).symm.trans hf
                refine lv_ldc (v := (-2000000003)) hx hb hown (hts _ (xm 6 rfl)) dX7_report_64 ?_
                obtain ⟨q0, qq0⟩ := Prod.mk.inj (Option.some.inj hf)
                obtain ⟨q1, qq1⟩ := Prod.mk.inj (qq0)
                obtain ⟨q2, qq2⟩ := Prod.mk.inj (qq1)
                have q3 := qq2
                subst r0
                subst v'
                subst hv'
                subst kv'
                subst hQ
                refine x_iret (post := (fun H H1 => PX G (a + 1) 37 (bkE G (a + 1)) v H1 ∧ PX G (a + 38) 2 (hsE G (a + 38)) hv H1 ∧ HU G (a + 38) kv H1 ∧ XF (fun q => ((a + 1) ≤ q ∧ q < (a + 1) + 37) ∨ ((a + 38) ≤ q ∧ q < (a + 38) + 2) ∨ ((a + 38) + 2 ≤ q ∧ q < (a + 38) + 150)) H H1)) S hr hlocks rfl ?_ hL dX7_report_66
                exact ⟨h_bk, h_hs, h_hu, hF⟩
            · have hf := (if_pos c_12).symm.trans hf
              refine lv_ldc (v := (-2000000002)) hx hb hown (hts _ (xm 4 rfl)) dX7_report_52 ?_
              obtain ⟨q0, qq0⟩ := Prod.mk.inj (Option.some.inj hf)
              obtain ⟨q1, qq1⟩ := Prod.mk.inj (qq0)
              obtain ⟨q2, qq2⟩ := Prod.mk.inj (qq1)
              have q3 := qq2
              subst r0
              subst v'
              subst hv'
              subst kv'
              subst hQ
              refine x_iret (post := (fun H H1 => PX G (a + 1) 37 (bkE G (a + 1)) v H1 ∧ PX G (a + 38) 2 (hsE G (a + 38)) hv H1 ∧ HU G (a + 38) kv H1 ∧ XF (fun q => ((a + 1) ≤ q ∧ q < (a + 1) + 37) ∨ ((a + 38) ≤ q ∧ q < (a + 38) + 2) ∨ ((a + 38) + 2 ≤ q ∧ q < (a + 38) + 150)) H H1)) S hr hlocks rfl ?_ hL dX7_report_54
              exact ⟨h_bk, h_hs, h_hu, hF⟩
      · have hf := (if_neg c_5).symm.trans hf
        refine lv_ldc (v := (-2000000001)) hx hb hown (hts _ (xm 2 rfl)) dX7_report_22 ?_
        obtain ⟨q0, qq0⟩ := Prod.mk.inj (Option.some.inj hf)
        obtain ⟨q1, qq1⟩ := Prod.mk.inj (qq0)
        obtain ⟨q2, qq2⟩ := Prod.mk.inj (qq1)
        have q3 := qq2
        subst r0
        subst v'
        subst hv'
        subst kv'
        subst hQ
        refine x_iret (post := (fun H H1 => PX G (a + 1) 37 (bkE G (a + 1)) v H1 ∧ PX G (a + 38) 2 (hsE G (a + 38)) hv H1 ∧ HU G (a + 38) kv H1 ∧ XF (fun q => ((a + 1) ≤ q ∧ q < (a + 1) + 37) ∨ ((a + 38) ≤ q ∧ q < (a + 38) + 2) ∨ ((a + 38) + 2 ≤ q ∧ q < (a + 38) + 150)) H H1)) S hr hlocks rfl ?_ hL dX7_report_24
        exact ⟨h_bk, h_hs, h_hu, hF⟩
set_option maxRecDepth 100000 in
set_option maxHeartbeats 4000000 in
theorem c_X7_session (l : Launch) (G : xG) (z : Nat) (a : Nat) (dv : xV) (v : xV) (p1 : Int32) (p2 : Int32) (r0 : Int32)  (hf : f_X7_session dv v p1 p2 = some r0) : xM l yX7_session wsX7_session 2 44 G z [.ref a, .int p1, .int p2] (fun H => PX G a 1 (hlE a) dv H ∧ PX G (a + 1) 37 (bkE G (a + 1)) v H) (some (.int r0)) (fun H H1 => H1 = H) := by
  refine xM.of (cc := cX7_session) (maxL := 5) (ret := (some .int)) (by decide +kernel) rfl (Nat.le_of_ble_eq_true rfl) ?_
  intro p e s m args below meth c ls Q hQ S hr hlocks hK hP hl
  obtain ⟨hx, hb, hml, hown, hts⟩ := id S
  obtain ⟨h_hl, h_bk⟩ := hP
  have hL : ∀ q ∈ ([] : List Loc), z ≤ q.base := fun q h => absurd h List.not_mem_nil
  have hl : lv_has ls 5 [(0, .ref a), (1, .int p1), (2, .int p2)] := hl
  have in0 : ∀ w ∈ u_ws RX0 TX0 9, w ∈ wsX7_session := fun _ h => List.mem_cons_of_mem _ (List.mem_append_left _ (List.mem_append_right _ h))
  have in7 : ∀ w ∈ u_ws RX7 TX7 6, w ∈ wsX7_session := fun _ h => List.mem_cons_of_mem _ (List.mem_append_left _ (List.mem_append_left _ (List.mem_append_right _ h)))
  unfold f_X7_session at hf
  refine lv_aload_n hx hb dX7_session_0 rfl (lv_at hl 0 rfl) ?_
  refine x_get S hK h_hl 0 (by decide) rfl rfl rfl in7 0 (by decide) (xm 1 rfl) (x := .ref (a + 1)) rfl dX7_session_1 ?_
  refine lv_iload_n hx hb dX7_session_4 rfl (lv_at hl 1 rfl) ?_
  obtain ⟨o_1, e_2, hf⟩ := xb_some hf
  refine x_callVi (As := [.int p1]) (rest := []) S hK (c_X0_hireOfSession l G z (a + 1) v p1 o_1 e_2) gX7_session_X0_hireOfSession rfl 1 (by decide +kernel) rfl ⟨Nat.le_of_ble_eq_true rfl, Nat.le_of_ble_eq_true rfl⟩ h_bk 0 (by decide) rfl rfl rfl h_bk hl.1 rfl (Nat.le_of_ble_eq_true rfl) dX7_session_5 hL ⟨Nat.zero_le _, Nat.zero_le _⟩ (fun H1 locs hL hpost => ?_)
  subst hpost
  obtain _ | i_3 := o_1
  · have hf := (xo_n _ _).symm.trans hf
    show W _ _ _ _ _ _ _ _ _ _ _ _ _ _ _ (F0 _ _ _ (.null :: _))
    refine lv_astore_nN (lv' := [(3, .null), (0, .ref a), (1, .int p1), (2, .int p2)]) hx hb dX7_session_8 rfl hl (by decide) rfl (fun ls hl => ?_)
    refine lv_aload_nN hx hb dX7_session_9 rfl (lv_at hl 0 rfl) ?_
    refine lv_ifnonnullN hx hb dX7_session_10 ?_
    refine lv_ldc (v := (-2000000001)) hx hb hown (hts _ (xm 2 rfl)) dX7_session_13 ?_
    have q0 := Option.some.inj hf
    subst r0
    subst hQ
    refine x_iret (post := (fun H H1 => H1 = H)) S hr hlocks rfl ?_ hL dX7_session_15
    exact rfl
  · have hf := (xo_s _ _ _).symm.trans hf
    obtain ⟨hi_i_3, hf⟩ := xg_some hf
    show W _ _ _ _ _ _ _ _ _ _ _ _ _ _ _ (F0 _ _ _ (.ref ((a + 1) + (6 + 2 * i_3)) :: _))
    refine lv_astore_n (lv' := [(3, .ref ((a + 1) + (6 + 2 * i_3))), (0, .ref a), (1, .int p1), (2, .int p2)]) hx hb dX7_session_8 rfl hl (by decide) rfl (fun ls hl => ?_)
    refine lv_aload_n hx hb dX7_session_9 rfl (lv_at hl 0 rfl) ?_
    refine lv_ifnonnull (tgt := 16) hx hb dX7_session_10 (by decide) ?_
    refine lv_iload_n hx hb dX7_session_16 rfl (lv_at hl 2 rfl) ?_
    refine lv_bipush (v := 20) hx hb dX7_session_17 (by decide) ?_
    refine lv_irem hx hb dX7_session_19 (by decide) ?_
    obtain ⟨x_4, ex_4, hf⟩ := xl_some hf
    refine x_top ex_4 ?_
    refine lv_istore (lv' := [(4, .int x_4), (3, .ref ((a + 1) + (6 + 2 * i_3))), (0, .ref a), (1, .int p1), (2, .int p2)]) hx hb dX7_session_20 hl (by decide) rfl (fun ls hl => ?_)
    refine lv_iload_n hx hb dX7_session_22 rfl (lv_at hl 4 rfl) ?_
    by_cases c_5 : p2 = 0
    · have hf := (if_pos c_5).symm.trans hf
      refine x_tin (tgt := 52) (off := 29) S 0 c_5 dX7_session_23 (by decide) (by decide) (by decide) (by decide) ?_
      refine lv_aload_n hx hb dX7_session_52 rfl (lv_at hl 1 rfl) ?_
      refine lv_iload hx hb dX7_session_53 (lv_at hl 0 rfl) ?_
      obtain ⟨r_6, e_7, hf⟩ := xb_some hf
      refine x_callVi (As := [.int x_4]) (rest := []) S hK (c_X1_dayOf l G z (a + 1) v i_3 x_4 r_6 hi_i_3 e_7) gX7_session_X1_dayOf rfl 1 (by decide +kernel) rfl ⟨Nat.le_of_ble_eq_true rfl, Nat.le_of_ble_eq_true rfl⟩ h_bk (6 + 2 * i_3) (by omega) rfl (bkE_hire G (a + 1) i_3 hi_i_3 _) rfl h_bk hl.1 rfl (Nat.le_of_ble_eq_true rfl) dX7_session_55 hL ⟨Nat.zero_le _, Nat.zero_le _⟩ (fun H1 locs hL hpost => ?_)
      subst hpost
      have q0 := Option.some.inj hf
      subst r0
      subst hQ
      refine x_iret (post := (fun H H1 => H1 = H)) S hr hlocks rfl ?_ hL dX7_session_58
      exact rfl
    have hf := (if_neg c_5).symm.trans hf
    by_cases c_8 : p2 = 1
    · have hf := (if_pos c_8).symm.trans hf
      refine x_tin (tgt := 59) (off := 36) S 1 c_8 dX7_session_23 (by decide) (by decide) (by decide) (by decide) ?_
      refine lv_aload_n hx hb dX7_session_59 rfl (lv_at hl 1 rfl) ?_
      refine lv_iload hx hb dX7_session_60 (lv_at hl 0 rfl) ?_
      obtain ⟨r_9, e_10, hf⟩ := xb_some hf
      refine x_callVi (As := [.int x_4]) (rest := []) S hK (c_X1_stateOf l G z (a + 1) v i_3 x_4 r_9 hi_i_3 e_10) gX7_session_X1_stateOf rfl 1 (by decide +kernel) rfl ⟨Nat.le_of_ble_eq_true rfl, Nat.le_of_ble_eq_true rfl⟩ h_bk (6 + 2 * i_3) (by omega) rfl (bkE_hire G (a + 1) i_3 hi_i_3 _) rfl h_bk hl.1 rfl (Nat.le_of_ble_eq_true rfl) dX7_session_62 hL ⟨Nat.zero_le _, Nat.zero_le _⟩ (fun H1 locs hL hpost => ?_)
      subst hpost
      have q0 := Option.some.inj hf
      subst r0
      subst hQ
      refine x_iret (post := (fun H H1 => H1 = H)) S hr hlocks rfl ?_ hL dX7_session_65
      exact rfl
    have hf := (if_neg c_8).symm.trans hf
    by_cases c_11 : p2 = 2
    · have hf := (if_pos c_11).symm.trans hf
      refine x_tin (tgt := 66) (off := 43) S 2 c_11 dX7_session_23 (by decide) (by decide) (by decide) (by decide) ?_
      refine lv_aload_n hx hb dX7_session_66 rfl (lv_at hl 1 rfl) ?_
      refine lv_iload hx hb dX7_session_67 (lv_at hl 0 rfl) ?_
      obtain ⟨r_12, e_13, hf⟩ := xb_some hf
      refine x_callVi (As := [.int x_4]) (rest := []) S hK (c_X1_shareOf l G z (a + 1) v i_3 x_4 r_12 hi_i_3 e_13) gX7_session_X1_shareOf rfl 1 (by decide +kernel) rfl ⟨Nat.le_of_ble_eq_true rfl, Nat.le_of_ble_eq_true rfl⟩ h_bk (6 + 2 * i_3) (by omega) rfl (bkE_hire G (a + 1) i_3 hi_i_3 _) rfl h_bk hl.1 rfl (Nat.le_of_ble_eq_true rfl) dX7_session_69 hL ⟨Nat.zero_le _, Nat.zero_le _⟩ (fun H1 locs hL hpost => ?_)
      subst hpost
      have q0 := Option.some.inj hf
      subst r0
      subst hQ
      refine x_iret (post := (fun H H1 => H1 = H)) S hr hlocks rfl ?_ hL dX7_session_72
      exact rfl
    have hf := (if_neg c_11).symm.trans hf
    by_cases c_14 : p2 = 3
    · have hf := (if_pos c_14).symm.trans hf
      refine x_tin (tgt := 73) (off := 50) S 3 c_14 dX7_session_23 (by decide) (by decide) (by decide) (by decide) ?_
      refine lv_aload_n hx hb dX7_session_73 rfl (lv_at hl 1 rfl) ?_
      refine lv_iload hx hb dX7_session_74 (lv_at hl 0 rfl) ?_
      obtain ⟨r_15, e_16, hf⟩ := xb_some hf
      refine x_callVi (As := [.int x_4]) (rest := []) S hK (c_X1_stateOf l G z (a + 1) v i_3 x_4 r_15 hi_i_3 e_16) gX7_session_X1_stateOf rfl 1 (by decide +kernel) rfl ⟨Nat.le_of_ble_eq_true rfl, Nat.le_of_ble_eq_true rfl⟩ h_bk (6 + 2 * i_3) (by omega) rfl (bkE_hire G (a + 1) i_3 hi_i_3 _) rfl h_bk hl.1 rfl (Nat.le_of_ble_eq_true rfl) dX7_session_76 hL ⟨Nat.zero_le _, Nat.zero_le _⟩ (fun H1 locs hL hpost => ?_)
      subst hpost
      refine lv_if_ne (tgt := 98) hx hb dX7_session_79 (by decide) (fun c_17 => ?_) (fun c_17 => ?_)
      · have hf := (if_neg c_17).symm.trans hf
        refine lv_ldc (v := (-2000000004)) hx hb hown (hts _ (xm 4 rfl)) dX7_session_98 ?_
        have q0 := Option.some.inj hf
        subst r0
        subst hQ
        refine x_iret (post := (fun H H1 => H1 = H)) S hr hlocks rfl ?_ hL dX7_session_100
        exact rfl
      · have hf := (if_pos c_17).symm.trans hf
        refine lv_aload_n hx hb dX7_session_82 rfl (lv_at hl 1 rfl) ?_
        refine lv_iload hx hb dX7_session_83 (lv_at hl 0 rfl) ?_
        refine lv_aload_n hx hb dX7_session_85 rfl (lv_at hl 2 rfl) ?_
        refine x_get S hK h_hl 0 (by decide) rfl rfl rfl in7 0 (by decide) (xm 1 rfl) (x := .ref (a + 1)) rfl dX7_session_86 ?_
        refine x_get S hK h_bk 0 (by decide) rfl rfl rfl in0 0 (by decide) (xm 3 rfl) (x := .int (v 0 0)) rfl dX7_session_89 ?_
        obtain ⟨r_18, e_19, hf⟩ := xb_some hf
        refine x_callVi (As := [.int x_4, .int (v 0 0)]) (rest := []) S hK (c_X1_refundOf l G z (a + 1) v i_3 x_4 (v 0 0) r_18 hi_i_3 e_19) gX7_session_X1_refundOf rfl 2 (by decide +kernel) rfl ⟨Nat.le_of_ble_eq_true rfl, Nat.le_of_ble_eq_true rfl⟩ h_bk (6 + 2 * i_3) (by omega) rfl (bkE_hire G (a + 1) i_3 hi_i_3 _) rfl h_bk hl.1 rfl (Nat.le_of_ble_eq_true rfl) dX7_session_92 hL ⟨Nat.zero_le _, Nat.zero_le _⟩ (fun H1 locs hL hpost => ?_)
        subst hpost
        refine lv_goto (tgt := 100) hx hb dX7_session_95 (by decide) ?_
        have q0 := Option.some.inj hf
        subst r0
        subst hQ
        refine x_iret (post := (fun H H1 => H1 = H)) S hr hlocks rfl ?_ hL dX7_session_100
        exact rfl
    have hf := (if_neg c_14).symm.trans hf
    have tc_5 : p2.toInt ≠ 0 := fun h9 => c_5 (xti (h9.trans (by decide)))
    have tc_8 : p2.toInt ≠ 1 := fun h9 => c_8 (xti (h9.trans (by decide)))
    have tc_11 : p2.toInt ≠ 2 := fun h9 => c_11 (xti (h9.trans (by decide)))
    have tc_14 : p2.toInt ≠ 3 := fun h9 => c_14 (xti (h9.trans (by decide)))
    refine lv_tableOut (tgt := 101) hx hb dX7_session_23 (by omega) (by decide) ?_
    refine lv_ldc (v := (-2000000001)) hx hb hown (hts _ (xm 2 rfl)) dX7_session_101 ?_
    have q0 := Option.some.inj hf
    subst r0
    subst hQ
    refine x_iret (post := (fun H H1 => H1 = H)) S hr hlocks rfl ?_ hL dX7_session_103
    exact rfl
set_option maxRecDepth 100000 in
set_option maxHeartbeats 4000000 in
theorem c_X7_settle (l : Launch) (G : xG) (z : Nat) (a : Nat) (dv : xV) (v : xV) (hv : xV) (kv : Nat → xV) (p1 : Int32) (r0 : Int32) (v' : xV) (hv' : xV) (kv' : Nat → xV) (hz_bk : z ≤ (a + 1)) (hz_hs : z ≤ (a + 38)) (hf : f_X7_settle dv v hv kv p1 = some (r0, v', hv', kv')) : xM l yX7_settle wsX7_settle 4 104 G z [.ref a, .int p1] (fun H => PX G a 1 (hlE a) dv H ∧ PX G (a + 1) 37 (bkE G (a + 1)) v H ∧ PX G (a + 38) 2 (hsE G (a + 38)) hv H ∧ HU G (a + 38) kv H) (some (.int r0)) (fun H H1 => PX G (a + 1) 37 (bkE G (a + 1)) v' H1 ∧ PX G (a + 38) 2 (hsE G (a + 38)) hv' H1 ∧ HU G (a + 38) kv' H1 ∧ XF (fun q => ((a + 1) ≤ q ∧ q < (a + 1) + 37) ∨ ((a + 38) ≤ q ∧ q < (a + 38) + 2) ∨ ((a + 38) + 2 ≤ q ∧ q < (a + 38) + 150)) H H1) := by
  refine xM.of (cc := cX7_settle) (maxL := 3) (ret := (some .int)) (by decide +kernel) rfl (Nat.le_of_ble_eq_true rfl) ?_
  intro p e s m args below meth c ls Q hQ S hr hlocks hK hP hl
  obtain ⟨hx, hb, hml, hown, hts⟩ := id S
  obtain ⟨h_hl, h_bk, h_hs, h_hu⟩ := hP
  have hL : ∀ q ∈ ([] : List Loc), z ≤ q.base := fun q h => absurd h List.not_mem_nil
  have hF : XF (fun q => ((a + 1) ≤ q ∧ q < (a + 1) + 37) ∨ ((a + 38) ≤ q ∧ q < (a + 38) + 2) ∨ ((a + 38) + 2 ≤ q ∧ q < (a + 38) + 150)) s.heap s.heap := XF.rf
  have hl : lv_has ls 3 [(0, .ref a), (1, .int p1)] := hl
  have in1 : ∀ w ∈ u_ws RX1 TX1 15, w ∈ wsX7_settle := fun _ h => List.mem_cons_of_mem _ (List.mem_append_left _ (List.mem_append_left _ (List.mem_append_left _ (List.mem_append_right _ h))))
  have in7 : ∀ w ∈ u_ws RX7 TX7 6, w ∈ wsX7_settle := fun _ h => List.mem_cons_of_mem _ (List.mem_append_left _ (List.mem_append_left _ (List.mem_append_left _ (List.mem_append_left _ (List.mem_append_right _ h)))))
  unfold f_X7_settle at hf
  refine lv_aload_n hx hb dX7_settle_0 rfl (lv_at hl 0 rfl) ?_
  refine x_get S hK h_hl 0 (by decide) rfl rfl rfl in7 0 (by decide) (xm 1 rfl) (x := .ref (a + 1)) rfl dX7_settle_1 ?_
  refine lv_iload_n hx hb dX7_settle_4 rfl (lv_at hl 1 rfl) ?_
  obtain ⟨o_1, e_2, hf⟩ := xb_some hf
  refine x_callVi (As := [.int p1]) (rest := []) S hK (c_X0_hireAt l G z (a + 1) v p1 o_1 e_2) gX7_settle_X0_hireAt rfl 1 (by decide +kernel) rfl ⟨Nat.le_of_ble_eq_true rfl, Nat.le_of_ble_eq_true rfl⟩ h_bk 0 (by decide) rfl rfl rfl h_bk hl.1 rfl (Nat.le_of_ble_eq_true rfl) dX7_settle_5 hL ⟨Nat.zero_le _, Nat.zero_le _⟩ (fun H1 locs hL hpost => ?_)
  subst hpost
  obtain _ | i_3 := o_1
  · have hf := (xo_n _ _).symm.trans hf
    show W _ _ _ _ _ _ _ _ _ _ _ _ _ _ _ (F0 _ _ _ (.null :: _))
    refine lv_astore_nN (lv' := [(2, .null), (0, .ref a), (1, .int p1)]) hx hb dX7_settle_8 rfl hl (by decide) rfl (fun ls hl => ?_)
    refine lv_aload_nN hx hb dX7_settle_9 rfl (lv_at hl 0 rfl) ?_
    refine lv_ifnonnullN hx hb dX7_settle_10 ?_
    refine lv_ldc (v := (-2000000001)) hx hb hown (hts _ (xm 2 rfl)) dX7_settle_13 ?_
    obtain ⟨q0, qq0⟩ := Prod.mk.inj (Option.some.inj hf)
    obtain ⟨q1, qq1⟩ := Prod.mk.inj (qq0)
    obtain ⟨q2, qq2⟩ := Prod.mk.inj (qq1)
    have q3 := qq2
    subst r0
    subst v'
    subst hv'
    subst kv'
    subst hQ
    refine x_iret (post := (fun H H1 => PX G (a + 1) 37 (bkE G (a + 1)) v H1 ∧ PX G (a + 38) 2 (hsE G (a + 38)) hv H1 ∧ HU G (a + 38) kv H1 ∧ XF (fun q => ((a + 1) ≤ q ∧ q < (a + 1) + 37) ∨ ((a + 38) ≤ q ∧ q < (a + 38) + 2) ∨ ((a + 38) + 2 ≤ q ∧ q < (a + 38) + 150)) H H1)) S hr hlocks rfl ?_ hL dX7_settle_15
    exact ⟨h_bk, h_hs, h_hu, hF⟩
  · have hf := (xo_s _ _ _).symm.trans hf
    obtain ⟨hi_i_3, hf⟩ := xg_some hf
    show W _ _ _ _ _ _ _ _ _ _ _ _ _ _ _ (F0 _ _ _ (.ref ((a + 1) + (6 + 2 * i_3)) :: _))
    refine lv_astore_n (lv' := [(2, .ref ((a + 1) + (6 + 2 * i_3))), (0, .ref a), (1, .int p1)]) hx hb dX7_settle_8 rfl hl (by decide) rfl (fun ls hl => ?_)
    refine lv_aload_n hx hb dX7_settle_9 rfl (lv_at hl 0 rfl) ?_
    refine lv_ifnonnull (tgt := 16) hx hb dX7_settle_10 (by decide) ?_
    refine lv_aload_n hx hb dX7_settle_16 rfl (lv_at hl 0 rfl) ?_
    refine x_get S hK h_bk (6 + 2 * i_3) (by omega) rfl (bkE_hire G (a + 1) i_3 hi_i_3 _) rfl in1 13 (by decide) (xm 3 rfl) (x := .int (v (6 + 2 * i_3) 13)) rfl dX7_settle_17 ?_
    refine lv_if_ne (tgt := 41) hx hb dX7_settle_20 (by decide) (fun c_4 => ?_) (fun c_4 => ?_)
    · have hf := (if_neg c_4).symm.trans hf
      refine lv_ldc (v := (-2000000002)) hx hb hown (hts _ (xm 4 rfl)) dX7_settle_41 ?_
      obtain ⟨q0, qq0⟩ := Prod.mk.inj (Option.some.inj hf)
      obtain ⟨q1, qq1⟩ := Prod.mk.inj (qq0)
      obtain ⟨q2, qq2⟩ := Prod.mk.inj (qq1)
      have q3 := qq2
      subst r0
      subst v'
      subst hv'
      subst kv'
      subst hQ
      refine x_iret (post := (fun H H1 => PX G (a + 1) 37 (bkE G (a + 1)) v H1 ∧ PX G (a + 38) 2 (hsE G (a + 38)) hv H1 ∧ HU G (a + 38) kv H1 ∧ XF (fun q => ((a + 1) ≤ q ∧ q < (a + 1) + 37) ∨ ((a + 38) ≤ q ∧ q < (a + 38) + 2) ∨ ((a + 38) + 2 ≤ q ∧ q < (a + 38) + 150)) H H1)) S hr hlocks rfl ?_ hL dX7_settle_43
      exact ⟨h_bk, h_hs, h_hu, hF⟩
    · have hf := (if_pos c_4).symm.trans hf
      refine lv_aload_n hx hb dX7_settle_23 rfl (lv_at hl 0 rfl) ?_
      obtain ⟨r_5, e_6, hf⟩ := xb_some hf
      refine x_callVi (As := []) (rest := []) S hK (c_X1_plannedSessions l G z (a + 1) v i_3 r_5 hi_i_3 e_6) gX7_settle_X1_plannedSessions rfl 0 (by decide +kernel) rfl ⟨Nat.le_of_ble_eq_true rfl, Nat.le_of_ble_eq_true rfl⟩ h_bk (6 + 2 * i_3) (by omega) rfl (bkE_hire G (a + 1) i_3 hi_i_3 _) rfl h_bk hl.1 rfl (Nat.le_of_ble_eq_true rfl) dX7_settle_24 hL ⟨Nat.zero_le _, Nat.zero_le _⟩ (fun H1 locs hL hpost => ?_)
      subst hpost
      refine lv_if_gt (tgt := 41) hx hb dX7_settle_27 (by decide) (fun c_7 => ?_) (fun c_7 => ?_)
      · have hf := (if_pos c_7).symm.trans hf
        refine lv_ldc (v := (-2000000002)) hx hb hown (hts _ (xm 4 rfl)) dX7_settle_41 ?_
        obtain ⟨q0, qq0⟩ := Prod.mk.inj (Option.some.inj hf)
        obtain ⟨q1, qq1⟩ := Prod.mk.inj (qq0)
        obtain ⟨q2, qq2⟩ := Prod.mk.inj (qq1)
        have q3 := qq2
        subst r0
        subst v'
        subst hv'
        subst kv'
        subst hQ
        refine x_iret (post := (fun H H1 => PX G (a + 1) 37 (bkE G (a + 1)) v H1 ∧ PX G (a + 38) 2 (hsE G (a + 38)) hv H1 ∧ HU G (a + 38) kv H1 ∧ XF (fun q => ((a + 1) ≤ q ∧ q < (a + 1) + 37) ∨ ((a + 38) ≤ q ∧ q < (a + 38) + 2) ∨ ((a + 38) + 2 ≤ q ∧ q < (a + 38) + 150)) H H1)) S hr hlocks rfl ?_ hL dX7_settle_43
        exact ⟨h_bk, h_hs, h_hu, hF⟩
      · have hf := (if_neg c_7).symm.trans hf
        refine lv_aload_n hx hb dX7_settle_30 rfl (lv_at hl 1 rfl) ?_
        refine x_get S hK h_hl 0 (by decide) rfl rfl rfl in7 0 (by decide) (xm 1 rfl) (x := .ref (a + 1)) rfl dX7_settle_31 ?_
        refine lv_iload_n hx hb dX7_settle_34 rfl (lv_at hl 2 rfl) ?_
        obtain ⟨r_8, e_9, hf⟩ := xb_some hf
        refine x_callVi (As := [.int p1]) (rest := []) S hK (c_X0_keysFor l G z (a + 1) v p1 r_8 e_9) gX7_settle_X0_keysFor rfl 1 (by decide +kernel) rfl ⟨Nat.le_of_ble_eq_true rfl, Nat.le_of_ble_eq_true rfl⟩ h_bk 0 (by decide) rfl rfl rfl h_bk hl.1 rfl (Nat.le_of_ble_eq_true rfl) dX7_settle_35 hL ⟨Nat.zero_le _, Nat.zero_le _⟩ (fun H1 locs hL hpost => ?_)
        subst hpost
        refine lv_if_le (tgt := 44) hx hb dX7_settle_38 (by decide) (fun c_10 => ?_) (fun c_10 => ?_)
        · have hf := (if_pos c_10).symm.trans hf
          refine lv_aload_n hx hb dX7_settle_44 rfl (lv_at hl 1 rfl) ?_
          refine x_get S hK h_hl 0 (by decide) rfl rfl rfl in7 1 (by decide) (xm 5 rfl) (x := .ref (a + 38)) rfl dX7_settle_45 ?_
          refine lv_aload_n hx hb dX7_settle_48 rfl (lv_at hl 1 rfl) ?_
          refine x_get S hK h_hl 0 (by decide) rfl rfl rfl in7 0 (by decide) (xm 1 rfl) (x := .ref (a + 1)) rfl dX7_settle_49 ?_
          obtain ⟨hv_11, kv_12, e_13, hf⟩ := xb2_some hf
          refine x_callVv (As := [.ref (a + 1)]) (rest := []) S hK (c_X2_save l G z (a + 38) (a + 1) hv kv v hv_11 kv_12 (by omega) (by omega) (by omega) e_13) gX7_settle_X2_save rfl 1 (by decide +kernel) rfl ⟨Nat.le_of_ble_eq_true rfl, Nat.le_of_ble_eq_true rfl⟩ h_hs 0 (by decide) rfl rfl rfl ⟨h_hs, h_hu, h_bk⟩ hl.1 rfl (Nat.le_of_ble_eq_true rfl) dX7_settle_52 hL ⟨Nat.zero_le _, Nat.zero_le _⟩ (fun H1 locs hL hpost => ?_)
          obtain ⟨n_hs, n_hu, hfr⟩ := hpost
          have h_hs := n_hs
          have h_hu := n_hu
          have h_hl := h_hl.kept hfr (fun q h1 h2 h3 => by (try dsimp only at h3); omega)
          have h_bk := h_bk.kept hfr (fun q h1 h2 h3 => by (try dsimp only at h3); omega)
          have hF := hF.step hfr (fun q h => by (try dsimp only at h ⊢); omega)
          refine lv_aload_n hx hb dX7_settle_55 rfl (lv_at hl 1 rfl) ?_
          refine x_get S hK h_hl 0 (by decide) rfl rfl rfl in7 0 (by decide) (xm 1 rfl) (x := .ref (a + 1)) rfl dX7_settle_56 ?_
          refine lv_aload_n hx hb dX7_settle_59 rfl (lv_at hl 0 rfl) ?_
          obtain ⟨r_14, v_15, e_16, hf⟩ := xb2_some hf
          refine x_callVi (As := [.ref ((a + 1) + (6 + 2 * i_3))]) (rest := []) S hK (c_X0_giveDepositBack l G z (a + 1) v i_3 r_14 v_15 (by omega) hi_i_3 e_16) gX7_settle_X0_giveDepositBack rfl 1 (by decide +kernel) rfl ⟨Nat.le_of_ble_eq_true rfl, Nat.le_of_ble_eq_true rfl⟩ h_bk 0 (by decide) rfl rfl rfl h_bk hl.1 rfl (Nat.le_of_ble_eq_true rfl) dX7_settle_60 hL ⟨Nat.zero_le _, Nat.zero_le _⟩ (fun H1 locs hL hpost => ?_)
          obtain ⟨n_bk, hfr⟩ := hpost
          have h_bk := n_bk
          have h_hl := h_hl.kept hfr (fun q h1 h2 h3 => by (try dsimp only at h3); omega)
          have h_hs := h_hs.kept hfr (fun q h1 h2 h3 => by (try dsimp only at h3); omega)
          have h_hu := h_hu.kept hfr (fun q h1 h2 h3 => by (try dsimp only at h3); omega)
          have hF := hF.step hfr (fun q h => by (try dsimp only at h ⊢); omega)
          obtain ⟨q0, qq0⟩ := Prod.mk.inj (Option.some.inj hf)
          obtain ⟨q1, qq1⟩ := Prod.mk.inj (qq0)
          obtain ⟨q2, qq2⟩ := Prod.mk.inj (qq1)
          have q3 := qq2
          subst r0
          subst v'
          subst hv'
          subst kv'
          subst hQ
          refine x_iret (post := (fun H H1 => PX G (a + 1) 37 (bkE G (a + 1)) v_15 H1 ∧ PX G (a + 38) 2 (hsE G (a + 38)) hv_11 H1 ∧ HU G (a + 38) kv_12 H1 ∧ XF (fun q => ((a + 1) ≤ q ∧ q < (a + 1) + 37) ∨ ((a + 38) ≤ q ∧ q < (a + 38) + 2) ∨ ((a + 38) + 2 ≤ q ∧ q < (a + 38) + 150)) H H1)) S hr hlocks rfl ?_ hL dX7_settle_63
          exact ⟨h_bk, h_hs, h_hu, hF⟩
        · have hf := (if_neg c_10).symm.trans hf
          refine lv_ldc (v := (-2000000002)) hx hb hown (hts _ (xm 4 rfl)) dX7_settle_41 ?_
          obtain ⟨q0, qq0⟩ := Prod.mk.inj (Option.some.inj hf)
          obtain ⟨q1, qq1⟩ := Prod.mk.inj (qq0)
          obtain ⟨q2, qq2⟩ := Prod.mk.inj (qq1)
          have q3 := qq2
          subst r0
          subst v'
          subst hv'
          subst kv'
          subst hQ
          refine x_iret (post := (fun H H1 => PX G (a + 1) 37 (bkE G (a + 1)) v H1 ∧ PX G (a + 38) 2 (hsE G (a + 38)) hv H1 ∧ HU G (a + 38) kv H1 ∧ XF (fun q => ((a + 1) ≤ q ∧ q < (a + 1) + 37) ∨ ((a + 38) ≤ q ∧ q < (a + 38) + 2) ∨ ((a + 38) + 2 ≤ q ∧ q < (a + 38) + 150)) H H1)) S hr hlocks rfl ?_ hL dX7_settle_43
          exact ⟨h_bk, h_hs, h_hu, hF⟩
set_option maxRecDepth 100000 in
set_option maxHeartbeats 4000000 in
theorem c_X7_taken (l : Launch) (G : xG) (z : Nat) (a : Nat) (dv : xV) (v : xV) (p1 : Int32) (p2 : Int32) (r0 : Int32)  (hf : f_X7_taken dv v p1 p2 = some r0) : xM l yX7_taken wsX7_taken 3 93 G z [.ref a, .int p1, .int p2] (fun H => PX G a 1 (hlE a) dv H ∧ PX G (a + 1) 37 (bkE G (a + 1)) v H) (some (.int r0)) (fun H H1 => H1 = H) := by
  refine xM.of (cc := cX7_taken) (maxL := 3) (ret := (some .int)) (by decide +kernel) rfl (Nat.le_of_ble_eq_true rfl) ?_
  intro p e s m args below meth c ls Q hQ S hr hlocks hK hP hl
  obtain ⟨hx, hb, hml, hown, hts⟩ := id S
  obtain ⟨h_hl, h_bk⟩ := hP
  have hL : ∀ q ∈ ([] : List Loc), z ≤ q.base := fun q h => absurd h List.not_mem_nil
  have hl : lv_has ls 3 [(0, .ref a), (1, .int p1), (2, .int p2)] := hl
  have in7 : ∀ w ∈ u_ws RX7 TX7 6, w ∈ wsX7_taken := fun _ h => List.mem_cons_of_mem _ (List.mem_append_left _ (List.mem_append_left _ (List.mem_append_right _ h)))
  unfold f_X7_taken at hf
  refine lv_iload_n hx hb dX7_taken_0 rfl (lv_at hl 1 rfl) ?_
  refine lv_if_lt (tgt := 18) hx hb dX7_taken_1 (by decide) (fun c_1 => ?_) (fun c_1 => ?_)
  · have hf := (if_pos c_1).symm.trans hf
    refine lv_ldc (v := (-2000000001)) hx hb hown (hts _ (xm 1 rfl)) dX7_taken_18 ?_
    have q0 := Option.some.inj hf
    subst r0
    subst hQ
    refine x_iret (post := (fun H H1 => H1 = H)) S hr hlocks rfl ?_ hL dX7_taken_20
    exact rfl
  · have hf := (if_neg c_1).symm.trans hf
    refine lv_iload_n hx hb dX7_taken_4 rfl (lv_at hl 1 rfl) ?_
    refine lv_sipush (v := 364) hx hb dX7_taken_5 (by decide) ?_
    refine lv_icmp_gt (tgt := 18) hx hb dX7_taken_8 (by decide) (fun c_2 => ?_) (fun c_2 => ?_)
    · have hf := (if_pos c_2).symm.trans hf
      refine lv_ldc (v := (-2000000001)) hx hb hown (hts _ (xm 1 rfl)) dX7_taken_18 ?_
      have q0 := Option.some.inj hf
      subst r0
      subst hQ
      refine x_iret (post := (fun H H1 => H1 = H)) S hr hlocks rfl ?_ hL dX7_taken_20
      exact rfl
    · have hf := (if_neg c_2).symm.trans hf
      refine lv_iload_n hx hb dX7_taken_11 rfl (lv_at hl 2 rfl) ?_
      obtain ⟨r_3, e_4, hf⟩ := xb_some hf
      refine x_callTi (As := [.int p2]) (rest := []) S hK (c_X7_areRooms l G z p2 r_3 e_4) gX7_taken_X7_areRooms rfl 1 (by decide +kernel) rfl ⟨Nat.le_of_ble_eq_true rfl, Nat.le_of_ble_eq_true rfl⟩ rfl hl.1 rfl (Nat.le_of_ble_eq_true rfl) dX7_taken_12 hL ⟨Nat.zero_le _, Nat.zero_le _⟩ (fun H1 locs hL hpost => ?_)
      subst hpost
      refine lv_if_ne (tgt := 21) hx hb dX7_taken_15 (by decide) (fun c_5 => ?_) (fun c_5 => ?_)
      · have hf := (if_neg c_5).symm.trans hf
        refine lv_aload_n hx hb dX7_taken_21 rfl (lv_at hl 0 rfl) ?_
        refine x_get S hK h_hl 0 (by decide) rfl rfl rfl in7 0 (by decide) (xm 2 rfl) (x := .ref (a + 1)) rfl dX7_taken_22 ?_
        refine lv_iload_n hx hb dX7_taken_25 rfl (lv_at hl 1 rfl) ?_
        refine lv_iload_n hx hb dX7_taken_26 rfl (lv_at hl 2 rfl) ?_
        refine lv_iconst (v := (-1)) hx hb dX7_taken_27 (by decide) ?_
        refine lv_iconst (v := 0) hx hb dX7_taken_28 (by decide) ?_
        obtain ⟨r_6, e_7, hf⟩ := xb_some hf
        refine x_callVi (As := [.int p1, .int p2, .int (-1), .int 0]) (rest := []) S hK (c_X0_blockedHours l G z (a + 1) v p1 p2 (-1) 0 r_6 e_7) gX7_taken_X0_blockedHours rfl 4 (by decide +kernel) rfl ⟨Nat.le_of_ble_eq_true rfl, Nat.le_of_ble_eq_true rfl⟩ h_bk 0 (by decide) rfl rfl rfl h_bk hl.1 rfl (Nat.le_of_ble_eq_true rfl) dX7_taken_29 hL ⟨Nat.zero_le _, Nat.zero_le _⟩ (fun H1 locs hL hpost => ?_)
        subst hpost
        have q0 := Option.some.inj hf
        subst r0
        subst hQ
        refine x_iret (post := (fun H H1 => H1 = H)) S hr hlocks rfl ?_ hL dX7_taken_32
        exact rfl
      · have hf := (if_pos c_5).symm.trans hf
        refine lv_ldc (v := (-2000000001)) hx hb hown (hts _ (xm 1 rfl)) dX7_taken_18 ?_
        have q0 := Option.some.inj hf
        subst r0
        subst hQ
        refine x_iret (post := (fun H H1 => H1 = H)) S hr hlocks rfl ?_ hL dX7_taken_20
        exact rfl
set_option maxRecDepth 100000 in
set_option maxHeartbeats 4000000 in
theorem c_X7_textFault (l : Launch) (G : xG) (z : Nat) (a : Nat) (dv : xV) (v : xV) (tv : xV) (rv : xV) (vt : xV) (fv : xV) (p1 : Int32) (r0 : Int32) (tv' : xV) (rv' : xV) (vt' : xV) (fv' : xV) (hz_tx : z ≤ (a + 188)) (hz_tr : z ≤ (a + 190)) (hz_tb : z ≤ (a + 190 + 1)) (hz_tw : z ≤ (a + 190 + 38)) (hf : f_X7_textFault dv v tv rv vt fv p1 = some (r0, tv', rv', vt', fv')) : xM l yX7_textFault wsX7_textFault 6 138 G z [.ref a, .int p1] (fun H => PX G a 1 (hlE a) dv H ∧ PX G (a + 1) 37 (bkE G (a + 1)) v H ∧ PX G (a + 188) 2 (txE G (a + 188)) tv H ∧ PX G (a + 190) 1 (trE (a + 190)) rv H ∧ PX G (a + 190 + 1) 37 (bkE G (a + 190 + 1)) vt H ∧ PX G (a + 190 + 38) 1 wsE fv H) (some (.int r0)) (fun H H1 => PX G (a + 188) 2 (txE G (a + 188)) tv' H1 ∧ PX G (a + 190) 1 (trE (a + 190)) rv' H1 ∧ PX G (a + 190 + 1) 37 (bkE G (a + 190 + 1)) vt' H1 ∧ PX G (a + 190 + 38) 1 wsE fv' H1 ∧ XF (fun q => ((a + 188) ≤ q ∧ q < (a + 188) + 2) ∨ ((a + 190) ≤ q ∧ q < (a + 190) + 1) ∨ ((a + 190 + 1) ≤ q ∧ q < (a + 190 + 1) + 37) ∨ ((a + 190 + 38) ≤ q ∧ q < (a + 190 + 38) + 1)) H H1) := by
  refine xM.of (cc := cX7_textFault) (maxL := 2) (ret := (some .int)) (by decide +kernel) rfl (Nat.le_of_ble_eq_true rfl) ?_
  intro p e s m args below meth c ls Q hQ S hr hlocks hK hP hl
  obtain ⟨hx, hb, hml, hown, hts⟩ := id S
  obtain ⟨h_hl, h_bk, h_tx, h_tr, h_tb, h_tw⟩ := hP
  have hL : ∀ q ∈ ([] : List Loc), z ≤ q.base := fun q h => absurd h List.not_mem_nil
  have hF : XF (fun q => ((a + 188) ≤ q ∧ q < (a + 188) + 2) ∨ ((a + 190) ≤ q ∧ q < (a + 190) + 1) ∨ ((a + 190 + 1) ≤ q ∧ q < (a + 190 + 1) + 37) ∨ ((a + 190 + 38) ≤ q ∧ q < (a + 190 + 38) + 1)) s.heap s.heap := XF.rf
  have hl : lv_has ls 2 [(0, .ref a), (1, .int p1)] := hl
  have in5 : ∀ w ∈ u_ws RX5 TX5 6, w ∈ wsX7_textFault := fun _ h => List.mem_cons_of_mem _ (List.mem_append_left _ (List.mem_append_left _ (List.mem_append_left _ (List.mem_append_left _ (List.mem_append_left _ (List.mem_append_right _ h))))))
  have in7 : ∀ w ∈ u_ws RX7 TX7 6, w ∈ wsX7_textFault := fun _ h => List.mem_cons_of_mem _ (List.mem_append_left _ (List.mem_append_left _ (List.mem_append_left _ (List.mem_append_left _ (List.mem_append_left _ (List.mem_append_left _ (List.mem_append_right _ h)))))))
  unfold f_X7_textFault at hf
  refine lv_iload_n hx hb dX7_textFault_0 rfl (lv_at hl 1 rfl) ?_
  refine lv_if_lt (tgt := 9) hx hb dX7_textFault_1 (by decide) (fun c_1 => ?_) (fun c_1 => ?_)
  · have hf := (if_pos c_1).symm.trans hf
    refine lv_ldc (v := (-2000000001)) hx hb hown (hts _ (xm 1 rfl)) dX7_textFault_9 ?_
    obtain ⟨q0, qq0⟩ := Prod.mk.inj (Option.some.inj hf)
    obtain ⟨q1, qq1⟩ := Prod.mk.inj (qq0)
    obtain ⟨q2, qq2⟩ := Prod.mk.inj (qq1)
    obtain ⟨q3, qq3⟩ := Prod.mk.inj (qq2)
    have q4 := qq3
    subst r0
    subst tv'
    subst rv'
    subst vt'
    subst fv'
    subst hQ
    refine x_iret (post := (fun H H1 => PX G (a + 188) 2 (txE G (a + 188)) tv H1 ∧ PX G (a + 190) 1 (trE (a + 190)) rv H1 ∧ PX G (a + 190 + 1) 37 (bkE G (a + 190 + 1)) vt H1 ∧ PX G (a + 190 + 38) 1 wsE fv H1 ∧ XF (fun q => ((a + 188) ≤ q ∧ q < (a + 188) + 2) ∨ ((a + 190) ≤ q ∧ q < (a + 190) + 1) ∨ ((a + 190 + 1) ≤ q ∧ q < (a + 190 + 1) + 37) ∨ ((a + 190 + 38) ≤ q ∧ q < (a + 190 + 38) + 1)) H H1)) S hr hlocks rfl ?_ hL dX7_textFault_11
    exact ⟨h_tx, h_tr, h_tb, h_tw, hF⟩
  · have hf := (if_neg c_1).symm.trans hf
    refine lv_iload_n hx hb dX7_textFault_4 rfl (lv_at hl 1 rfl) ?_
    refine lv_iconst (v := 1) hx hb dX7_textFault_5 (by decide) ?_
    refine lv_icmp_le (tgt := 12) hx hb dX7_textFault_6 (by decide) (fun c_2 => ?_) (fun c_2 => ?_)
    · have hf := (if_pos c_2).symm.trans hf
      refine lv_aload_n hx hb dX7_textFault_12 rfl (lv_at hl 0 rfl) ?_
      refine x_get S hK h_hl 0 (by decide) rfl rfl rfl in7 3 (by decide) (xm 2 rfl) (x := .ref (a + 190)) rfl dX7_textFault_13 ?_
      refine lv_aload_n hx hb dX7_textFault_16 rfl (lv_at hl 0 rfl) ?_
      refine x_get S hK h_hl 0 (by decide) rfl rfl rfl in7 0 (by decide) (xm 3 rfl) (x := .ref (a + 1)) rfl dX7_textFault_17 ?_
      refine lv_aload_n hx hb dX7_textFault_20 rfl (lv_at hl 0 rfl) ?_
      refine x_get S hK h_hl 0 (by decide) rfl rfl rfl in7 2 (by decide) (xm 4 rfl) (x := .ref (a + 188)) rfl dX7_textFault_21 ?_
      obtain ⟨rv_3, vt_4, fv_5, tv_6, e_7, hf⟩ := xb4_some hf
      refine x_callVv (As := [.ref (a + 1), .ref (a + 188)]) (rest := []) S hK (c_X5_run l G z (a + 190) (a + 1) (a + 188) rv vt fv v tv rv_3 vt_4 fv_5 tv_6 (by omega) (by omega) (by omega) (by omega) (by omega) (by omega) (by omega) (by omega) (by omega) (by omega) (by omega) e_7) gX7_textFault_X5_run rfl 2 (by decide +kernel) rfl ⟨Nat.le_of_ble_eq_true rfl, Nat.le_of_ble_eq_true rfl⟩ h_tr 0 (by decide) rfl rfl rfl ⟨h_tr, h_tb, h_tw, h_bk, h_tx⟩ hl.1 rfl (Nat.le_of_ble_eq_true rfl) dX7_textFault_24 hL ⟨Nat.zero_le _, Nat.zero_le _⟩ (fun H1 locs hL hpost => ?_)
      obtain ⟨n_tr, n_tb, n_tw, n_tx, hfr⟩ := hpost
      have h_tr := n_tr
      have h_tb := n_tb
      have h_tw := n_tw
      have h_tx := n_tx
      have h_hl := h_hl.kept hfr (fun q h1 h2 h3 => by (try dsimp only at h3); omega)
      have h_bk := h_bk.kept hfr (fun q h1 h2 h3 => by (try dsimp only at h3); omega)
      have hF := hF.step hfr (fun q h => by (try dsimp only at h ⊢); omega)
      refine lv_aload_n hx hb dX7_textFault_27 rfl (lv_at hl 0 rfl) ?_
      refine x_get S hK h_hl 0 (by decide) rfl rfl rfl in7 3 (by decide) (xm 2 rfl) (x := .ref (a + 190)) rfl dX7_textFault_28 ?_
      refine x_get S hK h_tr 0 (by decide) rfl rfl rfl in5 3 (by decide) (xm 5 rfl) (x := .int (rv_3 0 3)) rfl dX7_textFault_31 ?_
      refine lv_if_ne (tgt := 40) hx hb dX7_textFault_34 (by decide) (fun c_8 => ?_) (fun c_8 => ?_)
      · have hf := (if_neg c_8).symm.trans hf
        refine lv_iload_n hx hb dX7_textFault_40 rfl (lv_at hl 1 rfl) ?_
        refine lv_if_ne (tgt := 54) hx hb dX7_textFault_41 (by decide) (fun c_9 => ?_) (fun c_9 => ?_)
        · have hf := (if_neg c_9).symm.trans hf
          refine lv_aload_n hx hb dX7_textFault_54 rfl (lv_at hl 0 rfl) ?_
          refine x_get S hK h_hl 0 (by decide) rfl rfl rfl in7 3 (by decide) (xm 2 rfl) (x := .ref (a + 190)) rfl dX7_textFault_55 ?_
          refine x_get S hK h_tr 0 (by decide) rfl rfl rfl in5 3 (by decide) (xm 5 rfl) (x := .int (rv_3 0 3)) rfl dX7_textFault_58 ?_
          obtain ⟨q0, qq0⟩ := Prod.mk.inj (Option.some.inj hf)
          obtain ⟨q1, qq1⟩ := Prod.mk.inj (qq0)
          obtain ⟨q2, qq2⟩ := Prod.mk.inj (qq1)
          obtain ⟨q3, qq3⟩ := Prod.mk.inj (qq2)
          have q4 := qq3
          subst r0
          subst tv'
          subst rv'
          subst vt'
          subst fv'
          subst hQ
          refine x_iret (post := (fun H H1 => PX G (a + 188) 2 (txE G (a + 188)) tv_6 H1 ∧ PX G (a + 190) 1 (trE (a + 190)) rv_3 H1 ∧ PX G (a + 190 + 1) 37 (bkE G (a + 190 + 1)) vt_4 H1 ∧ PX G (a + 190 + 38) 1 wsE fv_5 H1 ∧ XF (fun q => ((a + 188) ≤ q ∧ q < (a + 188) + 2) ∨ ((a + 190) ≤ q ∧ q < (a + 190) + 1) ∨ ((a + 190 + 1) ≤ q ∧ q < (a + 190 + 1) + 37) ∨ ((a + 190 + 38) ≤ q ∧ q < (a + 190 + 38) + 1)) H H1)) S hr hlocks rfl ?_ hL dX7_textFault_61
          exact ⟨h_tx, h_tr, h_tb, h_tw, hF⟩
        · have hf := (if_pos c_9).symm.trans hf
          refine lv_aload_n hx hb dX7_textFault_44 rfl (lv_at hl 0 rfl) ?_
          refine x_get S hK h_hl 0 (by decide) rfl rfl rfl in7 3 (by decide) (xm 2 rfl) (x := .ref (a + 190)) rfl dX7_textFault_45 ?_
          refine x_get S hK h_tr 0 (by decide) rfl rfl rfl in5 2 (by decide) (xm 7 rfl) (x := .int (rv_3 0 2)) rfl dX7_textFault_48 ?_
          refine lv_goto (tgt := 61) hx hb dX7_textFault_51 (by decide) ?_
          obtain ⟨q0, qq0⟩ := Prod.mk.inj (Option.some.inj hf)
          obtain ⟨q1, qq1⟩ := Prod.mk.inj (qq0)
          obtain ⟨q2, qq2⟩ := Prod.mk.inj (qq1)
          obtain ⟨q3, qq3⟩ := Prod.mk.inj (qq2)
          have q4 := qq3
          subst r0
          subst tv'
          subst rv'
          subst vt'
          subst fv'
          subst hQ
          refine x_iret (post := (fun H H1 => PX G (a + 188) 2 (txE G (a + 188)) tv_6 H1 ∧ PX G (a + 190) 1 (trE (a + 190)) rv_3 H1 ∧ PX G (a + 190 + 1) 37 (bkE G (a + 190 + 1)) vt_4 H1 ∧ PX G (a + 190 + 38) 1 wsE fv_5 H1 ∧ XF (fun q => ((a + 188) ≤ q ∧ q < (a + 188) + 2) ∨ ((a + 190) ≤ q ∧ q < (a + 190) + 1) ∨ ((a + 190 + 1) ≤ q ∧ q < (a + 190 + 1) + 37) ∨ ((a + 190 + 38) ≤ q ∧ q < (a + 190 + 38) + 1)) H H1)) S hr hlocks rfl ?_ hL dX7_textFault_61
          exact ⟨h_tx, h_tr, h_tb, h_tw, hF⟩
      · have hf := (if_pos c_8).symm.trans hf
        refine lv_ldc (v := (-2000000004)) hx hb hown (hts _ (xm 6 rfl)) dX7_textFault_37 ?_
        obtain ⟨q0, qq0⟩ := Prod.mk.inj (Option.some.inj hf)
        obtain ⟨q1, qq1⟩ := Prod.mk.inj (qq0)
        obtain ⟨q2, qq2⟩ := Prod.mk.inj (qq1)
        obtain ⟨q3, qq3⟩ := Prod.mk.inj (qq2)
        have q4 := qq3
        subst r0
        subst tv'
        subst rv'
        subst vt'
        subst fv'
        subst hQ
        refine x_iret (post := (fun H H1 => PX G (a + 188) 2 (txE G (a + 188)) tv_6 H1 ∧ PX G (a + 190) 1 (trE (a + 190)) rv_3 H1 ∧ PX G (a + 190 + 1) 37 (bkE G (a + 190 + 1)) vt_4 H1 ∧ PX G (a + 190 + 38) 1 wsE fv_5 H1 ∧ XF (fun q => ((a + 188) ≤ q ∧ q < (a + 188) + 2) ∨ ((a + 190) ≤ q ∧ q < (a + 190) + 1) ∨ ((a + 190 + 1) ≤ q ∧ q < (a + 190 + 1) + 37) ∨ ((a + 190 + 38) ≤ q ∧ q < (a + 190 + 38) + 1)) H H1)) S hr hlocks rfl ?_ hL dX7_textFault_39
        exact ⟨h_tx, h_tr, h_tb, h_tw, hF⟩
    · have hf := (if_neg c_2).symm.trans hf
      refine lv_ldc (v := (-2000000001)) hx hb hown (hts _ (xm 1 rfl)) dX7_textFault_9 ?_
      obtain ⟨q0, qq0⟩ := Prod.mk.inj (Option.some.inj hf)
      obtain ⟨q1, qq1⟩ := Prod.mk.inj (qq0)
      obtain ⟨q2, qq2⟩ := Prod.mk.inj (qq1)
      obtain ⟨q3, qq3⟩ := Prod.mk.inj (qq2)
      have q4 := qq3
      subst r0
      subst tv'
      subst rv'
      subst vt'
      subst fv'
      subst hQ
      refine x_iret (post := (fun H H1 => PX G (a + 188) 2 (txE G (a + 188)) tv H1 ∧ PX G (a + 190) 1 (trE (a + 190)) rv H1 ∧ PX G (a + 190 + 1) 37 (bkE G (a + 190 + 1)) vt H1 ∧ PX G (a + 190 + 38) 1 wsE fv H1 ∧ XF (fun q => ((a + 188) ≤ q ∧ q < (a + 188) + 2) ∨ ((a + 190) ≤ q ∧ q < (a + 190) + 1) ∨ ((a + 190 + 1) ≤ q ∧ q < (a + 190 + 1) + 37) ∨ ((a + 190 + 38) ≤ q ∧ q < (a + 190 + 38) + 1)) H H1)) S hr hlocks rfl ?_ hL dX7_textFault_11
      exact ⟨h_tx, h_tr, h_tb, h_tw, hF⟩
set_option maxRecDepth 100000 in
set_option maxHeartbeats 4000000 in
theorem c_X7_type (l : Launch) (G : xG) (z : Nat) (a : Nat) (dv : xV) (tv : xV) (p1 : Int32) (r0 : Int32) (tv' : xV) (hz_tx : z ≤ (a + 188)) (hf : f_X7_type dv tv p1 = some (r0, tv')) : xM l yX7_type wsX7_type 1 21 G z [.ref a, .int p1] (fun H => PX G a 1 (hlE a) dv H ∧ PX G (a + 188) 2 (txE G (a + 188)) tv H) (some (.int r0)) (fun H H1 => PX G (a + 188) 2 (txE G (a + 188)) tv' H1 ∧ XF (fun q => ((a + 188) ≤ q ∧ q < (a + 188) + 2)) H H1) := by
  refine xM.of (cc := cX7_type) (maxL := 2) (ret := (some .int)) (by decide +kernel) rfl (Nat.le_of_ble_eq_true rfl) ?_
  intro p e s m args below meth c ls Q hQ S hr hlocks hK hP hl
  obtain ⟨hx, hb, hml, hown, hts⟩ := id S
  obtain ⟨h_hl, h_tx⟩ := hP
  have hL : ∀ q ∈ ([] : List Loc), z ≤ q.base := fun q h => absurd h List.not_mem_nil
  have hF : XF (fun q => ((a + 188) ≤ q ∧ q < (a + 188) + 2)) s.heap s.heap := XF.rf
  have hl : lv_has ls 2 [(0, .ref a), (1, .int p1)] := hl
  have in4 : ∀ w ∈ u_ws RX4 TX4 3, w ∈ wsX7_type := fun _ h => List.mem_cons_of_mem _ (List.mem_append_right _ h)
  have in7 : ∀ w ∈ u_ws RX7 TX7 6, w ∈ wsX7_type := fun _ h => List.mem_cons_of_mem _ (List.mem_append_left _ (List.mem_append_right _ h))
  unfold f_X7_type at hf
  refine lv_iload_n hx hb dX7_type_0 rfl (lv_at hl 1 rfl) ?_
  refine lv_bipush (v := 32) hx hb dX7_type_1 (by decide) ?_
  refine lv_icmp_lt (tgt := 12) hx hb dX7_type_3 (by decide) (fun c_1 => ?_) (fun c_1 => ?_)
  · have hf := (if_pos c_1).symm.trans hf
    refine lv_ldc (v := (-2000000001)) hx hb hown (hts _ (xm 1 rfl)) dX7_type_12 ?_
    obtain ⟨q0, qq0⟩ := Prod.mk.inj (Option.some.inj hf)
    have q1 := qq0
    subst r0
    subst tv'
    subst hQ
    refine x_iret (post := (fun H H1 => PX G (a + 188) 2 (txE G (a + 188)) tv H1 ∧ XF (fun q => ((a + 188) ≤ q ∧ q < (a + 188) + 2)) H H1)) S hr hlocks rfl ?_ hL dX7_type_14
    exact ⟨h_tx, hF⟩
  · have hf := (if_neg c_1).symm.trans hf
    refine lv_iload_n hx hb dX7_type_6 rfl (lv_at hl 1 rfl) ?_
    refine lv_bipush (v := 126) hx hb dX7_type_7 (by decide) ?_
    refine lv_icmp_le (tgt := 15) hx hb dX7_type_9 (by decide) (fun c_2 => ?_) (fun c_2 => ?_)
    · have hf := (if_pos c_2).symm.trans hf
      refine lv_aload_n hx hb dX7_type_15 rfl (lv_at hl 0 rfl) ?_
      refine x_get S hK h_hl 0 (by decide) rfl rfl rfl in7 2 (by decide) (xm 2 rfl) (x := .ref (a + 188)) rfl dX7_type_16 ?_
      refine lv_iload_n hx hb dX7_type_19 rfl (lv_at hl 1 rfl) ?_
      obtain ⟨r_3, tv_4, e_5, hf⟩ := xb2_some hf
      refine x_callVi (As := [.int p1]) (rest := []) S hK (c_X4_append l G z (a + 188) tv p1 r_3 tv_4 (by omega) e_5) gX7_type_X4_append rfl 1 (by decide +kernel) rfl ⟨Nat.le_of_ble_eq_true rfl, Nat.le_of_ble_eq_true rfl⟩ h_tx 0 (by decide) rfl rfl rfl h_tx hl.1 rfl (Nat.le_of_ble_eq_true rfl) dX7_type_20 hL ⟨Nat.zero_le _, Nat.zero_le _⟩ (fun H1 locs hL hpost => ?_)
      obtain ⟨n_tx, hfr⟩ := hpost
      have h_tx := n_tx
      have h_hl := h_hl.kept hfr (fun q h1 h2 h3 => by (try dsimp only at h3); omega)
      have hF := hF.step hfr (fun q h => by (try dsimp only at h ⊢); omega)
      refine lv_if_eq (tgt := 36) hx hb dX7_type_23 (by decide) (fun c_6 => ?_) (fun c_6 => ?_)
      · have hf := (if_pos c_6).symm.trans hf
        refine lv_ldc (v := (-2000000003)) hx hb hown (hts _ (xm 4 rfl)) dX7_type_36 ?_
        obtain ⟨q0, qq0⟩ := Prod.mk.inj (Option.some.inj hf)
        have q1 := qq0
        subst r0
        subst tv'
        subst hQ
        refine x_iret (post := (fun H H1 => PX G (a + 188) 2 (txE G (a + 188)) tv_4 H1 ∧ XF (fun q => ((a + 188) ≤ q ∧ q < (a + 188) + 2)) H H1)) S hr hlocks rfl ?_ hL dX7_type_38
        exact ⟨h_tx, hF⟩
      · have hf := (if_neg c_6).symm.trans hf
        refine lv_aload_n hx hb dX7_type_26 rfl (lv_at hl 0 rfl) ?_
        refine x_get S hK h_hl 0 (by decide) rfl rfl rfl in7 2 (by decide) (xm 2 rfl) (x := .ref (a + 188)) rfl dX7_type_27 ?_
        refine x_get S hK h_tx 0 (by decide) rfl rfl rfl in4 1 (by decide) (xm 3 rfl) (x := .int (tv_4 0 1)) rfl dX7_type_30 ?_
        refine lv_goto (tgt := 38) hx hb dX7_type_33 (by decide) ?_
        obtain ⟨q0, qq0⟩ := Prod.mk.inj (Option.some.inj hf)
        have q1 := qq0
        subst r0
        subst tv'
        subst hQ
        refine x_iret (post := (fun H H1 => PX G (a + 188) 2 (txE G (a + 188)) tv_4 H1 ∧ XF (fun q => ((a + 188) ≤ q ∧ q < (a + 188) + 2)) H H1)) S hr hlocks rfl ?_ hL dX7_type_38
        exact ⟨h_tx, hF⟩
    · have hf := (if_neg c_2).symm.trans hf
      refine lv_ldc (v := (-2000000001)) hx hb hown (hts _ (xm 1 rfl)) dX7_type_12 ?_
      obtain ⟨q0, qq0⟩ := Prod.mk.inj (Option.some.inj hf)
      have q1 := qq0
      subst r0
      subst tv'
      subst hQ
      refine x_iret (post := (fun H H1 => PX G (a + 188) 2 (txE G (a + 188)) tv H1 ∧ XF (fun q => ((a + 188) ≤ q ∧ q < (a + 188) + 2)) H H1)) S hr hlocks rfl ?_ hL dX7_type_14
      exact ⟨h_tx, hF⟩
set_option maxRecDepth 100000 in
set_option maxHeartbeats 4000000 in
theorem c_X7_undo (l : Launch) (G : xG) (z : Nat) (a : Nat) (dv : xV) (v : xV) (hv : xV) (kv : Nat → xV) (r0 : Int32) (v' : xV) (hv' : xV) (hz_bk : z ≤ (a + 1)) (hz_hs : z ≤ (a + 38)) (hf : f_X7_undo dv v hv kv = some (r0, v', hv')) : xM l yX7_undo wsX7_undo 4 104 G z [.ref a] (fun H => PX G a 1 (hlE a) dv H ∧ PX G (a + 1) 37 (bkE G (a + 1)) v H ∧ PX G (a + 38) 2 (hsE G (a + 38)) hv H ∧ HU G (a + 38) kv H) (some (.int r0)) (fun H H1 => PX G (a + 1) 37 (bkE G (a + 1)) v' H1 ∧ PX G (a + 38) 2 (hsE G (a + 38)) hv' H1 ∧ XF (fun q => ((a + 1) ≤ q ∧ q < (a + 1) + 37) ∨ ((a + 38) ≤ q ∧ q < (a + 38) + 2)) H H1) := by
  refine xM.of (cc := cX7_undo) (maxL := 1) (ret := (some .int)) (by decide +kernel) rfl (Nat.le_of_ble_eq_true rfl) ?_
  intro p e s m args below meth c ls Q hQ S hr hlocks hK hP hl
  obtain ⟨hx, hb, hml, hown, hts⟩ := id S
  obtain ⟨h_hl, h_bk, h_hs, h_hu⟩ := hP
  have hL : ∀ q ∈ ([] : List Loc), z ≤ q.base := fun q h => absurd h List.not_mem_nil
  have hF : XF (fun q => ((a + 1) ≤ q ∧ q < (a + 1) + 37) ∨ ((a + 38) ≤ q ∧ q < (a + 38) + 2)) s.heap s.heap := XF.rf
  have hl : lv_has ls 1 [(0, .ref a)] := hl
  have in2 : ∀ w ∈ u_ws RX2 TX2 2, w ∈ wsX7_undo := fun _ h => List.mem_cons_of_mem _ (List.mem_append_left _ (List.mem_append_left _ (List.mem_append_left _ (List.mem_append_right _ h))))
  have in7 : ∀ w ∈ u_ws RX7 TX7 6, w ∈ wsX7_undo := fun _ h => List.mem_cons_of_mem _ (List.mem_append_left _ (List.mem_append_left _ (List.mem_append_left _ (List.mem_append_left _ (List.mem_append_right _ h)))))
  unfold f_X7_undo at hf
  refine lv_aload_n hx hb dX7_undo_0 rfl (lv_at hl 0 rfl) ?_
  refine x_get S hK h_hl 0 (by decide) rfl rfl rfl in7 1 (by decide) (xm 1 rfl) (x := .ref (a + 38)) rfl dX7_undo_1 ?_
  refine x_get S hK h_hs 0 (by decide) rfl rfl rfl in2 1 (by decide) (xm 2 rfl) (x := .int (hv 0 1)) rfl dX7_undo_4 ?_
  refine lv_iconst (v := 1) hx hb dX7_undo_7 (by decide) ?_
  refine lv_icmp_ge (tgt := 14) hx hb dX7_undo_8 (by decide) (fun c_1 => ?_) (fun c_1 => ?_)
  · have hf := (if_pos c_1).symm.trans hf
    refine lv_aload_n hx hb dX7_undo_14 rfl (lv_at hl 0 rfl) ?_
    refine x_get S hK h_hl 0 (by decide) rfl rfl rfl in7 1 (by decide) (xm 1 rfl) (x := .ref (a + 38)) rfl dX7_undo_15 ?_
    refine lv_aload_n hx hb dX7_undo_18 rfl (lv_at hl 0 rfl) ?_
    refine x_get S hK h_hl 0 (by decide) rfl rfl rfl in7 0 (by decide) (xm 4 rfl) (x := .ref (a + 1)) rfl dX7_undo_19 ?_
    obtain ⟨hv_2, v_3, e_4, hf⟩ := xb2_some hf
    refine x_callVv (As := [.ref (a + 1)]) (rest := []) S hK (c_X2_restore l G z (a + 38) (a + 1) hv kv v hv_2 v_3 (by omega) (by omega) (by omega) (by omega) e_4) gX7_undo_X2_restore rfl 1 (by decide +kernel) rfl ⟨Nat.le_of_ble_eq_true rfl, Nat.le_of_ble_eq_true rfl⟩ h_hs 0 (by decide) rfl rfl rfl ⟨h_hs, h_hu, h_bk⟩ hl.1 rfl (Nat.le_of_ble_eq_true rfl) dX7_undo_22 hL ⟨Nat.zero_le _, Nat.zero_le _⟩ (fun H1 locs hL hpost => ?_)
    obtain ⟨n_hs, n_bk, hfr⟩ := hpost
    have h_hs := n_hs
    have h_bk := n_bk
    have h_hl := h_hl.kept hfr (fun q h1 h2 h3 => by (try dsimp only at h3); omega)
    have h_hu := h_hu.kept hfr (fun q h1 h2 h3 => by (try dsimp only at h3); omega)
    have hF := hF.step hfr (fun q h => by (try dsimp only at h ⊢); omega)
    refine lv_aload_n hx hb dX7_undo_25 rfl (lv_at hl 0 rfl) ?_
    refine x_get S hK h_hl 0 (by decide) rfl rfl rfl in7 1 (by decide) (xm 1 rfl) (x := .ref (a + 38)) rfl dX7_undo_26 ?_
    refine x_get S hK h_hs 0 (by decide) rfl rfl rfl in2 1 (by decide) (xm 2 rfl) (x := .int (hv_2 0 1)) rfl dX7_undo_29 ?_
    obtain ⟨q0, qq0⟩ := Prod.mk.inj (Option.some.inj hf)
    obtain ⟨q1, qq1⟩ := Prod.mk.inj (qq0)
    have q2 := qq1
    subst r0
    subst v'
    subst hv'
    subst hQ
    refine x_iret (post := (fun H H1 => PX G (a + 1) 37 (bkE G (a + 1)) v_3 H1 ∧ PX G (a + 38) 2 (hsE G (a + 38)) hv_2 H1 ∧ XF (fun q => ((a + 1) ≤ q ∧ q < (a + 1) + 37) ∨ ((a + 38) ≤ q ∧ q < (a + 38) + 2)) H H1)) S hr hlocks rfl ?_ hL dX7_undo_32
    exact ⟨h_bk, h_hs, hF⟩
  · have hf := (if_neg c_1).symm.trans hf
    refine lv_ldc (v := (-2000000002)) hx hb hown (hts _ (xm 3 rfl)) dX7_undo_11 ?_
    obtain ⟨q0, qq0⟩ := Prod.mk.inj (Option.some.inj hf)
    obtain ⟨q1, qq1⟩ := Prod.mk.inj (qq0)
    have q2 := qq1
    subst r0
    subst v'
    subst hv'
    subst hQ
    refine x_iret (post := (fun H H1 => PX G (a + 1) 37 (bkE G (a + 1)) v H1 ∧ PX G (a + 38) 2 (hsE G (a + 38)) hv H1 ∧ XF (fun q => ((a + 1) ≤ q ∧ q < (a + 1) + 37) ∨ ((a + 38) ≤ q ∧ q < (a + 38) + 2)) H H1)) S hr hlocks rfl ?_ hL dX7_undo_13
    exact ⟨h_bk, h_hs, hF⟩
set_option maxRecDepth 100000 in
set_option maxHeartbeats 4000000 in
theorem c_X8_save (l : Launch) (G : xG) (z : Nat) (o : Nat) (M : xV) (M' : xV) (hz_md : z ≤ o) (hf : f_X8_save M = some M') : xM l yX8_save wsX8_save 0 0 G z [.ref o] (fun H => PX G o 5 (mdE G o) M H) none (fun H H1 => PX G o 5 (mdE G o) M' H1 ∧ XF (fun q => (o ≤ q ∧ q < o + 5)) H H1) := by
  refine xM.of (cc := cX8_save) (maxL := 2) (ret := none) (by decide +kernel) rfl (Nat.le_of_ble_eq_true rfl) ?_
  intro p e s m args below meth c ls Q hQ S hr hlocks hK hP hl
  obtain ⟨hx, hb, hml, hown, hts⟩ := id S
  have h_md := hP
  have hL : ∀ q ∈ ([] : List Loc), z ≤ q.base := fun q h => absurd h List.not_mem_nil
  have hF : XF (fun q => (o ≤ q ∧ q < o + 5)) s.heap s.heap := XF.rf
  have hl : lv_has ls 2 [(0, .ref o)] := hl
  have in8 : ∀ w ∈ u_ws RX8 TX8 18, w ∈ wsX8_save := fun _ h => List.mem_cons_of_mem _ (List.mem_append_right _ h)
  unfold f_X8_save at hf
  refine lv_aload_n hx hb dX8_save_0 rfl (lv_at hl 0 rfl) ?_
  refine x_get S hK h_md 0 (by decide) rfl rfl rfl in8 3 (by decide) (xm 1 rfl) (x := .int (M 0 3)) rfl dX8_save_1 ?_
  refine lv_iconst (v := 4) hx hb dX8_save_4 (by decide) ?_
  refine lv_icmp_ne (tgt := 49) hx hb dX8_save_5 (by decide) (fun c_1 => ?_) (fun c_1 => ?_)
  · have hf := (if_neg c_1).symm.trans hf
    refine lv_iconst (v := 0) hx hb dX8_save_49 (by decide) ?_
    refine lv_istore_n (lv' := [(1, .int 0), (0, .ref o)]) hx hb dX8_save_50 rfl hl (by decide) rfl (fun ls hl => ?_)
    have lp_51 : ∀ (K_51 : Int32 → xV → Option xV), (∀ (x_2 : Int32) (M_3 : xV) (H : Heap) (locs : List Loc) (ls : Array Slot), (∀ q ∈ locs, z ≤ q.base) → PX G o 5 (mdE G o) M_3 H → XF (fun q => (o ≤ q ∧ q < o + 5)) s.heap H → lv_has ls 2 [(0, .ref o)] → K_51 x_2 M_3 = some M' → W p l e { frames := 0, cells := 0, slots := 0, locals := 0 } s m args below meth c H locs 0 0 Q (F0 m 85 ls [])) → ∀ (n : Nat) (x_2 : Int32) (M_3 : xV) (H : Heap) (locs : List Loc) (ls : Array Slot), (∀ q ∈ locs, z ≤ q.base) → PX G o 5 (mdE G o) M_3 H → XF (fun q => (o ≤ q ∧ q < o + 5)) s.heap H → lv_has ls 2 [(0, .ref o), (1, .int x_2)] → L_X8_save_51 K_51 n x_2 M_3 = some M' → W p l e { frames := 0, cells := 0, slots := 0, locals := 0 } s m args below meth c H locs 0 0 Q (F0 m 51 ls []) := by
      intro K_51 hK_51 n
      induction n with
      | zero =>
        intro x_2 M_3 H locs ls hL h_md hF hl hf
        cases hf
      | succ n ih_51 =>
        intro x_2 M_3 H locs ls hL h_md hF hl hf
        unfold L_X8_save_51 at hf
        refine lv_iload_n hx hb dX8_save_51 rfl (lv_at hl 1 rfl) ?_
        refine lv_sipush (v := 820) hx hb dX8_save_52 (by decide) ?_
        refine lv_icmp_ge (tgt := 85) hx hb dX8_save_55 (by decide) (fun c_4 => ?_) (fun c_4 => ?_)
        · have hf := (if_pos c_4).symm.trans hf
          exact hK_51 x_2 M_3 _ _ _ hL h_md hF (lv_sub hl [0] rfl) hf
        · have hf := (if_neg c_4).symm.trans hf
          refine lv_aload_n hx hb dX8_save_58 rfl (lv_at hl 0 rfl) ?_
          refine x_get S hK h_md 0 (by decide) rfl rfl rfl in8 1 (by decide) (xm 2 rfl) (x := .ref (o + 2)) rfl dX8_save_59 ?_
          refine lv_sipush (v := 820) hx hb dX8_save_62 (by decide) ?_
          refine lv_aload_n hx hb dX8_save_65 rfl (lv_at hl 0 rfl) ?_
          refine x_get S hK h_md 0 (by decide) rfl rfl rfl in8 3 (by decide) (xm 1 rfl) (x := .int (M_3 0 3)) rfl dX8_save_66 ?_
          refine lv_imul hx hb dX8_save_69 ?_
          refine lv_iload_n hx hb dX8_save_70 rfl (lv_at hl 1 rfl) ?_
          refine lv_iadd hx hb dX8_save_71 ?_
          refine lv_aload_n hx hb dX8_save_72 rfl (lv_at hl 0 rfl) ?_
          refine x_get S hK h_md 0 (by decide) rfl rfl rfl in8 0 (by decide) (xm 3 rfl) (x := .ref (o + 1)) rfl dX8_save_73 ?_
          refine lv_iload_n hx hb dX8_save_76 rfl (lv_at hl 1 rfl) ?_
          obtain ⟨g_5, hf⟩ := xg_some hf
          refine x_iald S hK h_md 1 (by decide) rfl rfl x_2.toNatClampNeg rfl g_5 dX8_save_77 ?_
          obtain ⟨g_6, hf⟩ := xg_some hf
          obtain ⟨M_7, eM_7, hf⟩ := xl_some hf
          refine x_iast S hK h_md hz_md hL 2 (by decide) rfl rfl ((820 * (M_3 0 3)) + x_2).toNatClampNeg rfl g_6 rfl eM_7 dX8_save_78 (fun H1 locs hL h_md hfr => ?_)
          have hF := hF.step hfr (fun q h => by (try dsimp only at h ⊢); omega)
          obtain ⟨x_8, ex_8, hf⟩ := xl_some hf
          refine lv_iinc (v := x_8) (lv' := [(1, .int x_8), (0, .ref o)]) hx hb dX8_save_79 hl (k := 1) rfl (by rw [ex_8]; rfl) (by decide) rfl (fun ls hl => ?_)
          refine lv_goto (tgt := 51) hx hb dX8_save_82 (by decide) ?_
          exact ih_51 x_8 M_7 _ _ _ hL h_md hF (lv_sub hl [1, 0] rfl) hf
    refine lp_51 _ (fun x_9 M_10 H locs ls hL h_md hF hl hf => ?_) 100000 0 M _ _ _ hL h_md hF (lv_sub hl [1, 0] rfl) hf
    refine lv_aload_n hx hb dX8_save_85 rfl (lv_at hl 0 rfl) ?_
    refine lv_dup hx hb dX8_save_86 rfl ?_
    refine x_get S hK h_md 0 (by decide) rfl rfl rfl in8 3 (by decide) (xm 1 rfl) (x := .int (M_10 0 3)) rfl dX8_save_87 ?_
    refine lv_iconst (v := 1) hx hb dX8_save_90 (by decide) ?_
    refine lv_iadd hx hb dX8_save_91 ?_
    obtain ⟨M_11, eM_11, hf⟩ := xl_some hf
    refine x_put S hK h_md hz_md hL 0 (by decide) rfl rfl rfl in8 tyX8 tyX8_ok nmX8 3 (by decide) (xm 1 rfl) rfl (vp_nar_int _) rfl (Nat.le_of_ble_eq_true rfl) rfl eM_11 dX8_save_92 (fun H1 locs hL h_md hfr => ?_)
    have hF := hF.step hfr (fun q h => by (try dsimp only at h ⊢); omega)
    have q0 := Option.some.inj hf
    subst M'
    subst hQ
    refine x_vret (post := (fun H H1 => PX G o 5 (mdE G o) M_11 H1 ∧ XF (fun q => (o ≤ q ∧ q < o + 5)) H H1)) S hr hlocks rfl ?_ hL dX8_save_95
    exact ⟨h_md, hF⟩
  · have hf := (if_pos c_1).symm.trans hf
    refine lv_iconst (v := 0) hx hb dX8_save_8 (by decide) ?_
    refine lv_istore_n (lv' := [(1, .int 0), (0, .ref o)]) hx hb dX8_save_9 rfl hl (by decide) rfl (fun ls hl => ?_)
    have lp_10 : ∀ (K_10 : Int32 → xV → Option xV), (∀ (x_12 : Int32) (M_13 : xV) (H : Heap) (locs : List Loc) (ls : Array Slot), (∀ q ∈ locs, z ≤ q.base) → PX G o 5 (mdE G o) M_13 H → XF (fun q => (o ≤ q ∧ q < o + 5)) s.heap H → lv_has ls 2 [(0, .ref o)] → K_10 x_12 M_13 = some M' → W p l e { frames := 0, cells := 0, slots := 0, locals := 0 } s m args below meth c H locs 0 0 Q (F0 m 39 ls [])) → ∀ (n : Nat) (x_12 : Int32) (M_13 : xV) (H : Heap) (locs : List Loc) (ls : Array Slot), (∀ q ∈ locs, z ≤ q.base) → PX G o 5 (mdE G o) M_13 H → XF (fun q => (o ≤ q ∧ q < o + 5)) s.heap H → lv_has ls 2 [(0, .ref o), (1, .int x_12)] → L_X8_save_10 K_10 n x_12 M_13 = some M' → W p l e { frames := 0, cells := 0, slots := 0, locals := 0 } s m args below meth c H locs 0 0 Q (F0 m 10 ls []) := by
      intro K_10 hK_10 n
      induction n with
      | zero =>
        intro x_12 M_13 H locs ls hL h_md hF hl hf
        cases hf
      | succ n ih_10 =>
        intro x_12 M_13 H locs ls hL h_md hF hl hf
        unfold L_X8_save_10 at hf
        refine lv_iload_n hx hb dX8_save_10 rfl (lv_at hl 1 rfl) ?_
        refine lv_sipush (v := 2460) hx hb dX8_save_11 (by decide) ?_
        refine lv_icmp_ge (tgt := 39) hx hb dX8_save_14 (by decide) (fun c_14 => ?_) (fun c_14 => ?_)
        · have hf := (if_pos c_14).symm.trans hf
          exact hK_10 x_12 M_13 _ _ _ hL h_md hF (lv_sub hl [0] rfl) hf
        · have hf := (if_neg c_14).symm.trans hf
          refine lv_aload_n hx hb dX8_save_17 rfl (lv_at hl 0 rfl) ?_
          refine x_get S hK h_md 0 (by decide) rfl rfl rfl in8 1 (by decide) (xm 2 rfl) (x := .ref (o + 2)) rfl dX8_save_18 ?_
          refine lv_iload_n hx hb dX8_save_21 rfl (lv_at hl 1 rfl) ?_
          refine lv_aload_n hx hb dX8_save_22 rfl (lv_at hl 0 rfl) ?_
          refine x_get S hK h_md 0 (by decide) rfl rfl rfl in8 1 (by decide) (xm 2 rfl) (x := .ref (o + 2)) rfl dX8_save_23 ?_
          refine lv_iload_n hx hb dX8_save_26 rfl (lv_at hl 1 rfl) ?_
          refine lv_sipush (v := 820) hx hb dX8_save_27 (by decide) ?_
          refine lv_iadd hx hb dX8_save_30 ?_
          obtain ⟨g_15, hf⟩ := xg_some hf
          refine x_iald S hK h_md 2 (by decide) rfl rfl (x_12 + 820).toNatClampNeg rfl g_15 dX8_save_31 ?_
          obtain ⟨g_16, hf⟩ := xg_some hf
          obtain ⟨M_17, eM_17, hf⟩ := xl_some hf
          refine x_iast S hK h_md hz_md hL 2 (by decide) rfl rfl x_12.toNatClampNeg rfl g_16 rfl eM_17 dX8_save_32 (fun H1 locs hL h_md hfr => ?_)
          have hF := hF.step hfr (fun q h => by (try dsimp only at h ⊢); omega)
          obtain ⟨x_18, ex_18, hf⟩ := xl_some hf
          refine lv_iinc (v := x_18) (lv' := [(1, .int x_18), (0, .ref o)]) hx hb dX8_save_33 hl (k := 1) rfl (by rw [ex_18]; rfl) (by decide) rfl (fun ls hl => ?_)
          refine lv_goto (tgt := 10) hx hb dX8_save_36 (by decide) ?_
          exact ih_10 x_18 M_17 _ _ _ hL h_md hF (lv_sub hl [1, 0] rfl) hf
    refine lp_10 _ (fun x_19 M_20 H locs ls hL h_md hF hl hf => ?_) 100000 0 M _ _ _ hL h_md hF (lv_sub hl [1, 0] rfl) hf
    refine lv_aload_n hx hb dX8_save_39 rfl (lv_at hl 0 rfl) ?_
    refine lv_dup hx hb dX8_save_40 rfl ?_
    refine x_get S hK h_md 0 (by decide) rfl rfl rfl in8 3 (by decide) (xm 1 rfl) (x := .int (M_20 0 3)) rfl dX8_save_41 ?_
    refine lv_iconst (v := 1) hx hb dX8_save_44 (by decide) ?_
    refine lv_isub hx hb dX8_save_45 ?_
    obtain ⟨M_21, eM_21, hf⟩ := xl_some hf
    refine x_put S hK h_md hz_md hL 0 (by decide) rfl rfl rfl in8 tyX8 tyX8_ok nmX8 3 (by decide) (xm 1 rfl) rfl (vp_nar_int _) rfl (Nat.le_of_ble_eq_true rfl) rfl eM_21 dX8_save_46 (fun H1 locs hL h_md hfr => ?_)
    have hF := hF.step hfr (fun q h => by (try dsimp only at h ⊢); omega)
    refine lv_iconst (v := 0) hx hb dX8_save_49 (by decide) ?_
    refine lv_istore_n (lv' := [(1, .int 0), (0, .ref o)]) hx hb dX8_save_50 rfl hl (by decide) rfl (fun ls hl => ?_)
    have lp_51 : ∀ (K_51 : Int32 → xV → Option xV), (∀ (x_22 : Int32) (M_23 : xV) (H : Heap) (locs : List Loc) (ls : Array Slot), (∀ q ∈ locs, z ≤ q.base) → PX G o 5 (mdE G o) M_23 H → XF (fun q => (o ≤ q ∧ q < o + 5)) s.heap H → lv_has ls 2 [(0, .ref o)] → K_51 x_22 M_23 = some M' → W p l e { frames := 0, cells := 0, slots := 0, locals := 0 } s m args below meth c H locs 0 0 Q (F0 m 85 ls [])) → ∀ (n : Nat) (x_22 : Int32) (M_23 : xV) (H : Heap) (locs : List Loc) (ls : Array Slot), (∀ q ∈ locs, z ≤ q.base) → PX G o 5 (mdE G o) M_23 H → XF (fun q => (o ≤ q ∧ q < o + 5)) s.heap H → lv_has ls 2 [(0, .ref o), (1, .int x_22)] → L_X8_save_51a K_51 n x_22 M_23 = some M' → W p l e { frames := 0, cells := 0, slots := 0, locals := 0 } s m args below meth c H locs 0 0 Q (F0 m 51 ls []) := by
      intro K_51 hK_51 n
      induction n with
      | zero =>
        intro x_22 M_23 H locs ls hL h_md hF hl hf
        cases hf
      | succ n ih_51 =>
        intro x_22 M_23 H locs ls hL h_md hF hl hf
        unfold L_X8_save_51a at hf
        refine lv_iload_n hx hb dX8_save_51 rfl (lv_at hl 1 rfl) ?_
        refine lv_sipush (v := 820) hx hb dX8_save_52 (by decide) ?_
        refine lv_icmp_ge (tgt := 85) hx hb dX8_save_55 (by decide) (fun c_24 => ?_) (fun c_24 => ?_)
        · have hf := (if_pos c_24).symm.trans hf
          exact hK_51 x_22 M_23 _ _ _ hL h_md hF (lv_sub hl [0] rfl) hf
        · have hf := (if_neg c_24).symm.trans hf
          refine lv_aload_n hx hb dX8_save_58 rfl (lv_at hl 0 rfl) ?_
          refine x_get S hK h_md 0 (by decide) rfl rfl rfl in8 1 (by decide) (xm 2 rfl) (x := .ref (o + 2)) rfl dX8_save_59 ?_
          refine lv_sipush (v := 820) hx hb dX8_save_62 (by decide) ?_
          refine lv_aload_n hx hb dX8_save_65 rfl (lv_at hl 0 rfl) ?_
          refine x_get S hK h_md 0 (by decide) rfl rfl rfl in8 3 (by decide) (xm 1 rfl) (x := .int (M_23 0 3)) rfl dX8_save_66 ?_
          refine lv_imul hx hb dX8_save_69 ?_
          refine lv_iload_n hx hb dX8_save_70 rfl (lv_at hl 1 rfl) ?_
          refine lv_iadd hx hb dX8_save_71 ?_
          refine lv_aload_n hx hb dX8_save_72 rfl (lv_at hl 0 rfl) ?_
          refine x_get S hK h_md 0 (by decide) rfl rfl rfl in8 0 (by decide) (xm 3 rfl) (x := .ref (o + 1)) rfl dX8_save_73 ?_
          refine lv_iload_n hx hb dX8_save_76 rfl (lv_at hl 1 rfl) ?_
          obtain ⟨g_25, hf⟩ := xg_some hf
          refine x_iald S hK h_md 1 (by decide) rfl rfl x_22.toNatClampNeg rfl g_25 dX8_save_77 ?_
          obtain ⟨g_26, hf⟩ := xg_some hf
          obtain ⟨M_27, eM_27, hf⟩ := xl_some hf
          refine x_iast S hK h_md hz_md hL 2 (by decide) rfl rfl ((820 * (M_23 0 3)) + x_22).toNatClampNeg rfl g_26 rfl eM_27 dX8_save_78 (fun H1 locs hL h_md hfr => ?_)
          have hF := hF.step hfr (fun q h => by (try dsimp only at h ⊢); omega)
          obtain ⟨x_28, ex_28, hf⟩ := xl_some hf
          refine lv_iinc (v := x_28) (lv' := [(1, .int x_28), (0, .ref o)]) hx hb dX8_save_79 hl (k := 1) rfl (by rw [ex_28]; rfl) (by decide) rfl (fun ls hl => ?_)
          refine lv_goto (tgt := 51) hx hb dX8_save_82 (by decide) ?_
          exact ih_51 x_28 M_27 _ _ _ hL h_md hF (lv_sub hl [1, 0] rfl) hf
    refine lp_51 _ (fun x_29 M_30 H locs ls hL h_md hF hl hf => ?_) 100000 0 M_21 _ _ _ hL h_md hF (lv_sub hl [1, 0] rfl) hf
    refine lv_aload_n hx hb dX8_save_85 rfl (lv_at hl 0 rfl) ?_
    refine lv_dup hx hb dX8_save_86 rfl ?_
    refine x_get S hK h_md 0 (by decide) rfl rfl rfl in8 3 (by decide) (xm 1 rfl) (x := .int (M_30 0 3)) rfl dX8_save_87 ?_
    refine lv_iconst (v := 1) hx hb dX8_save_90 (by decide) ?_
    refine lv_iadd hx hb dX8_save_91 ?_
    obtain ⟨M_31, eM_31, hf⟩ := xl_some hf
    refine x_put S hK h_md hz_md hL 0 (by decide) rfl rfl rfl in8 tyX8 tyX8_ok nmX8 3 (by decide) (xm 1 rfl) rfl (vp_nar_int _) rfl (Nat.le_of_ble_eq_true rfl) rfl eM_31 dX8_save_92 (fun H1 locs hL h_md hfr => ?_)
    have hF := hF.step hfr (fun q h => by (try dsimp only at h ⊢); omega)
    have q0 := Option.some.inj hf
    subst M'
    subst hQ
    refine x_vret (post := (fun H H1 => PX G o 5 (mdE G o) M_31 H1 ∧ XF (fun q => (o ≤ q ∧ q < o + 5)) H H1)) S hr hlocks rfl ?_ hL dX8_save_95
    exact ⟨h_md, hF⟩
set_option maxRecDepth 100000 in
set_option maxHeartbeats 4000000 in
theorem c_X8_addHirer (l : Launch) (G : xG) (z : Nat) (o : Nat) (M : xV) (r0 : Int32) (M' : xV) (hz_md : z ≤ o) (hf : f_X8_addHirer M = some (r0, M')) : xM l yX8_addHirer wsX8_addHirer 1 21 G z [.ref o] (fun H => PX G o 5 (mdE G o) M H) (some (.int r0)) (fun H H1 => PX G o 5 (mdE G o) M' H1 ∧ XF (fun q => (o ≤ q ∧ q < o + 5)) H H1) := by
  refine xM.of (cc := cX8_addHirer) (maxL := 1) (ret := (some .int)) (by decide +kernel) rfl (Nat.le_of_ble_eq_true rfl) ?_
  intro p e s m args below meth c ls Q hQ S hr hlocks hK hP hl
  obtain ⟨hx, hb, hml, hown, hts⟩ := id S
  have h_md := hP
  have hL : ∀ q ∈ ([] : List Loc), z ≤ q.base := fun q h => absurd h List.not_mem_nil
  have hF : XF (fun q => (o ≤ q ∧ q < o + 5)) s.heap s.heap := XF.rf
  have hl : lv_has ls 1 [(0, .ref o)] := hl
  have in8 : ∀ w ∈ u_ws RX8 TX8 18, w ∈ wsX8_addHirer := fun _ h => List.mem_cons_of_mem _ (List.mem_append_right _ h)
  unfold f_X8_addHirer at hf
  refine lv_aload_n hx hb dX8_addHirer_0 rfl (lv_at hl 0 rfl) ?_
  refine x_get S hK h_md 0 (by decide) rfl rfl rfl in8 0 (by decide) (xm 1 rfl) (x := .ref (o + 1)) rfl dX8_addHirer_1 ?_
  refine lv_bipush (v := 9) hx hb dX8_addHirer_4 (by decide) ?_
  refine x_iald S hK h_md 1 (by decide) rfl rfl 9 (by decide) (by decide) dX8_addHirer_6 ?_
  refine lv_bipush (v := 10) hx hb dX8_addHirer_7 (by decide) ?_
  refine lv_icmp_ne (tgt := 15) hx hb dX8_addHirer_9 (by decide) (fun c_1 => ?_) (fun c_1 => ?_)
  · have hf := (if_neg c_1).symm.trans hf
    refine lv_aload_n hx hb dX8_addHirer_15 rfl (lv_at hl 0 rfl) ?_
    obtain ⟨M_2, e_3, hf⟩ := xb_some hf
    refine x_callVv (As := []) (rest := []) S hK (c_X8_save l G z o M M_2 (by omega) e_3) gX8_addHirer_X8_save rfl 0 (by decide +kernel) rfl ⟨Nat.le_of_ble_eq_true rfl, Nat.le_of_ble_eq_true rfl⟩ h_md 0 (by decide) rfl rfl rfl h_md hl.1 rfl (Nat.le_of_ble_eq_true rfl) dX8_addHirer_16 hL ⟨Nat.zero_le _, Nat.zero_le _⟩ (fun H1 locs hL hpost => ?_)
    obtain ⟨n_md, hfr⟩ := hpost
    have h_md := n_md
    have hF := hF.step hfr (fun q h => by (try dsimp only at h ⊢); omega)
    refine lv_aload_n hx hb dX8_addHirer_19 rfl (lv_at hl 0 rfl) ?_
    refine x_get S hK h_md 0 (by decide) rfl rfl rfl in8 0 (by decide) (xm 1 rfl) (x := .ref (o + 1)) rfl dX8_addHirer_20 ?_
    refine lv_bipush (v := 9) hx hb dX8_addHirer_23 (by decide) ?_
    refine lv_dup2_11 hx hb dX8_addHirer_25 rfl rfl ?_
    refine x_iald S hK h_md 1 (by decide) rfl rfl 9 (by decide) (by decide) dX8_addHirer_26 ?_
    refine lv_iconst (v := 1) hx hb dX8_addHirer_27 (by decide) ?_
    refine lv_iadd hx hb dX8_addHirer_28 ?_
    obtain ⟨M_4, eM_4, hf⟩ := xl_some hf
    refine x_iast S hK h_md hz_md hL 1 (by decide) rfl rfl 9 (by decide) (by decide) rfl eM_4 dX8_addHirer_29 (fun H1 locs hL h_md hfr => ?_)
    have hF := hF.step hfr (fun q h => by (try dsimp only at h ⊢); omega)
    refine lv_aload_n hx hb dX8_addHirer_30 rfl (lv_at hl 0 rfl) ?_
    refine x_get S hK h_md 0 (by decide) rfl rfl rfl in8 0 (by decide) (xm 1 rfl) (x := .ref (o + 1)) rfl dX8_addHirer_31 ?_
    refine lv_bipush (v := 9) hx hb dX8_addHirer_34 (by decide) ?_
    refine x_iald S hK h_md 1 (by decide) rfl rfl 9 (by decide) (by decide) dX8_addHirer_36 ?_
    refine lv_iconst (v := 1) hx hb dX8_addHirer_37 (by decide) ?_
    refine lv_isub hx hb dX8_addHirer_38 ?_
    obtain ⟨q0, qq0⟩ := Prod.mk.inj (Option.some.inj hf)
    have q1 := qq0
    subst r0
    subst M'
    subst hQ
    refine x_iret (post := (fun H H1 => PX G o 5 (mdE G o) M_4 H1 ∧ XF (fun q => (o ≤ q ∧ q < o + 5)) H H1)) S hr hlocks rfl ?_ hL dX8_addHirer_39
    exact ⟨h_md, hF⟩
  · have hf := (if_pos c_1).symm.trans hf
    refine lv_ldc (v := (-2000000003)) hx hb hown (hts _ (xm 2 rfl)) dX8_addHirer_12 ?_
    obtain ⟨q0, qq0⟩ := Prod.mk.inj (Option.some.inj hf)
    have q1 := qq0
    subst r0
    subst M'
    subst hQ
    refine x_iret (post := (fun H H1 => PX G o 5 (mdE G o) M H1 ∧ XF (fun q => (o ≤ q ∧ q < o + 5)) H H1)) S hr hlocks rfl ?_ hL dX8_addHirer_14
    exact ⟨h_md, hF⟩
set_option maxRecDepth 100000 in
set_option maxHeartbeats 4000000 in
theorem c_X8_areHours (l : Launch) (G : xG) (z : Nat) (p1 : Int32) (r0 : Int32)  (hf : f_X8_areHours p1 = some r0) : xM l yX8_areHours wsX8_areHours 0 0 G z [.int p1] (fun H => H = H) (some (.int r0)) (fun H H1 => H1 = H) := by
  refine xM.of (cc := cX8_areHours) (maxL := 1) (ret := (some .boolean)) (by decide +kernel) rfl (Nat.le_of_ble_eq_true rfl) ?_
  intro p e s m args below meth c ls Q hQ S hr hlocks hK hP hl
  obtain ⟨hx, hb, hml, hown, hts⟩ := id S
  have hL : ∀ q ∈ ([] : List Loc), z ≤ q.base := fun q h => absurd h List.not_mem_nil
  have hl : lv_has ls 1 [(0, .int p1)] := hl
  unfold f_X8_areHours at hf
  refine lv_iload_n hx hb dX8_areHours_0 rfl (lv_at hl 0 rfl) ?_
  refine lv_if_lt (tgt := 28) hx hb dX8_areHours_1 (by decide) (fun c_1 => ?_) (fun c_1 => ?_)
  · have hf := (if_pos c_1).symm.trans hf
    refine lv_iconst (v := 0) hx hb dX8_areHours_28 (by decide) ?_
    have q0 := Option.some.inj hf
    subst r0
    subst hQ
    refine x_zret (post := (fun H H1 => H1 = H)) S hr hlocks (by decide) rfl ?_ hL dX8_areHours_29
    exact rfl
  · have hf := (if_neg c_1).symm.trans hf
    refine lv_iload_n hx hb dX8_areHours_4 rfl (lv_at hl 0 rfl) ?_
    refine lv_bipush (v := 100) hx hb dX8_areHours_5 (by decide) ?_
    refine lv_idiv hx hb dX8_areHours_7 (by decide) ?_
    refine lv_iload_n hx hb dX8_areHours_8 rfl (lv_at hl 0 rfl) ?_
    refine lv_bipush (v := 100) hx hb dX8_areHours_9 (by decide) ?_
    refine lv_irem hx hb dX8_areHours_11 (by decide) ?_
    refine lv_icmp_ge (tgt := 28) hx hb dX8_areHours_12 (by decide) (fun c_2 => ?_) (fun c_2 => ?_)
    · have hf := (if_pos c_2).symm.trans hf
      refine lv_iconst (v := 0) hx hb dX8_areHours_28 (by decide) ?_
      have q0 := Option.some.inj hf
      subst r0
      subst hQ
      refine x_zret (post := (fun H H1 => H1 = H)) S hr hlocks (by decide) rfl ?_ hL dX8_areHours_29
      exact rfl
    · have hf := (if_neg c_2).symm.trans hf
      refine lv_iload_n hx hb dX8_areHours_15 rfl (lv_at hl 0 rfl) ?_
      refine lv_bipush (v := 100) hx hb dX8_areHours_16 (by decide) ?_
      refine lv_irem hx hb dX8_areHours_18 (by decide) ?_
      refine lv_bipush (v := 24) hx hb dX8_areHours_19 (by decide) ?_
      refine lv_icmp_gt (tgt := 28) hx hb dX8_areHours_21 (by decide) (fun c_3 => ?_) (fun c_3 => ?_)
      · have hf := (if_pos c_3).symm.trans hf
        refine lv_iconst (v := 0) hx hb dX8_areHours_28 (by decide) ?_
        have q0 := Option.some.inj hf
        subst r0
        subst hQ
        refine x_zret (post := (fun H H1 => H1 = H)) S hr hlocks (by decide) rfl ?_ hL dX8_areHours_29
        exact rfl
      · have hf := (if_neg c_3).symm.trans hf
        refine lv_iconst (v := 1) hx hb dX8_areHours_24 (by decide) ?_
        refine lv_goto (tgt := 29) hx hb dX8_areHours_25 (by decide) ?_
        have q0 := Option.some.inj hf
        subst r0
        subst hQ
        refine x_zret (post := (fun H H1 => H1 = H)) S hr hlocks (by decide) rfl ?_ hL dX8_areHours_29
        exact rfl
set_option maxRecDepth 100000 in
set_option maxHeartbeats 4000000 in
theorem c_X8_at (l : Launch) (G : xG) (z : Nat) (p1 : Int32) (p2 : Int32) (r0 : Int32)  (hf : f_X8_at p1 p2 = some r0) : xM l yX8_at wsX8_at 0 0 G z [.int p1, .int p2] (fun H => H = H) (some (.int r0)) (fun H H1 => H1 = H) := by
  refine xM.of (cc := cX8_at) (maxL := 2) (ret := (some .int)) (by decide +kernel) rfl (Nat.le_of_ble_eq_true rfl) ?_
  intro p e s m args below meth c ls Q hQ S hr hlocks hK hP hl
  obtain ⟨hx, hb, hml, hown, hts⟩ := id S
  have hL : ∀ q ∈ ([] : List Loc), z ≤ q.base := fun q h => absurd h List.not_mem_nil
  have hl : lv_has ls 2 [(0, .int p1), (1, .int p2)] := hl
  unfold f_X8_at at hf
  refine lv_bipush (v := 52) hx hb dX8_at_0 (by decide) ?_
  refine lv_bipush (v := 64) hx hb dX8_at_2 (by decide) ?_
  refine lv_iload_n hx hb dX8_at_4 rfl (lv_at hl 0 rfl) ?_
  refine lv_imul hx hb dX8_at_5 ?_
  refine lv_iadd hx hb dX8_at_6 ?_
  refine lv_iload_n hx hb dX8_at_7 rfl (lv_at hl 1 rfl) ?_
  refine lv_iadd hx hb dX8_at_8 ?_
  have q0 := Option.some.inj hf
  subst r0
  subst hQ
  refine x_iret (post := (fun H H1 => H1 = H)) S hr hlocks rfl ?_ hL dX8_at_9
  exact rfl
set_option maxRecDepth 100000 in
set_option maxHeartbeats 4000000 in
theorem c_X8_in (l : Launch) (G : xG) (z : Nat) (p1 : Int64) (p2 : Int64) (p3 : Int64) (r0 : Int32)  (hf : f_X8_in p1 p2 p3 = some r0) : xM l yX8_in wsX8_in 0 0 G z [.long p1, .long p2, .long p3] (fun H => H = H) (some (.int r0)) (fun H H1 => H1 = H) := by
  refine xM.of (cc := cX8_in) (maxL := 6) (ret := (some .boolean)) (by decide +kernel) rfl (Nat.le_of_ble_eq_true rfl) ?_
  intro p e s m args below meth c ls Q hQ S hr hlocks hK hP hl
  obtain ⟨hx, hb, hml, hown, hts⟩ := id S
  have hL : ∀ q ∈ ([] : List Loc), z ≤ q.base := fun q h => absurd h List.not_mem_nil
  have hl : lv_has ls 6 [(0, .long p1), (2, .long p2), (4, .long p3)] := hl
  unfold f_X8_in at hf
  refine lv_lload_n hx hb dX8_in_0 rfl (lv_at hl 0 rfl) ?_
  refine lv_lload_n hx hb dX8_in_1 rfl (lv_at hl 1 rfl) ?_
  refine W.lcmp hx hb dX8_in_2 ?_
  refine lv_if_lt (tgt := 17) hx hb dX8_in_3 (by decide) (fun c_1 => ?_) (fun c_1 => ?_)
  · have hf := (if_pos c_1).symm.trans hf
    refine lv_iconst (v := 0) hx hb dX8_in_17 (by decide) ?_
    have q0 := Option.some.inj hf
    subst r0
    subst hQ
    refine x_zret (post := (fun H H1 => H1 = H)) S hr hlocks (by decide) rfl ?_ hL dX8_in_18
    exact rfl
  · have hf := (if_neg c_1).symm.trans hf
    refine lv_lload_n hx hb dX8_in_6 rfl (lv_at hl 0 rfl) ?_
    refine lv_lload hx hb dX8_in_7 (lv_at hl 2 rfl) ?_
    refine W.lcmp hx hb dX8_in_9 ?_
    refine lv_if_gt (tgt := 17) hx hb dX8_in_10 (by decide) (fun c_2 => ?_) (fun c_2 => ?_)
    · have hf := (if_pos c_2).symm.trans hf
      refine lv_iconst (v := 0) hx hb dX8_in_17 (by decide) ?_
      have q0 := Option.some.inj hf
      subst r0
      subst hQ
      refine x_zret (post := (fun H H1 => H1 = H)) S hr hlocks (by decide) rfl ?_ hL dX8_in_18
      exact rfl
    · have hf := (if_neg c_2).symm.trans hf
      refine lv_iconst (v := 1) hx hb dX8_in_13 (by decide) ?_
      refine lv_goto (tgt := 18) hx hb dX8_in_14 (by decide) ?_
      have q0 := Option.some.inj hf
      subst r0
      subst hQ
      refine x_zret (post := (fun H H1 => H1 = H)) S hr hlocks (by decide) rfl ?_ hL dX8_in_18
      exact rfl
set_option maxRecDepth 100000 in
set_option maxHeartbeats 4000000 in
theorem c_X8_isKey (l : Launch) (G : xG) (z : Nat) (p1 : Int32) (r0 : Int32)  (hf : f_X8_isKey p1 = some r0) : xM l yX8_isKey wsX8_isKey 1 25 G z [.int p1] (fun H => H = H) (some (.int r0)) (fun H H1 => H1 = H) := by
  refine xM.of (cc := cX8_isKey) (maxL := 1) (ret := (some .boolean)) (by decide +kernel) rfl (Nat.le_of_ble_eq_true rfl) ?_
  intro p e s m args below meth c ls Q hQ S hr hlocks hK hP hl
  obtain ⟨hx, hb, hml, hown, hts⟩ := id S
  have hL : ∀ q ∈ ([] : List Loc), z ≤ q.base := fun q h => absurd h List.not_mem_nil
  have hl : lv_has ls 1 [(0, .int p1)] := hl
  unfold f_X8_isKey at hf
  refine lv_iload_n hx hb dX8_isKey_0 rfl (lv_at hl 0 rfl) ?_
  refine lv_i2l (v := p1.toInt64) hx hb dX8_isKey_1 rfl ?_
  refine lv_lconst (v := 0) hx hb dX8_isKey_2 (by decide) ?_
  refine lv_ldc2 (v := 5) hx hb hown (hts _ (xm 1 rfl)) dX8_isKey_3 ?_
  obtain ⟨r_1, e_2, hf⟩ := xb_some hf
  refine x_callTi (As := [.long (p1.toInt64), .long 0, .long 5]) (rest := []) S hK (c_X8_in l G z (p1.toInt64) 0 5 r_1 e_2) gX8_isKey_X8_in rfl 3 (by decide +kernel) rfl ⟨Nat.le_of_ble_eq_true rfl, Nat.le_of_ble_eq_true rfl⟩ rfl hl.1 rfl (Nat.le_of_ble_eq_true rfl) dX8_isKey_6 hL ⟨Nat.zero_le _, Nat.zero_le _⟩ (fun H1 locs hL hpost => ?_)
  subst hpost
  obtain ⟨g_3, hf⟩ := xg_some hf
  have q0 := Option.some.inj hf
  subst r0
  subst hQ
  refine x_zret (post := (fun H H1 => H1 = H)) S hr hlocks g_3 rfl ?_ hL dX8_isKey_9
  exact rfl
set_option maxRecDepth 100000 in
set_option maxHeartbeats 4000000 in
theorem c_X8_lateBy (l : Launch) (G : xG) (z : Nat) (o : Nat) (M : xV) (p1 : Int32) (r0 : Int32)  (hf : f_X8_lateBy M p1 = some r0) : xM l yX8_lateBy wsX8_lateBy 0 0 G z [.ref o, .int p1] (fun H => PX G o 5 (mdE G o) M H) (some (.int r0)) (fun H H1 => H1 = H) := by
  refine xM.of (cc := cX8_lateBy) (maxL := 3) (ret := (some .int)) (by decide +kernel) rfl (Nat.le_of_ble_eq_true rfl) ?_
  intro p e s m args below meth c ls Q hQ S hr hlocks hK hP hl
  obtain ⟨hx, hb, hml, hown, hts⟩ := id S
  have h_md := hP
  have hL : ∀ q ∈ ([] : List Loc), z ≤ q.base := fun q h => absurd h List.not_mem_nil
  have hl : lv_has ls 3 [(0, .ref o), (1, .int p1)] := hl
  have in8 : ∀ w ∈ u_ws RX8 TX8 18, w ∈ wsX8_lateBy := fun _ h => List.mem_cons_of_mem _ (List.mem_append_right _ h)
  unfold f_X8_lateBy at hf
  refine lv_aload_n hx hb dX8_lateBy_0 rfl (lv_at hl 0 rfl) ?_
  refine x_get S hK h_md 0 (by decide) rfl rfl rfl in8 0 (by decide) (xm 1 rfl) (x := .ref (o + 1)) rfl dX8_lateBy_1 ?_
  refine lv_bipush (v := 40) hx hb dX8_lateBy_4 (by decide) ?_
  refine lv_iconst (v := 2) hx hb dX8_lateBy_6 (by decide) ?_
  refine lv_iload_n hx hb dX8_lateBy_7 rfl (lv_at hl 1 rfl) ?_
  refine lv_imul hx hb dX8_lateBy_8 ?_
  refine lv_iadd hx hb dX8_lateBy_9 ?_
  obtain ⟨g_1, hf⟩ := xg_some hf
  refine x_iald S hK h_md 1 (by decide) rfl rfl (40 + (2 * p1)).toNatClampNeg rfl g_1 dX8_lateBy_10 ?_
  refine lv_iconst (v := (-1)) hx hb dX8_lateBy_11 (by decide) ?_
  refine lv_icmp_eq (tgt := 41) hx hb dX8_lateBy_12 (by decide) (fun c_2 => ?_) (fun c_2 => ?_)
  · have hf := (if_pos c_2).symm.trans hf
    refine lv_iconst (v := 0) hx hb dX8_lateBy_41 (by decide) ?_
    refine lv_istore_n (lv' := [(2, .int 0), (0, .ref o), (1, .int p1)]) hx hb dX8_lateBy_42 rfl hl (by decide) rfl (fun ls hl => ?_)
    refine lv_iload_n hx hb dX8_lateBy_43 rfl (lv_at hl 0 rfl) ?_
    refine lv_if_eq (tgt := 70) hx hb dX8_lateBy_44 (by decide) (fun _ => ?_) (fun h9 => absurd h9 (by decide))
    refine lv_iconst (v := 0) hx hb dX8_lateBy_70 (by decide) ?_
    have q0 := Option.some.inj hf
    subst r0
    subst hQ
    refine x_iret (post := (fun H H1 => H1 = H)) S hr hlocks rfl ?_ hL dX8_lateBy_71
    exact rfl
  · have hf := (if_neg c_2).symm.trans hf
    refine lv_aload_n hx hb dX8_lateBy_15 rfl (lv_at hl 0 rfl) ?_
    refine x_get S hK h_md 0 (by decide) rfl rfl rfl in8 0 (by decide) (xm 1 rfl) (x := .ref (o + 1)) rfl dX8_lateBy_16 ?_
    refine lv_iconst (v := 0) hx hb dX8_lateBy_19 (by decide) ?_
    refine x_iald S hK h_md 1 (by decide) rfl rfl 0 (by decide) (by decide) dX8_lateBy_20 ?_
    refine lv_aload_n hx hb dX8_lateBy_21 rfl (lv_at hl 0 rfl) ?_
    refine x_get S hK h_md 0 (by decide) rfl rfl rfl in8 0 (by decide) (xm 1 rfl) (x := .ref (o + 1)) rfl dX8_lateBy_22 ?_
    refine lv_bipush (v := 40) hx hb dX8_lateBy_25 (by decide) ?_
    refine lv_iconst (v := 2) hx hb dX8_lateBy_27 (by decide) ?_
    refine lv_iload_n hx hb dX8_lateBy_28 rfl (lv_at hl 1 rfl) ?_
    refine lv_imul hx hb dX8_lateBy_29 ?_
    refine lv_iadd hx hb dX8_lateBy_30 ?_
    refine lv_iconst (v := 1) hx hb dX8_lateBy_31 (by decide) ?_
    refine lv_iadd hx hb dX8_lateBy_32 ?_
    obtain ⟨g_3, hf⟩ := xg_some hf
    refine x_iald S hK h_md 1 (by decide) rfl rfl ((40 + (2 * p1)) + 1).toNatClampNeg rfl g_3 dX8_lateBy_33 ?_
    refine lv_icmp_le (tgt := 41) hx hb dX8_lateBy_34 (by decide) (fun c_4 => ?_) (fun c_4 => ?_)
    · have hf := (if_pos c_4).symm.trans hf
      refine lv_iconst (v := 0) hx hb dX8_lateBy_41 (by decide) ?_
      refine lv_istore_n (lv' := [(2, .int 0), (0, .ref o), (1, .int p1)]) hx hb dX8_lateBy_42 rfl hl (by decide) rfl (fun ls hl => ?_)
      refine lv_iload_n hx hb dX8_lateBy_43 rfl (lv_at hl 0 rfl) ?_
      refine lv_if_eq (tgt := 70) hx hb dX8_lateBy_44 (by decide) (fun _ => ?_) (fun h9 => absurd h9 (by decide))
      refine lv_iconst (v := 0) hx hb dX8_lateBy_70 (by decide) ?_
      have q0 := Option.some.inj hf
      subst r0
      subst hQ
      refine x_iret (post := (fun H H1 => H1 = H)) S hr hlocks rfl ?_ hL dX8_lateBy_71
      exact rfl
    · have hf := (if_neg c_4).symm.trans hf
      refine lv_iconst (v := 1) hx hb dX8_lateBy_37 (by decide) ?_
      refine lv_goto (tgt := 42) hx hb dX8_lateBy_38 (by decide) ?_
      refine lv_istore_n (lv' := [(2, .int 1), (0, .ref o), (1, .int p1)]) hx hb dX8_lateBy_42 rfl hl (by decide) rfl (fun ls hl => ?_)
      refine lv_iload_n hx hb dX8_lateBy_43 rfl (lv_at hl 0 rfl) ?_
      refine lv_if_eq (tgt := 70) hx hb dX8_lateBy_44 (by decide) (fun h9 => absurd h9 (by decide)) (fun _ => ?_)
      refine lv_aload_n hx hb dX8_lateBy_47 rfl (lv_at hl 1 rfl) ?_
      refine x_get S hK h_md 0 (by decide) rfl rfl rfl in8 0 (by decide) (xm 1 rfl) (x := .ref (o + 1)) rfl dX8_lateBy_48 ?_
      refine lv_iconst (v := 0) hx hb dX8_lateBy_51 (by decide) ?_
      refine x_iald S hK h_md 1 (by decide) rfl rfl 0 (by decide) (by decide) dX8_lateBy_52 ?_
      refine lv_aload_n hx hb dX8_lateBy_53 rfl (lv_at hl 1 rfl) ?_
      refine x_get S hK h_md 0 (by decide) rfl rfl rfl in8 0 (by decide) (xm 1 rfl) (x := .ref (o + 1)) rfl dX8_lateBy_54 ?_
      refine lv_bipush (v := 40) hx hb dX8_lateBy_57 (by decide) ?_
      refine lv_iconst (v := 2) hx hb dX8_lateBy_59 (by decide) ?_
      refine lv_iload_n hx hb dX8_lateBy_60 rfl (lv_at hl 2 rfl) ?_
      refine lv_imul hx hb dX8_lateBy_61 ?_
      refine lv_iadd hx hb dX8_lateBy_62 ?_
      refine lv_iconst (v := 1) hx hb dX8_lateBy_63 (by decide) ?_
      refine lv_iadd hx hb dX8_lateBy_64 ?_
      obtain ⟨g_5, hf⟩ := xg_some hf
      refine x_iald S hK h_md 1 (by decide) rfl rfl ((40 + (2 * p1)) + 1).toNatClampNeg rfl g_5 dX8_lateBy_65 ?_
      refine lv_isub hx hb dX8_lateBy_66 ?_
      refine lv_goto (tgt := 71) hx hb dX8_lateBy_67 (by decide) ?_
      have q0 := Option.some.inj hf
      subst r0
      subst hQ
      refine x_iret (post := (fun H H1 => H1 = H)) S hr hlocks rfl ?_ hL dX8_lateBy_71
      exact rfl
set_option maxRecDepth 100000 in
set_option maxHeartbeats 4000000 in
theorem c_X8_bringBack (l : Launch) (G : xG) (z : Nat) (o : Nat) (M : xV) (p1 : Int32) (r0 : Int32) (M' : xV) (hz_md : z ≤ o) (hf : f_X8_bringBack M p1 = some (r0, M')) : xM l yX8_bringBack wsX8_bringBack 2 45 G z [.ref o, .int p1] (fun H => PX G o 5 (mdE G o) M H) (some (.int r0)) (fun H H1 => PX G o 5 (mdE G o) M' H1 ∧ XF (fun q => (o ≤ q ∧ q < o + 5)) H H1) := by
  refine xM.of (cc := cX8_bringBack) (maxL := 3) (ret := (some .int)) (by decide +kernel) rfl (Nat.le_of_ble_eq_true rfl) ?_
  intro p e s m args below meth c ls Q hQ S hr hlocks hK hP hl
  obtain ⟨hx, hb, hml, hown, hts⟩ := id S
  have h_md := hP
  have hL : ∀ q ∈ ([] : List Loc), z ≤ q.base := fun q h => absurd h List.not_mem_nil
  have hF : XF (fun q => (o ≤ q ∧ q < o + 5)) s.heap s.heap := XF.rf
  have hl : lv_has ls 3 [(0, .ref o), (1, .int p1)] := hl
  have in8 : ∀ w ∈ u_ws RX8 TX8 18, w ∈ wsX8_bringBack := fun _ h => List.mem_cons_of_mem _ (List.mem_append_right _ h)
  unfold f_X8_bringBack at hf
  refine lv_iload_n hx hb dX8_bringBack_0 rfl (lv_at hl 1 rfl) ?_
  obtain ⟨r_1, e_2, hf⟩ := xb_some hf
  refine x_callTi (As := [.int p1]) (rest := []) S hK (c_X8_isKey l G z p1 r_1 e_2) gX8_bringBack_X8_isKey rfl 1 (by decide +kernel) rfl ⟨Nat.le_of_ble_eq_true rfl, Nat.le_of_ble_eq_true rfl⟩ rfl hl.1 rfl (Nat.le_of_ble_eq_true rfl) dX8_bringBack_1 hL ⟨Nat.zero_le _, Nat.zero_le _⟩ (fun H1 locs hL hpost => ?_)
  subst hpost
  refine lv_if_ne (tgt := 10) hx hb dX8_bringBack_4 (by decide) (fun c_3 => ?_) (fun c_3 => ?_)
  · have hf := (if_neg c_3).symm.trans hf
    refine lv_aload_n hx hb dX8_bringBack_10 rfl (lv_at hl 0 rfl) ?_
    refine x_get S hK h_md 0 (by decide) rfl rfl rfl in8 0 (by decide) (xm 2 rfl) (x := .ref (o + 1)) rfl dX8_bringBack_11 ?_
    refine lv_bipush (v := 40) hx hb dX8_bringBack_14 (by decide) ?_
    refine lv_iconst (v := 2) hx hb dX8_bringBack_16 (by decide) ?_
    refine lv_iload_n hx hb dX8_bringBack_17 rfl (lv_at hl 1 rfl) ?_
    refine lv_imul hx hb dX8_bringBack_18 ?_
    refine lv_iadd hx hb dX8_bringBack_19 ?_
    obtain ⟨g_4, hf⟩ := xg_some hf
    refine x_iald S hK h_md 1 (by decide) rfl rfl (40 + (2 * p1)).toNatClampNeg rfl g_4 dX8_bringBack_20 ?_
    refine lv_iconst (v := (-1)) hx hb dX8_bringBack_21 (by decide) ?_
    refine lv_icmp_ne (tgt := 28) hx hb dX8_bringBack_22 (by decide) (fun c_5 => ?_) (fun c_5 => ?_)
    · have hf := (if_neg c_5).symm.trans hf
      refine lv_aload_n hx hb dX8_bringBack_28 rfl (lv_at hl 0 rfl) ?_
      obtain ⟨M_6, e_7, hf⟩ := xb_some hf
      refine x_callVv (As := []) (rest := []) S hK (c_X8_save l G z o M M_6 (by omega) e_7) gX8_bringBack_X8_save rfl 0 (by decide +kernel) rfl ⟨Nat.le_of_ble_eq_true rfl, Nat.le_of_ble_eq_true rfl⟩ h_md 0 (by decide) rfl rfl rfl h_md hl.1 rfl (Nat.le_of_ble_eq_true rfl) dX8_bringBack_29 hL ⟨Nat.zero_le _, Nat.zero_le _⟩ (fun H1 locs hL hpost => ?_)
      obtain ⟨n_md, hfr⟩ := hpost
      have h_md := n_md
      have hF := hF.step hfr (fun q h => by (try dsimp only at h ⊢); omega)
      refine lv_aload_n hx hb dX8_bringBack_32 rfl (lv_at hl 0 rfl) ?_
      refine lv_iload_n hx hb dX8_bringBack_33 rfl (lv_at hl 1 rfl) ?_
      obtain ⟨r_8, e_9, hf⟩ := xb_some hf
      refine x_callVi (As := [.int p1]) (rest := []) S hK (c_X8_lateBy l G z o M_6 p1 r_8 e_9) gX8_bringBack_X8_lateBy rfl 1 (by decide +kernel) rfl ⟨Nat.le_of_ble_eq_true rfl, Nat.le_of_ble_eq_true rfl⟩ h_md 0 (by decide) rfl rfl rfl h_md hl.1 rfl (Nat.le_of_ble_eq_true rfl) dX8_bringBack_34 hL ⟨Nat.zero_le _, Nat.zero_le _⟩ (fun H1 locs hL hpost => ?_)
      subst hpost
      refine lv_istore_n (lv' := [(2, .int r_8), (0, .ref o), (1, .int p1)]) hx hb dX8_bringBack_37 rfl hl (by decide) rfl (fun ls hl => ?_)
      refine lv_aload_n hx hb dX8_bringBack_38 rfl (lv_at hl 1 rfl) ?_
      refine x_get S hK h_md 0 (by decide) rfl rfl rfl in8 0 (by decide) (xm 2 rfl) (x := .ref (o + 1)) rfl dX8_bringBack_39 ?_
      refine lv_bipush (v := 40) hx hb dX8_bringBack_42 (by decide) ?_
      refine lv_iconst (v := 2) hx hb dX8_bringBack_44 (by decide) ?_
      refine lv_iload_n hx hb dX8_bringBack_45 rfl (lv_at hl 2 rfl) ?_
      refine lv_imul hx hb dX8_bringBack_46 ?_
      refine lv_iadd hx hb dX8_bringBack_47 ?_
      refine lv_iconst (v := (-1)) hx hb dX8_bringBack_48 (by decide) ?_
      obtain ⟨g_10, hf⟩ := xg_some hf
      obtain ⟨M_11, eM_11, hf⟩ := xl_some hf
      refine x_iast S hK h_md hz_md hL 1 (by decide) rfl rfl (40 + (2 * p1)).toNatClampNeg rfl g_10 rfl eM_11 dX8_bringBack_49 (fun H1 locs hL h_md hfr => ?_)
      have hF := hF.step hfr (fun q h => by (try dsimp only at h ⊢); omega)
      refine lv_aload_n hx hb dX8_bringBack_50 rfl (lv_at hl 1 rfl) ?_
      refine x_get S hK h_md 0 (by decide) rfl rfl rfl in8 0 (by decide) (xm 2 rfl) (x := .ref (o + 1)) rfl dX8_bringBack_51 ?_
      refine lv_bipush (v := 40) hx hb dX8_bringBack_54 (by decide) ?_
      refine lv_iconst (v := 2) hx hb dX8_bringBack_56 (by decide) ?_
      refine lv_iload_n hx hb dX8_bringBack_57 rfl (lv_at hl 2 rfl) ?_
      refine lv_imul hx hb dX8_bringBack_58 ?_
      refine lv_iadd hx hb dX8_bringBack_59 ?_
      refine lv_iconst (v := 1) hx hb dX8_bringBack_60 (by decide) ?_
      refine lv_iadd hx hb dX8_bringBack_61 ?_
      refine lv_iconst (v := 0) hx hb dX8_bringBack_62 (by decide) ?_
      obtain ⟨g_12, hf⟩ := xg_some hf
      obtain ⟨M_13, eM_13, hf⟩ := xl_some hf
      refine x_iast S hK h_md hz_md hL 1 (by decide) rfl rfl ((40 + (2 * p1)) + 1).toNatClampNeg rfl g_12 rfl eM_13 dX8_bringBack_63 (fun H1 locs hL h_md hfr => ?_)
      have hF := hF.step hfr (fun q h => by (try dsimp only at h ⊢); omega)
      refine lv_iload_n hx hb dX8_bringBack_64 rfl (lv_at hl 0 rfl) ?_
      obtain ⟨q0, qq0⟩ := Prod.mk.inj (Option.some.inj hf)
      have q1 := qq0
      subst r0
      subst M'
      subst hQ
      refine x_iret (post := (fun H H1 => PX G o 5 (mdE G o) M_13 H1 ∧ XF (fun q => (o ≤ q ∧ q < o + 5)) H H1)) S hr hlocks rfl ?_ hL dX8_bringBack_65
      exact ⟨h_md, hF⟩
    · have hf := (if_pos c_5).symm.trans hf
      refine lv_ldc (v := (-2000000002)) hx hb hown (hts _ (xm 3 rfl)) dX8_bringBack_25 ?_
      obtain ⟨q0, qq0⟩ := Prod.mk.inj (Option.some.inj hf)
      have q1 := qq0
      subst r0
      subst M'
      subst hQ
      refine x_iret (post := (fun H H1 => PX G o 5 (mdE G o) M H1 ∧ XF (fun q => (o ≤ q ∧ q < o + 5)) H H1)) S hr hlocks rfl ?_ hL dX8_bringBack_27
      exact ⟨h_md, hF⟩
  · have hf := (if_pos c_3).symm.trans hf
    refine lv_ldc (v := (-2000000001)) hx hb hown (hts _ (xm 1 rfl)) dX8_bringBack_7 ?_
    obtain ⟨q0, qq0⟩ := Prod.mk.inj (Option.some.inj hf)
    have q1 := qq0
    subst r0
    subst M'
    subst hQ
    refine x_iret (post := (fun H H1 => PX G o 5 (mdE G o) M H1 ∧ XF (fun q => (o ≤ q ∧ q < o + 5)) H H1)) S hr hlocks rfl ?_ hL dX8_bringBack_9
    exact ⟨h_md, hF⟩
set_option maxRecDepth 100000 in
set_option maxHeartbeats 4000000 in
theorem c_X8_isHire (l : Launch) (G : xG) (z : Nat) (o : Nat) (M : xV) (p1 : Int32) (r0 : Int32)  (hf : f_X8_isHire M p1 = some r0) : xM l yX8_isHire wsX8_isHire 1 25 G z [.ref o, .int p1] (fun H => PX G o 5 (mdE G o) M H) (some (.int r0)) (fun H H1 => H1 = H) := by
  refine xM.of (cc := cX8_isHire) (maxL := 2) (ret := (some .boolean)) (by decide +kernel) rfl (Nat.le_of_ble_eq_true rfl) ?_
  intro p e s m args below meth c ls Q hQ S hr hlocks hK hP hl
  obtain ⟨hx, hb, hml, hown, hts⟩ := id S
  have h_md := hP
  have hL : ∀ q ∈ ([] : List Loc), z ≤ q.base := fun q h => absurd h List.not_mem_nil
  have hl : lv_has ls 2 [(0, .ref o), (1, .int p1)] := hl
  have in8 : ∀ w ∈ u_ws RX8 TX8 18, w ∈ wsX8_isHire := fun _ h => List.mem_cons_of_mem _ (List.mem_append_right _ h)
  unfold f_X8_isHire at hf
  refine lv_iload_n hx hb dX8_isHire_0 rfl (lv_at hl 1 rfl) ?_
  refine lv_i2l (v := p1.toInt64) hx hb dX8_isHire_1 rfl ?_
  refine lv_lconst (v := 0) hx hb dX8_isHire_2 (by decide) ?_
  refine lv_aload_n hx hb dX8_isHire_3 rfl (lv_at hl 0 rfl) ?_
  refine x_get S hK h_md 0 (by decide) rfl rfl rfl in8 0 (by decide) (xm 1 rfl) (x := .ref (o + 1)) rfl dX8_isHire_4 ?_
  refine lv_bipush (v := 10) hx hb dX8_isHire_7 (by decide) ?_
  refine x_iald S hK h_md 1 (by decide) rfl rfl 10 (by decide) (by decide) dX8_isHire_9 ?_
  refine lv_i2l (v := (M 1 10).toInt64) hx hb dX8_isHire_10 rfl ?_
  refine lv_lconst (v := 1) hx hb dX8_isHire_11 (by decide) ?_
  refine lv_lsub hx hb dX8_isHire_12 ?_
  obtain ⟨r_1, e_2, hf⟩ := xb_some hf
  refine x_callTi (As := [.long (p1.toInt64), .long 0, .long (((M 1 10).toInt64) - 1)]) (rest := []) S hK (c_X8_in l G z (p1.toInt64) 0 (((M 1 10).toInt64) - 1) r_1 e_2) gX8_isHire_X8_in rfl 3 (by decide +kernel) rfl ⟨Nat.le_of_ble_eq_true rfl, Nat.le_of_ble_eq_true rfl⟩ rfl hl.1 rfl (Nat.le_of_ble_eq_true rfl) dX8_isHire_13 hL ⟨Nat.zero_le _, Nat.zero_le _⟩ (fun H1 locs hL hpost => ?_)
  subst hpost
  obtain ⟨g_3, hf⟩ := xg_some hf
  have q0 := Option.some.inj hf
  subst r0
  subst hQ
  refine x_zret (post := (fun H H1 => H1 = H)) S hr hlocks g_3 rfl ?_ hL dX8_isHire_16
  exact rfl
