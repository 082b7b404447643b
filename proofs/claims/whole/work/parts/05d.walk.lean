/-! ===== the methods, walked (written by program) ===== -/
set_option maxRecDepth 100000 in
set_option maxHeartbeats 4000000 in
theorem c_X6_takeHours (l : Launch) (G : xG) (z : Nat) (w : Nat) (wv : xV) (p1 : Int32) (wv' : xV) (hz_ws : z ≤ w) (hf : f_X6_takeHours wv p1 = some wv') : xM l yX6_takeHours wsX6_takeHours 0 0 G z [.ref w, .int p1] (fun H => PX G w 1 wsE wv H) none (fun H H1 => PX G w 1 wsE wv' H1 ∧ XF (fun q => (w ≤ q ∧ q < w + 1)) H H1) := by
  refine xM.of (cc := cX6_takeHours) (maxL := 2) (ret := none) (by decide +kernel) rfl (Nat.le_of_ble_eq_true rfl) ?_
  intro p e s m args below meth c ls Q hQ S hr hlocks hK hP hl
  obtain ⟨hx, hb, hml, hown, hts⟩ := id S
  have h_ws := hP
  have hL : ∀ q ∈ ([] : List Loc), z ≤ q.base := fun q h => absurd h List.not_mem_nil
  have hF : XF (fun q => (w ≤ q ∧ q < w + 1)) s.heap s.heap := XF.rf
  have hl : lv_has ls 2 [(0, .ref w), (1, .int p1)] := hl
  have in6 : ∀ w ∈ u_ws RX6 TX6 7, w ∈ wsX6_takeHours := fun _ h => List.mem_cons_of_mem _ (List.mem_append_right _ h)
  unfold f_X6_takeHours at hf
  refine lv_aload_n hx hb dX6_takeHours_0 rfl (lv_at hl 0 rfl) ?_
  refine lv_iload_n hx hb dX6_takeHours_1 rfl (lv_at hl 1 rfl) ?_
  refine lv_if_ge (tgt := 9) hx hb dX6_takeHours_2 (by decide) (fun c_1 => ?_) (fun c_1 => ?_)
  · have hf := (if_pos c_1).symm.trans hf
    refine lv_iload_n hx hb dX6_takeHours_9 rfl (lv_at hl 1 rfl) ?_
    refine lv_bipush (v := 100) hx hb dX6_takeHours_10 (by decide) ?_
    refine lv_idiv hx hb dX6_takeHours_12 (by decide) ?_
    obtain ⟨wv_2, ewv_2, hf⟩ := xl_some hf
    refine x_put S hK h_ws hz_ws hL 0 (by decide) rfl rfl rfl in6 tyX6 tyX6_ok nmX6 2 (by decide) (xm 1 rfl) rfl (vp_nar_int _) rfl (Nat.le_of_ble_eq_true rfl) rfl ewv_2 dX6_takeHours_13 (fun H1 locs hL h_ws hfr => ?_)
    have hF := hF.step hfr (fun q h => by (try dsimp only at h ⊢); omega)
    refine lv_aload_n hx hb dX6_takeHours_16 rfl (lv_at hl 0 rfl) ?_
    refine lv_iload_n hx hb dX6_takeHours_17 rfl (lv_at hl 1 rfl) ?_
    refine lv_if_ge (tgt := 25) hx hb dX6_takeHours_18 (by decide) (fun c_3 => ?_) (fun c_3 => ?_)
    · have hf := (if_pos c_3).symm.trans hf
      refine lv_iload_n hx hb dX6_takeHours_25 rfl (lv_at hl 1 rfl) ?_
      refine lv_bipush (v := 100) hx hb dX6_takeHours_26 (by decide) ?_
      refine lv_irem hx hb dX6_takeHours_28 (by decide) ?_
      obtain ⟨wv_4, ewv_4, hf⟩ := xl_some hf
      refine x_put S hK h_ws hz_ws hL 0 (by decide) rfl rfl rfl in6 tyX6 tyX6_ok nmX6 3 (by decide) (xm 2 rfl) rfl (vp_nar_int _) rfl (Nat.le_of_ble_eq_true rfl) rfl ewv_4 dX6_takeHours_29 (fun H1 locs hL h_ws hfr => ?_)
      have hF := hF.step hfr (fun q h => by (try dsimp only at h ⊢); omega)
      have q0 := Option.some.inj hf
      subst wv'
      subst hQ
      refine x_vret (post := (fun H H1 => PX G w 1 wsE wv_4 H1 ∧ XF (fun q => (w ≤ q ∧ q < w + 1)) H H1)) S hr hlocks rfl ?_ hL dX6_takeHours_32
      exact ⟨h_ws, hF⟩
    · have hf := (if_neg c_3).symm.trans hf
      refine lv_iconst (v := (-1)) hx hb dX6_takeHours_21 (by decide) ?_
      refine lv_goto (tgt := 29) hx hb dX6_takeHours_22 (by decide) ?_
      obtain ⟨wv_5, ewv_5, hf⟩ := xl_some hf
      refine x_put S hK h_ws hz_ws hL 0 (by decide) rfl rfl rfl in6 tyX6 tyX6_ok nmX6 3 (by decide) (xm 2 rfl) rfl (vp_nar_int _) rfl (Nat.le_of_ble_eq_true rfl) rfl ewv_5 dX6_takeHours_29 (fun H1 locs hL h_ws hfr => ?_)
      have hF := hF.step hfr (fun q h => by (try dsimp only at h ⊢); omega)
      have q0 := Option.some.inj hf
      subst wv'
      subst hQ
      refine x_vret (post := (fun H H1 => PX G w 1 wsE wv_5 H1 ∧ XF (fun q => (w ≤ q ∧ q < w + 1)) H H1)) S hr hlocks rfl ?_ hL dX6_takeHours_32
      exact ⟨h_ws, hF⟩
  · have hf := (if_neg c_1).symm.trans hf
    refine lv_iconst (v := (-1)) hx hb dX6_takeHours_5 (by decide) ?_
    refine lv_goto (tgt := 13) hx hb dX6_takeHours_6 (by decide) ?_
    obtain ⟨wv_6, ewv_6, hf⟩ := xl_some hf
    refine x_put S hK h_ws hz_ws hL 0 (by decide) rfl rfl rfl in6 tyX6 tyX6_ok nmX6 2 (by decide) (xm 1 rfl) rfl (vp_nar_int _) rfl (Nat.le_of_ble_eq_true rfl) rfl ewv_6 dX6_takeHours_13 (fun H1 locs hL h_ws hfr => ?_)
    have hF := hF.step hfr (fun q h => by (try dsimp only at h ⊢); omega)
    refine lv_aload_n hx hb dX6_takeHours_16 rfl (lv_at hl 0 rfl) ?_
    refine lv_iload_n hx hb dX6_takeHours_17 rfl (lv_at hl 1 rfl) ?_
    refine lv_if_ge (tgt := 25) hx hb dX6_takeHours_18 (by decide) (fun c_7 => ?_) (fun c_7 => ?_)
    · have hf := (if_pos c_7).symm.trans hf
      refine lv_iload_n hx hb dX6_takeHours_25 rfl (lv_at hl 1 rfl) ?_
      refine lv_bipush (v := 100) hx hb dX6_takeHours_26 (by decide) ?_
      refine lv_irem hx hb dX6_takeHours_28 (by decide) ?_
      obtain ⟨wv_8, ewv_8, hf⟩ := xl_some hf
      refine x_put S hK h_ws hz_ws hL 0 (by decide) rfl rfl rfl in6 tyX6 tyX6_ok nmX6 3 (by decide) (xm 2 rfl) rfl (vp_nar_int _) rfl (Nat.le_of_ble_eq_true rfl) rfl ewv_8 dX6_takeHours_29 (fun H1 locs hL h_ws hfr => ?_)
      have hF := hF.step hfr (fun q h => by (try dsimp only at h ⊢); omega)
      have q0 := Option.some.inj hf
      subst wv'
      subst hQ
      refine x_vret (post := (fun H H1 => PX G w 1 wsE wv_8 H1 ∧ XF (fun q => (w ≤ q ∧ q < w + 1)) H H1)) S hr hlocks rfl ?_ hL dX6_takeHours_32
      exact ⟨h_ws, hF⟩
    · have hf := (if_neg c_7).symm.trans hf
      refine lv_iconst (v := (-1)) hx hb dX6_takeHours_21 (by decide) ?_
      refine lv_goto (tgt := 29) hx hb dX6_takeHours_22 (by decide) ?_
      obtain ⟨wv_9, ewv_9, hf⟩ := xl_some hf
      refine x_put S hK h_ws hz_ws hL 0 (by decide) rfl rfl rfl in6 tyX6 tyX6_ok nmX6 3 (by decide) (xm 2 rfl) rfl (vp_nar_int _) rfl (Nat.le_of_ble_eq_true rfl) rfl ewv_9 dX6_takeHours_29 (fun H1 locs hL h_ws hfr => ?_)
      have hF := hF.step hfr (fun q h => by (try dsimp only at h ⊢); omega)
      have q0 := Option.some.inj hf
      subst wv'
      subst hQ
      refine x_vret (post := (fun H H1 => PX G w 1 wsE wv_9 H1 ∧ XF (fun q => (w ≤ q ∧ q < w + 1)) H H1)) S hr hlocks rfl ?_ hL dX6_takeHours_32
      exact ⟨h_ws, hF⟩
set_option maxRecDepth 100000 in
set_option maxHeartbeats 4000000 in
theorem c_X6_takeSeries (l : Launch) (G : xG) (z : Nat) (w : Nat) (wv : xV) (p1 : Int32) (p2 : Int32) (p3 : Int32) (wv' : xV) (hz_ws : z ≤ w) (hf : f_X6_takeSeries wv p1 p2 p3 = some wv') : xM l yX6_takeSeries wsX6_takeSeries 0 0 G z [.ref w, .int p1, .int p2, .int p3] (fun H => PX G w 1 wsE wv H) none (fun H H1 => PX G w 1 wsE wv' H1 ∧ XF (fun q => (w ≤ q ∧ q < w + 1)) H H1) := by
  refine xM.of (cc := cX6_takeSeries) (maxL := 4) (ret := none) (by decide +kernel) rfl (Nat.le_of_ble_eq_true rfl) ?_
  intro p e s m args below meth c ls Q hQ S hr hlocks hK hP hl
  obtain ⟨hx, hb, hml, hown, hts⟩ := id S
  have h_ws := hP
  have hL : ∀ q ∈ ([] : List Loc), z ≤ q.base := fun q h => absurd h List.not_mem_nil
  have hF : XF (fun q => (w ≤ q ∧ q < w + 1)) s.heap s.heap := XF.rf
  have hl : lv_has ls 4 [(0, .ref w), (1, .int p1), (2, .int p2), (3, .int p3)] := hl
  have in6 : ∀ w ∈ u_ws RX6 TX6 7, w ∈ wsX6_takeSeries := fun _ h => List.mem_cons_of_mem _ (List.mem_append_right _ h)
  unfold f_X6_takeSeries at hf
  refine lv_aload_n hx hb dX6_takeSeries_0 rfl (lv_at hl 0 rfl) ?_
  refine lv_iload_n hx hb dX6_takeSeries_1 rfl (lv_at hl 1 rfl) ?_
  obtain ⟨wv_1, ewv_1, hf⟩ := xl_some hf
  refine x_put S hK h_ws hz_ws hL 0 (by decide) rfl rfl rfl in6 tyX6 tyX6_ok nmX6 4 (by decide) (xm 1 rfl) rfl (vp_nar_int _) rfl (Nat.le_of_ble_eq_true rfl) rfl ewv_1 dX6_takeSeries_2 (fun H1 locs hL h_ws hfr => ?_)
  have hF := hF.step hfr (fun q h => by (try dsimp only at h ⊢); omega)
  refine lv_aload_n hx hb dX6_takeSeries_5 rfl (lv_at hl 0 rfl) ?_
  refine lv_iload_n hx hb dX6_takeSeries_6 rfl (lv_at hl 2 rfl) ?_
  obtain ⟨wv_2, ewv_2, hf⟩ := xl_some hf
  refine x_put S hK h_ws hz_ws hL 0 (by decide) rfl rfl rfl in6 tyX6 tyX6_ok nmX6 5 (by decide) (xm 2 rfl) rfl (vp_nar_int _) rfl (Nat.le_of_ble_eq_true rfl) rfl ewv_2 dX6_takeSeries_7 (fun H1 locs hL h_ws hfr => ?_)
  have hF := hF.step hfr (fun q h => by (try dsimp only at h ⊢); omega)
  refine lv_aload_n hx hb dX6_takeSeries_10 rfl (lv_at hl 0 rfl) ?_
  refine lv_iload_n hx hb dX6_takeSeries_11 rfl (lv_at hl 3 rfl) ?_
  obtain ⟨wv_3, ewv_3, hf⟩ := xl_some hf
  refine x_put S hK h_ws hz_ws hL 0 (by decide) rfl rfl rfl in6 tyX6 tyX6_ok nmX6 6 (by decide) (xm 3 rfl) rfl (vp_nar_int _) rfl (Nat.le_of_ble_eq_true rfl) rfl ewv_3 dX6_takeSeries_12 (fun H1 locs hL h_ws hfr => ?_)
  have hF := hF.step hfr (fun q h => by (try dsimp only at h ⊢); omega)
  have q0 := Option.some.inj hf
  subst wv'
  subst hQ
  refine x_vret (post := (fun H H1 => PX G w 1 wsE wv_3 H1 ∧ XF (fun q => (w ≤ q ∧ q < w + 1)) H H1)) S hr hlocks rfl ?_ hL dX6_takeSeries_15
  exact ⟨h_ws, hF⟩
set_option maxRecDepth 100000 in
set_option maxHeartbeats 4000000 in
theorem c_X7_addHirer (l : Launch) (G : xG) (z : Nat) (a : Nat) (dv : xV) (v : xV) (hv : xV) (kv : Nat → xV) (r0 : Int32) (v' : xV) (hv' : xV) (kv' : Nat → xV) (hz_bk : z ≤ (a + 1)) (hz_hs : z ≤ (a + 38)) (hf : f_X7_addHirer dv v hv kv = some (r0, v', hv', kv')) : xM l yX7_addHirer wsX7_addHirer 4 104 G z [.ref a] (fun H => PX G a 1 (hlE a) dv H ∧ PX G (a + 1) 37 (bkE G (a + 1)) v H ∧ PX G (a + 38) 2 (hsE G (a + 38)) hv H ∧ HU G (a + 38) kv H) (some (.int r0)) (fun H H1 => PX G (a + 1) 37 (bkE G (a + 1)) v' H1 ∧ PX G (a + 38) 2 (hsE G (a + 38)) hv' H1 ∧ HU G (a + 38) kv' H1 ∧ XF (fun q => ((a + 1) ≤ q ∧ q < (a + 1) + 37) ∨ ((a + 38) ≤ q ∧ q < (a + 38) + 2) ∨ ((a + 38) + 2 ≤ q ∧ q < (a + 38) + 150)) H H1) := by
  refine xM.of (cc := cX7_addHirer) (maxL := 1) (ret := (some .int)) (by decide +kernel) rfl (Nat.le_of_ble_eq_true rfl) ?_
  intro p e s m args below meth c ls Q hQ S hr hlocks hK hP hl
  obtain ⟨hx, hb, hml, hown, hts⟩ := id S
  obtain ⟨h_hl, h_bk, h_hs, h_hu⟩ := hP
  have hL : ∀ q ∈ ([] : List Loc), z ≤ q.base := fun q h => absurd h List.not_mem_nil
  have hF : XF (fun q => ((a + 1) ≤ q ∧ q < (a + 1) + 37) ∨ ((a + 38) ≤ q ∧ q < (a + 38) + 2) ∨ ((a + 38) + 2 ≤ q ∧ q < (a + 38) + 150)) s.heap s.heap := XF.rf
  have hl : lv_has ls 1 [(0, .ref a)] := hl
  have in0 : ∀ w ∈ u_ws RX0 TX0 9, w ∈ wsX7_addHirer := fun _ h => List.mem_cons_of_mem _ (List.mem_append_left _ (List.mem_append_left _ (List.mem_append_left _ (List.mem_append_right _ h))))
  have in7 : ∀ w ∈ u_ws RX7 TX7 6, w ∈ wsX7_addHirer := fun _ h => List.mem_cons_of_mem _ (List.mem_append_left _ (List.mem_append_left _ (List.mem_append_left _ (List.mem_append_left _ (List.mem_append_right _ h)))))
  unfold f_X7_addHirer at hf
  refine lv_aload_n hx hb dX7_addHirer_0 rfl (lv_at hl 0 rfl) ?_
  refine x_get S hK h_hl 0 (by decide) rfl rfl rfl in7 0 (by decide) (xm 1 rfl) (x := .ref (a + 1)) rfl dX7_addHirer_1 ?_
  refine x_get S hK h_bk 0 (by decide) rfl rfl rfl in0 1 (by decide) (xm 2 rfl) (x := .int (v 0 1)) rfl dX7_addHirer_4 ?_
  refine lv_bipush (v := 10) hx hb dX7_addHirer_7 (by decide) ?_
  refine lv_icmp_lt (tgt := 15) hx hb dX7_addHirer_9 (by decide) (fun c_1 => ?_) (fun c_1 => ?_)
  · have hf := (if_pos c_1).symm.trans hf
    refine lv_aload_n hx hb dX7_addHirer_15 rfl (lv_at hl 0 rfl) ?_
    refine x_get S hK h_hl 0 (by decide) rfl rfl rfl in7 1 (by decide) (xm 4 rfl) (x := .ref (a + 38)) rfl dX7_addHirer_16 ?_
    refine lv_aload_n hx hb dX7_addHirer_19 rfl (lv_at hl 0 rfl) ?_
    refine x_get S hK h_hl 0 (by decide) rfl rfl rfl in7 0 (by decide) (xm 1 rfl) (x := .ref (a + 1)) rfl dX7_addHirer_20 ?_
    obtain ⟨hv_2, kv_3, e_4, hf⟩ := xb2_some hf
    refine x_callVv (As := [.ref (a + 1)]) (rest := []) S hK (c_X2_save l G z (a + 38) (a + 1) hv kv v hv_2 kv_3 (by omega) (by omega) (by omega) e_4) gX7_addHirer_X2_save rfl 1 (by decide +kernel) rfl ⟨Nat.le_of_ble_eq_true rfl, Nat.le_of_ble_eq_true rfl⟩ h_hs 0 (by decide) rfl rfl rfl ⟨h_hs, h_hu, h_bk⟩ hl.1 rfl (Nat.le_of_ble_eq_true rfl) dX7_addHirer_23 hL ⟨Nat.zero_le _, Nat.zero_le _⟩ (fun H1 locs hL hpost => ?_)
    obtain ⟨n_hs, n_hu, hfr⟩ := hpost
    have h_hs := n_hs
    have h_hu := n_hu
    have h_hl := h_hl.kept hfr (fun q h1 h2 h3 => by (try dsimp only at h3); omega)
    have h_bk := h_bk.kept hfr (fun q h1 h2 h3 => by (try dsimp only at h3); omega)
    have hF := hF.step hfr (fun q h => by (try dsimp only at h ⊢); omega)
    refine lv_aload_n hx hb dX7_addHirer_26 rfl (lv_at hl 0 rfl) ?_
    refine x_get S hK h_hl 0 (by decide) rfl rfl rfl in7 0 (by decide) (xm 1 rfl) (x := .ref (a + 1)) rfl dX7_addHirer_27 ?_
    refine lv_dup hx hb dX7_addHirer_30 rfl ?_
    refine x_get S hK h_bk 0 (by decide) rfl rfl rfl in0 1 (by decide) (xm 2 rfl) (x := .int (v 0 1)) rfl dX7_addHirer_31 ?_
    refine lv_iconst (v := 1) hx hb dX7_addHirer_34 (by decide) ?_
    refine lv_iadd hx hb dX7_addHirer_35 ?_
    obtain ⟨v_5, ev_5, hf⟩ := xl_some hf
    refine x_put S hK h_bk hz_bk hL 0 (by decide) rfl rfl rfl in0 tyX0 tyX0_ok nmX0 1 (by decide) (xm 2 rfl) rfl (vp_nar_int _) rfl (Nat.le_of_ble_eq_true rfl) rfl ev_5 dX7_addHirer_36 (fun H1 locs hL h_bk hfr => ?_)
    have h_hl := h_hl.kept hfr (fun q h1 h2 h3 => by (try dsimp only at h3); omega)
    have h_hs := h_hs.kept hfr (fun q h1 h2 h3 => by (try dsimp only at h3); omega)
    have h_hu := h_hu.kept hfr (fun q h1 h2 h3 => by (try dsimp only at h3); omega)
    have hF := hF.step hfr (fun q h => by (try dsimp only at h ⊢); omega)
    refine lv_aload_n hx hb dX7_addHirer_39 rfl (lv_at hl 0 rfl) ?_
    refine x_get S hK h_hl 0 (by decide) rfl rfl rfl in7 0 (by decide) (xm 1 rfl) (x := .ref (a + 1)) rfl dX7_addHirer_40 ?_
    refine x_get S hK h_bk 0 (by decide) rfl rfl rfl in0 1 (by decide) (xm 2 rfl) (x := .int (v_5 0 1)) rfl dX7_addHirer_43 ?_
    refine lv_iconst (v := 1) hx hb dX7_addHirer_46 (by decide) ?_
    refine lv_isub hx hb dX7_addHirer_47 ?_
    obtain ⟨q0, qq0⟩ := Prod.mk.inj (Option.some.inj hf)
    obtain ⟨q1, qq1⟩ := Prod.mk.inj (qq0)
    obtain ⟨q2, qq2⟩ := Prod.mk.inj (qq1)
    have q3 := qq2
    subst r0
    subst v'
    subst hv'
    subst kv'
    subst hQ
    refine x_iret (post := (fun H H1 => PX G (a + 1) 37 (bkE G (a + 1)) v_5 H1 ∧ PX G (a + 38) 2 (hsE G (a + 38)) hv_2 H1 ∧ HU G (a + 38) kv_3 H1 ∧ XF (fun q => ((a + 1) ≤ q ∧ q < (a + 1) + 37) ∨ ((a + 38) ≤ q ∧ q < (a + 38) + 2) ∨ ((a + 38) + 2 ≤ q ∧ q < (a + 38) + 150)) H H1)) S hr hlocks rfl ?_ hL dX7_addHirer_48
    exact ⟨h_bk, h_hs, h_hu, hF⟩
  · have hf := (if_neg c_1).symm.trans hf
    refine lv_ldc (v := (-2000000003)) hx hb hown (hts _ (xm 3 rfl)) dX7_addHirer_12 ?_
    obtain ⟨q0, qq0⟩ := Prod.mk.inj (Option.some.inj hf)
    obtain ⟨q1, qq1⟩ := Prod.mk.inj (qq0)
    obtain ⟨q2, qq2⟩ := Prod.mk.inj (qq1)
    have q3 := qq2
    subst r0
    subst v'
    subst hv'
    subst kv'
    subst hQ
    refine x_iret (post := (fun H H1 => PX G (a + 1) 37 (bkE G (a + 1)) v H1 ∧ PX G (a + 38) 2 (hsE G (a + 38)) hv H1 ∧ HU G (a + 38) kv H1 ∧ XF (fun q => ((a + 1) ≤ q ∧ q < (a + 1) + 37) ∨ ((a + 38) ≤ q ∧ q < (a + 38) + 2) ∨ ((a + 38) + 2 ≤ q ∧ q < (a + 38) + 150)) H H1)) S hr hlocks rfl ?_ hL dX7_addHirer_14
    exact ⟨h_bk, h_hs, h_hu, hF⟩
set_option maxRecDepth 100000 in
set_option maxHeartbeats 4000000 in
theorem c_X7_areRooms (l : Launch) (G : xG) (z : Nat) (p1 : Int32) (r0 : Int32)  (hf : f_X7_areRooms p1 = some r0) : xM l yX7_areRooms wsX7_areRooms 0 0 G z [.int p1] (fun H => H = H) (some (.int r0)) (fun H H1 => H1 = H) := by
  refine xM.of (cc := cX7_areRooms) (maxL := 1) (ret := (some .boolean)) (by decide +kernel) rfl (Nat.le_of_ble_eq_true rfl) ?_
  intro p e s m args below meth c ls Q hQ S hr hlocks hK hP hl
  obtain ⟨hx, hb, hml, hown, hts⟩ := id S
  have hL : ∀ q ∈ ([] : List Loc), z ≤ q.base := fun q h => absurd h List.not_mem_nil
  have hl : lv_has ls 1 [(0, .int p1)] := hl
  unfold f_X7_areRooms at hf
  refine lv_iload_n hx hb dX7_areRooms_0 rfl (lv_at hl 0 rfl) ?_
  refine lv_iconst (v := 1) hx hb dX7_areRooms_1 (by decide) ?_
  refine lv_icmp_lt (tgt := 15) hx hb dX7_areRooms_2 (by decide) (fun c_1 => ?_) (fun c_1 => ?_)
  · have hf := (if_pos c_1).symm.trans hf
    refine lv_iconst (v := 0) hx hb dX7_areRooms_15 (by decide) ?_
    have q0 := Option.some.inj hf
    subst r0
    subst hQ
    refine x_zret (post := (fun H H1 => H1 = H)) S hr hlocks (by decide) rfl ?_ hL dX7_areRooms_16
    exact rfl
  · have hf := (if_neg c_1).symm.trans hf
    refine lv_iload_n hx hb dX7_areRooms_5 rfl (lv_at hl 0 rfl) ?_
    refine lv_bipush (v := 7) hx hb dX7_areRooms_6 (by decide) ?_
    refine lv_icmp_gt (tgt := 15) hx hb dX7_areRooms_8 (by decide) (fun c_2 => ?_) (fun c_2 => ?_)
    · have hf := (if_pos c_2).symm.trans hf
      refine lv_iconst (v := 0) hx hb dX7_areRooms_15 (by decide) ?_
      have q0 := Option.some.inj hf
      subst r0
      subst hQ
      refine x_zret (post := (fun H H1 => H1 = H)) S hr hlocks (by decide) rfl ?_ hL dX7_areRooms_16
      exact rfl
    · have hf := (if_neg c_2).symm.trans hf
      refine lv_iconst (v := 1) hx hb dX7_areRooms_11 (by decide) ?_
      refine lv_goto (tgt := 16) hx hb dX7_areRooms_12 (by decide) ?_
      have q0 := Option.some.inj hf
      subst r0
      subst hQ
      refine x_zret (post := (fun H H1 => H1 = H)) S hr hlocks (by decide) rfl ?_ hL dX7_areRooms_16
      exact rfl
set_option maxRecDepth 100000 in
set_option maxHeartbeats 4000000 in
theorem c_X7_bringBack (l : Launch) (G : xG) (z : Nat) (a : Nat) (dv : xV) (v : xV) (hv : xV) (kv : Nat → xV) (p1 : Int32) (r0 : Int32) (v' : xV) (hv' : xV) (kv' : Nat → xV) (hz_bk : z ≤ (a + 1)) (hz_hs : z ≤ (a + 38)) (hf : f_X7_bringBack dv v hv kv p1 = some (r0, v', hv', kv')) : xM l yX7_bringBack wsX7_bringBack 4 104 G z [.ref a, .int p1] (fun H => PX G a 1 (hlE a) dv H ∧ PX G (a + 1) 37 (bkE G (a + 1)) v H ∧ PX G (a + 38) 2 (hsE G (a + 38)) hv H ∧ HU G (a + 38) kv H) (some (.int r0)) (fun H H1 => PX G (a + 1) 37 (bkE G (a + 1)) v' H1 ∧ PX G (a + 38) 2 (hsE G (a + 38)) hv' H1 ∧ HU G (a + 38) kv' H1 ∧ XF (fun q => ((a + 1) ≤ q ∧ q < (a + 1) + 37) ∨ ((a + 38) ≤ q ∧ q < (a + 38) + 2) ∨ ((a + 38) + 2 ≤ q ∧ q < (a + 38) + 150)) H H1) := by
  refine xM.of (cc := cX7_bringBack) (maxL := 4) (ret := (some .int)) (by decide +kernel) rfl (Nat.le_of_ble_eq_true rfl) ?_
  intro p e s m args below meth c ls Q hQ S hr hlocks hK hP hl
  obtain ⟨hx, hb, hml, hown, hts⟩ := id S
  obtain ⟨h_hl, h_bk, h_hs, h_hu⟩ := hP
  have hL : ∀ q ∈ ([] : List Loc), z ≤ q.base := fun q h => absurd h List.not_mem_nil
  have hF : XF (fun q => ((a + 1) ≤ q ∧ q < (a + 1) + 37) ∨ ((a + 38) ≤ q ∧ q < (a + 38) + 2) ∨ ((a + 38) + 2 ≤ q ∧ q < (a + 38) + 150)) s.heap s.heap := XF.rf
  have hl : lv_has ls 4 [(0, .ref a), (1, .int p1)] := hl
  have in0 : ∀ w ∈ u_ws RX0 TX0 9, w ∈ wsX7_bringBack := fun _ h => List.mem_cons_of_mem _ (List.mem_append_left _ (List.mem_append_left _ (List.mem_append_right _ h)))
  have in3 : ∀ w ∈ u_ws RX3 TX3 3, w ∈ wsX7_bringBack := fun _ h => List.mem_cons_of_mem _ (List.mem_append_left _ (List.mem_append_left _ (List.mem_append_left _ (List.mem_append_right _ h))))
  have in7 : ∀ w ∈ u_ws RX7 TX7 6, w ∈ wsX7_bringBack := fun _ h => List.mem_cons_of_mem _ (List.mem_append_left _ (List.mem_append_left _ (List.mem_append_left _ (List.mem_append_left _ (List.mem_append_right _ h)))))
  unfold f_X7_bringBack at hf
  refine lv_aload_n hx hb dX7_bringBack_0 rfl (lv_at hl 0 rfl) ?_
  refine x_get S hK h_hl 0 (by decide) rfl rfl rfl in7 0 (by decide) (xm 1 rfl) (x := .ref (a + 1)) rfl dX7_bringBack_1 ?_
  refine lv_iload_n hx hb dX7_bringBack_4 rfl (lv_at hl 1 rfl) ?_
  obtain ⟨o_1, e_2, hf⟩ := xb_some hf
  refine x_callVi (As := [.int p1]) (rest := []) S hK (c_X0_keyAt l G z (a + 1) v p1 o_1 e_2) gX7_bringBack_X0_keyAt rfl 1 (by decide +kernel) rfl ⟨Nat.le_of_ble_eq_true rfl, Nat.le_of_ble_eq_true rfl⟩ h_bk 0 (by decide) rfl rfl rfl h_bk hl.1 rfl (Nat.le_of_ble_eq_true rfl) dX7_bringBack_5 hL ⟨Nat.zero_le _, Nat.zero_le _⟩ (fun H1 locs hL hpost => ?_)
  subst hpost
  obtain _ | i_3 := o_1
  · have hf := (xo_n _ _).symm.trans hf
    show W _ _ _ _ _ _ _ _ _ _ _ _ _ _ _ (F0 _ _ _ (.null :: _))
    refine lv_astore_nN (lv' := [(2, .null), (0, .ref a), (1, .int p1)]) hx hb dX7_bringBack_8 rfl hl (by decide) rfl (fun ls hl => ?_)
    refine lv_aload_nN hx hb dX7_bringBack_9 rfl (lv_at hl 0 rfl) ?_
    refine lv_ifnonnullN hx hb dX7_bringBack_10 ?_
    refine lv_ldc (v := (-2000000001)) hx hb hown (hts _ (xm 2 rfl)) dX7_bringBack_13 ?_
    obtain ⟨q0, qq0⟩ := Prod.mk.inj (Option.some.inj hf)
    obtain ⟨q1, qq1⟩ := Prod.mk.inj (qq0)
    obtain ⟨q2, qq2⟩ := Prod.mk.inj (qq1)
    have q3 := qq2
    subst r0
    subst v'
    subst hv'
    subst kv'
    subst hQ
    refine x_iret (post := (fun H H1 => PX G (a + 1) 37 (bkE G (a + 1)) v H1 ∧ PX G (a + 38) 2 (hsE G (a + 38)) hv H1 ∧ HU G (a + 38) kv H1 ∧ XF (fun q => ((a + 1) ≤ q ∧ q < (a + 1) + 37) ∨ ((a + 38) ≤ q ∧ q < (a + 38) + 2) ∨ ((a + 38) + 2 ≤ q ∧ q < (a + 38) + 150)) H H1)) S hr hlocks rfl ?_ hL dX7_bringBack_15
    exact ⟨h_bk, h_hs, h_hu, hF⟩
  · have hf := (xo_s _ _ _).symm.trans hf
    obtain ⟨hi_i_3, hf⟩ := xg_some hf
    show W _ _ _ _ _ _ _ _ _ _ _ _ _ _ _ (F0 _ _ _ (.ref ((a + 1) + (31 + i_3)) :: _))
    refine lv_astore_n (lv' := [(2, .ref ((a + 1) + (31 + i_3))), (0, .ref a), (1, .int p1)]) hx hb dX7_bringBack_8 rfl hl (by decide) rfl (fun ls hl => ?_)
    refine lv_aload_n hx hb dX7_bringBack_9 rfl (lv_at hl 0 rfl) ?_
    refine lv_ifnonnull (tgt := 16) hx hb dX7_bringBack_10 (by decide) ?_
    refine lv_aload_n hx hb dX7_bringBack_16 rfl (lv_at hl 0 rfl) ?_
    refine x_get S hK h_bk (31 + i_3) (by omega) rfl (bkE_key G (a + 1) i_3 _) rfl in3 1 (by decide) (xm 3 rfl) (x := .int (v (31 + i_3) 1)) rfl dX7_bringBack_17 ?_
    refine lv_iconst (v := (-1)) hx hb dX7_bringBack_20 (by decide) ?_
    refine lv_icmp_ne (tgt := 27) hx hb dX7_bringBack_21 (by decide) (fun c_4 => ?_) (fun c_4 => ?_)
    · have hf := (if_neg c_4).symm.trans hf
      refine lv_aload_n hx hb dX7_bringBack_27 rfl (lv_at hl 1 rfl) ?_
      refine x_get S hK h_hl 0 (by decide) rfl rfl rfl in7 1 (by decide) (xm 5 rfl) (x := .ref (a + 38)) rfl dX7_bringBack_28 ?_
      refine lv_aload_n hx hb dX7_bringBack_31 rfl (lv_at hl 1 rfl) ?_
      refine x_get S hK h_hl 0 (by decide) rfl rfl rfl in7 0 (by decide) (xm 1 rfl) (x := .ref (a + 1)) rfl dX7_bringBack_32 ?_
      obtain ⟨hv_5, kv_6, e_7, hf⟩ := xb2_some hf
      refine x_callVv (As := [.ref (a + 1)]) (rest := []) S hK (c_X2_save l G z (a + 38) (a + 1) hv kv v hv_5 kv_6 (by omega) (by omega) (by omega) e_7) gX7_bringBack_X2_save rfl 1 (by decide +kernel) rfl ⟨Nat.le_of_ble_eq_true rfl, Nat.le_of_ble_eq_true rfl⟩ h_hs 0 (by decide) rfl rfl rfl ⟨h_hs, h_hu, h_bk⟩ hl.1 rfl (Nat.le_of_ble_eq_true rfl) dX7_bringBack_35 hL ⟨Nat.zero_le _, Nat.zero_le _⟩ (fun H1 locs hL hpost => ?_)
      obtain ⟨n_hs, n_hu, hfr⟩ := hpost
      have h_hs := n_hs
      have h_hu := n_hu
      have h_hl := h_hl.kept hfr (fun q h1 h2 h3 => by (try dsimp only at h3); omega)
      have h_bk := h_bk.kept hfr (fun q h1 h2 h3 => by (try dsimp only at h3); omega)
      have hF := hF.step hfr (fun q h => by (try dsimp only at h ⊢); omega)
      refine lv_aload_n hx hb dX7_bringBack_38 rfl (lv_at hl 0 rfl) ?_
      refine lv_aload_n hx hb dX7_bringBack_39 rfl (lv_at hl 1 rfl) ?_
      refine x_get S hK h_hl 0 (by decide) rfl rfl rfl in7 0 (by decide) (xm 1 rfl) (x := .ref (a + 1)) rfl dX7_bringBack_40 ?_
      refine x_get S hK h_bk 0 (by decide) rfl rfl rfl in0 0 (by decide) (xm 6 rfl) (x := .int (v 0 0)) rfl dX7_bringBack_43 ?_
      obtain ⟨r_8, e_9, hf⟩ := xb_some hf
      refine x_callVi (As := [.int (v 0 0)]) (rest := []) S hK (c_X3_daysLate l G z (a + 1) v i_3 (v 0 0) r_8 hi_i_3 e_9) gX7_bringBack_X3_daysLate rfl 1 (by decide +kernel) rfl ⟨Nat.le_of_ble_eq_true rfl, Nat.le_of_ble_eq_true rfl⟩ h_bk (31 + i_3) (by omega) rfl (bkE_key G (a + 1) i_3 _) rfl h_bk hl.1 rfl (Nat.le_of_ble_eq_true rfl) dX7_bringBack_46 hL ⟨Nat.zero_le _, Nat.zero_le _⟩ (fun H1 locs hL hpost => ?_)
      subst hpost
      refine lv_istore_n (lv' := [(3, .int r_8), (2, .ref ((a + 1) + (31 + i_3))), (0, .ref a), (1, .int p1)]) hx hb dX7_bringBack_49 rfl hl (by decide) rfl (fun ls hl => ?_)
      refine lv_aload_n hx hb dX7_bringBack_50 rfl (lv_at hl 1 rfl) ?_
      refine lv_iconst (v := (-1)) hx hb dX7_bringBack_51 (by decide) ?_
      obtain ⟨v_10, ev_10, hf⟩ := xl_some hf
      refine x_put S hK h_bk hz_bk hL (31 + i_3) (by omega) rfl (bkE_key G (a + 1) i_3 _) rfl in3 tyX3 tyX3_ok nmX3 1 (by decide) (xm 3 rfl) rfl (vp_nar_int _) rfl (Nat.le_of_ble_eq_true rfl) (bkE_key G (a + 1) i_3 _) ev_10 dX7_bringBack_52 (fun H1 locs hL h_bk hfr => ?_)
      have h_hl := h_hl.kept hfr (fun q h1 h2 h3 => by (try dsimp only at h3); omega)
      have h_hs := h_hs.kept hfr (fun q h1 h2 h3 => by (try dsimp only at h3); omega)
      have h_hu := h_hu.kept hfr (fun q h1 h2 h3 => by (try dsimp only at h3); omega)
      have hF := hF.step hfr (fun q h => by (try dsimp only at h ⊢); omega)
      refine lv_iload_n hx hb dX7_bringBack_55 rfl (lv_at hl 0 rfl) ?_
      obtain ⟨q0, qq0⟩ := Prod.mk.inj (Option.some.inj hf)
      obtain ⟨q1, qq1⟩ := Prod.mk.inj (qq0)
      obtain ⟨q2, qq2⟩ := Prod.mk.inj (qq1)
      have q3 := qq2
      subst r0
      subst v'
      subst hv'
      subst kv'
      subst hQ
      refine x_iret (post := (fun H H1 => PX G (a + 1) 37 (bkE G (a + 1)) v_10 H1 ∧ PX G (a + 38) 2 (hsE G (a + 38)) hv_5 H1 ∧ HU G (a + 38) kv_6 H1 ∧ XF (fun q => ((a + 1) ≤ q ∧ q < (a + 1) + 37) ∨ ((a + 38) ≤ q ∧ q < (a + 38) + 2) ∨ ((a + 38) + 2 ≤ q ∧ q < (a + 38) + 150)) H H1)) S hr hlocks rfl ?_ hL dX7_bringBack_56
      exact ⟨h_bk, h_hs, h_hu, hF⟩
    · have hf := (if_pos c_4).symm.trans hf
      refine lv_ldc (v := (-2000000002)) hx hb hown (hts _ (xm 4 rfl)) dX7_bringBack_24 ?_
      obtain ⟨q0, qq0⟩ := Prod.mk.inj (Option.some.inj hf)
      obtain ⟨q1, qq1⟩ := Prod.mk.inj (qq0)
      obtain ⟨q2, qq2⟩ := Prod.mk.inj (qq1)
      have q3 := qq2
      subst r0
      subst v'
      subst hv'
      subst kv'
      subst hQ
      refine x_iret (post := (fun H H1 => PX G (a + 1) 37 (bkE G (a + 1)) v H1 ∧ PX G (a + 38) 2 (hsE G (a + 38)) hv H1 ∧ HU G (a + 38) kv H1 ∧ XF (fun q => ((a + 1) ≤ q ∧ q < (a + 1) + 37) ∨ ((a + 38) ≤ q ∧ q < (a + 38) + 2) ∨ ((a + 38) + 2 ≤ q ∧ q < (a + 38) + 150)) H H1)) S hr hlocks rfl ?_ hL dX7_bringBack_26
      exact ⟨h_bk, h_hs, h_hu, hF⟩
set_option maxRecDepth 100000 in
set_option maxHeartbeats 4000000 in
theorem c_X7_cancel (l : Launch) (G : xG) (z : Nat) (a : Nat) (dv : xV) (v : xV) (hv : xV) (kv : Nat → xV) (p1 : Int32) (r0 : Int32) (v' : xV) (hv' : xV) (kv' : Nat → xV) (hz_bk : z ≤ (a + 1)) (hz_hs : z ≤ (a + 38)) (hf : f_X7_cancel dv v hv kv p1 = some (r0, v', hv', kv')) : xM l yX7_cancel wsX7_cancel 4 104 G z [.ref a, .int p1] (fun H => PX G a 1 (hlE a) dv H ∧ PX G (a + 1) 37 (bkE G (a + 1)) v H ∧ PX G (a + 38) 2 (hsE G (a + 38)) hv H ∧ HU G (a + 38) kv H) (some (.int r0)) (fun H H1 => PX G (a + 1) 37 (bkE G (a + 1)) v' H1 ∧ PX G (a + 38) 2 (hsE G (a + 38)) hv' H1 ∧ HU G (a + 38) kv' H1 ∧ XF (fun q => ((a + 1) ≤ q ∧ q < (a + 1) + 37) ∨ ((a + 38) ≤ q ∧ q < (a + 38) + 2) ∨ ((a + 38) + 2 ≤ q ∧ q < (a + 38) + 150)) H H1) := by
  refine xM.of (cc := cX7_cancel) (maxL := 5) (ret := (some .int)) (by decide +kernel) rfl (Nat.le_of_ble_eq_true rfl) ?_
  intro p e s m args below meth c ls Q hQ S hr hlocks hK hP hl
  obtain ⟨hx, hb, hml, hown, hts⟩ := id S
  obtain ⟨h_hl, h_bk, h_hs, h_hu⟩ := hP
  have hL : ∀ q ∈ ([] : List Loc), z ≤ q.base := fun q h => absurd h List.not_mem_nil
  have hF : XF (fun q => ((a + 1) ≤ q ∧ q < (a + 1) + 37) ∨ ((a + 38) ≤ q ∧ q < (a + 38) + 2) ∨ ((a + 38) + 2 ≤ q ∧ q < (a + 38) + 150)) s.heap s.heap := XF.rf
  have hl : lv_has ls 5 [(0, .ref a), (1, .int p1)] := hl
  have in0 : ∀ w ∈ u_ws RX0 TX0 9, w ∈ wsX7_cancel := fun _ h => List.mem_cons_of_mem _ (List.mem_append_left _ (List.mem_append_left _ (List.mem_append_left _ (List.mem_append_right _ h))))
  have in1 : ∀ w ∈ u_ws RX1 TX1 15, w ∈ wsX7_cancel := fun _ h => List.mem_cons_of_mem _ (List.mem_append_left _ (List.mem_append_left _ (List.mem_append_right _ h)))
  have in7 : ∀ w ∈ u_ws RX7 TX7 6, w ∈ wsX7_cancel := fun _ h => List.mem_cons_of_mem _ (List.mem_append_left _ (List.mem_append_left _ (List.mem_append_left _ (List.mem_append_left _ (List.mem_append_right _ h)))))
  unfold f_X7_cancel at hf
  refine lv_aload_n hx hb dX7_cancel_0 rfl (lv_at hl 0 rfl) ?_
  refine x_get S hK h_hl 0 (by decide) rfl rfl rfl in7 0 (by decide) (xm 1 rfl) (x := .ref (a + 1)) rfl dX7_cancel_1 ?_
  refine lv_iload_n hx hb dX7_cancel_4 rfl (lv_at hl 1 rfl) ?_
  obtain ⟨o_1, e_2, hf⟩ := xb_some hf
  refine x_callVi (As := [.int p1]) (rest := []) S hK (c_X0_hireOfSession l G z (a + 1) v p1 o_1 e_2) gX7_cancel_X0_hireOfSession rfl 1 (by decide +kernel) rfl ⟨Nat.le_of_ble_eq_true rfl, Nat.le_of_ble_eq_true rfl⟩ h_bk 0 (by decide) rfl rfl rfl h_bk hl.1 rfl (Nat.le_of_ble_eq_true rfl) dX7_cancel_5 hL ⟨Nat.zero_le _, Nat.zero_le _⟩ (fun H1 locs hL hpost => ?_)
  subst hpost
  obtain _ | i_3 := o_1
  · have hf := (xo_n _ _).symm.trans hf
    show W _ _ _ _ _ _ _ _ _ _ _ _ _ _ _ (F0 _ _ _ (.null :: _))
    refine lv_astore_nN (lv' := [(2, .null), (0, .ref a), (1, .int p1)]) hx hb dX7_cancel_8 rfl hl (by decide) rfl (fun ls hl => ?_)
    refine lv_aload_nN hx hb dX7_cancel_9 rfl (lv_at hl 0 rfl) ?_
    refine lv_ifnonnullN hx hb dX7_cancel_10 ?_
    refine lv_ldc (v := (-2000000001)) hx hb hown (hts _ (xm 2 rfl)) dX7_cancel_13 ?_
    obtain ⟨q0, qq0⟩ := Prod.mk.inj (Option.some.inj hf)
    obtain ⟨q1, qq1⟩ := Prod.mk.inj (qq0)
    obtain ⟨q2, qq2⟩ := Prod.mk.inj (qq1)
    have q3 := qq2
    subst r0
    subst v'
    subst hv'
    subst kv'
    subst hQ
    refine x_iret (post := (fun H H1 => PX G (a + 1) 37 (bkE G (a + 1)) v H1 ∧ PX G (a + 38) 2 (hsE G (a + 38)) hv H1 ∧ HU G (a + 38) kv H1 ∧ XF (fun q => ((a + 1) ≤ q ∧ q < (a + 1) + 37) ∨ ((a + 38) ≤ q ∧ q < (a + 38) + 2) ∨ ((a + 38) + 2 ≤ q ∧ q < (a + 38) + 150)) H H1)) S hr hlocks rfl ?_ hL dX7_cancel_15
    exact ⟨h_bk, h_hs, h_hu, hF⟩
  · have hf := (xo_s _ _ _).symm.trans hf
    obtain ⟨hi_i_3, hf⟩ := xg_some hf
    show W _ _ _ _ _ _ _ _ _ _ _ _ _ _ _ (F0 _ _ _ (.ref ((a + 1) + (6 + 2 * i_3)) :: _))
    refine lv_astore_n (lv' := [(2, .ref ((a + 1) + (6 + 2 * i_3))), (0, .ref a), (1, .int p1)]) hx hb dX7_cancel_8 rfl hl (by decide) rfl (fun ls hl => ?_)
    refine lv_aload_n hx hb dX7_cancel_9 rfl (lv_at hl 0 rfl) ?_
    refine lv_ifnonnull (tgt := 16) hx hb dX7_cancel_10 (by decide) ?_
    refine lv_iload_n hx hb dX7_cancel_16 rfl (lv_at hl 2 rfl) ?_
    refine lv_bipush (v := 20) hx hb dX7_cancel_17 (by decide) ?_
    refine lv_irem hx hb dX7_cancel_19 (by decide) ?_
    obtain ⟨x_4, ex_4, hf⟩ := xl_some hf
    refine x_top ex_4 ?_
    refine lv_istore_n (lv' := [(3, .int x_4), (2, .ref ((a + 1) + (6 + 2 * i_3))), (0, .ref a), (1, .int p1)]) hx hb dX7_cancel_20 rfl hl (by decide) rfl (fun ls hl => ?_)
    refine lv_aload_n hx hb dX7_cancel_21 rfl (lv_at hl 1 rfl) ?_
    refine lv_iload_n hx hb dX7_cancel_22 rfl (lv_at hl 0 rfl) ?_
    obtain ⟨r_5, e_6, hf⟩ := xb_some hf
    refine x_callVi (As := [.int x_4]) (rest := []) S hK (c_X1_stateOf l G z (a + 1) v i_3 x_4 r_5 hi_i_3 e_6) gX7_cancel_X1_stateOf rfl 1 (by decide +kernel) rfl ⟨Nat.le_of_ble_eq_true rfl, Nat.le_of_ble_eq_true rfl⟩ h_bk (6 + 2 * i_3) (by omega) rfl (bkE_hire G (a + 1) i_3 hi_i_3 _) rfl h_bk hl.1 rfl (Nat.le_of_ble_eq_true rfl) dX7_cancel_23 hL ⟨Nat.zero_le _, Nat.zero_le _⟩ (fun H1 locs hL hpost => ?_)
    subst hpost
    refine lv_if_eq (tgt := 32) hx hb dX7_cancel_26 (by decide) (fun c_7 => ?_) (fun c_7 => ?_)
    · have hf := (if_pos c_7).symm.trans hf
      refine lv_aload_n hx hb dX7_cancel_32 rfl (lv_at hl 2 rfl) ?_
      refine x_get S hK h_hl 0 (by decide) rfl rfl rfl in7 1 (by decide) (xm 4 rfl) (x := .ref (a + 38)) rfl dX7_cancel_33 ?_
      refine lv_aload_n hx hb dX7_cancel_36 rfl (lv_at hl 2 rfl) ?_
      refine x_get S hK h_hl 0 (by decide) rfl rfl rfl in7 0 (by decide) (xm 1 rfl) (x := .ref (a + 1)) rfl dX7_cancel_37 ?_
      obtain ⟨hv_8, kv_9, e_10, hf⟩ := xb2_some hf
      refine x_callVv (As := [.ref (a + 1)]) (rest := []) S hK (c_X2_save l G z (a + 38) (a + 1) hv kv v hv_8 kv_9 (by omega) (by omega) (by omega) e_10) gX7_cancel_X2_save rfl 1 (by decide +kernel) rfl ⟨Nat.le_of_ble_eq_true rfl, Nat.le_of_ble_eq_true rfl⟩ h_hs 0 (by decide) rfl rfl rfl ⟨h_hs, h_hu, h_bk⟩ hl.1 rfl (Nat.le_of_ble_eq_true rfl) dX7_cancel_40 hL ⟨Nat.zero_le _, Nat.zero_le _⟩ (fun H1 locs hL hpost => ?_)
      obtain ⟨n_hs, n_hu, hfr⟩ := hpost
      have h_hs := n_hs
      have h_hu := n_hu
      have h_hl := h_hl.kept hfr (fun q h1 h2 h3 => by (try dsimp only at h3); omega)
      have h_bk := h_bk.kept hfr (fun q h1 h2 h3 => by (try dsimp only at h3); omega)
      have hF := hF.step hfr (fun q h => by (try dsimp only at h ⊢); omega)
      refine lv_aload_n hx hb dX7_cancel_43 rfl (lv_at hl 1 rfl) ?_
      refine lv_iload_n hx hb dX7_cancel_44 rfl (lv_at hl 0 rfl) ?_
      refine lv_aload_n hx hb dX7_cancel_45 rfl (lv_at hl 2 rfl) ?_
      refine x_get S hK h_hl 0 (by decide) rfl rfl rfl in7 0 (by decide) (xm 1 rfl) (x := .ref (a + 1)) rfl dX7_cancel_46 ?_
      refine x_get S hK h_bk 0 (by decide) rfl rfl rfl in0 0 (by decide) (xm 5 rfl) (x := .int (v 0 0)) rfl dX7_cancel_49 ?_
      obtain ⟨r_11, e_12, hf⟩ := xb_some hf
      refine x_callVi (As := [.int x_4, .int (v 0 0)]) (rest := []) S hK (c_X1_refundOf l G z (a + 1) v i_3 x_4 (v 0 0) r_11 hi_i_3 e_12) gX7_cancel_X1_refundOf rfl 2 (by decide +kernel) rfl ⟨Nat.le_of_ble_eq_true rfl, Nat.le_of_ble_eq_true rfl⟩ h_bk (6 + 2 * i_3) (by omega) rfl (bkE_hire G (a + 1) i_3 hi_i_3 _) rfl h_bk hl.1 rfl (Nat.le_of_ble_eq_true rfl) dX7_cancel_52 hL ⟨Nat.zero_le _, Nat.zero_le _⟩ (fun H1 locs hL hpost => ?_)
      subst hpost
      refine lv_istore (lv' := [(4, .int r_11), (3, .int x_4), (2, .ref ((a + 1) + (6 + 2 * i_3))), (0, .ref a), (1, .int p1)]) hx hb dX7_cancel_55 hl (by decide) rfl (fun ls hl => ?_)
      refine lv_aload_n hx hb dX7_cancel_57 rfl (lv_at hl 2 rfl) ?_
      refine lv_dup hx hb dX7_cancel_58 rfl ?_
      refine x_get S hK h_bk (6 + 2 * i_3) (by omega) rfl (bkE_hire G (a + 1) i_3 hi_i_3 _) rfl in1 10 (by decide) (xm 6 rfl) (x := .int (v (6 + 2 * i_3) 10)) rfl dX7_cancel_59 ?_
      refine lv_iconst (v := 1) hx hb dX7_cancel_62 (by decide) ?_
      refine lv_iload_n hx hb dX7_cancel_63 rfl (lv_at hl 1 rfl) ?_
      refine lv_ishl hx hb dX7_cancel_64 ?_
      refine lv_ior hx hb dX7_cancel_65 ?_
      obtain ⟨v_13, ev_13, hf⟩ := xl_some hf
      refine x_put S hK h_bk hz_bk hL (6 + 2 * i_3) (by omega) rfl (bkE_hire G (a + 1) i_3 hi_i_3 _) rfl in1 tyX1 tyX1_ok nmX1 10 (by decide) (xm 6 rfl) rfl (vp_nar_int _) rfl (Nat.le_of_ble_eq_true rfl) (bkE_hire G (a + 1) i_3 hi_i_3 _) ev_13 dX7_cancel_66 (fun H1 locs hL h_bk hfr => ?_)
      have h_hl := h_hl.kept hfr (fun q h1 h2 h3 => by (try dsimp only at h3); omega)
      have h_hs := h_hs.kept hfr (fun q h1 h2 h3 => by (try dsimp only at h3); omega)
      have h_hu := h_hu.kept hfr (fun q h1 h2 h3 => by (try dsimp only at h3); omega)
      have hF := hF.step hfr (fun q h => by (try dsimp only at h ⊢); omega)
      refine lv_aload_n hx hb dX7_cancel_69 rfl (lv_at hl 3 rfl) ?_
      refine x_get S hK h_hl 0 (by decide) rfl rfl rfl in7 0 (by decide) (xm 1 rfl) (x := .ref (a + 1)) rfl dX7_cancel_70 ?_
      refine lv_aload_n hx hb dX7_cancel_73 rfl (lv_at hl 2 rfl) ?_
      refine x_get S hK h_bk (6 + 2 * i_3) (by omega) rfl (bkE_hire G (a + 1) i_3 hi_i_3 _) rfl in1 1 (by decide) (xm 7 rfl) (x := .int (v_13 (6 + 2 * i_3) 1)) rfl dX7_cancel_74 ?_
      refine lv_iload hx hb dX7_cancel_77 (lv_at hl 0 rfl) ?_
      refine lv_iconst (v := 1) hx hb dX7_cancel_79 (by decide) ?_
      obtain ⟨v_14, e_15, hf⟩ := xb_some hf
      refine x_callVv (As := [.int (v_13 (6 + 2 * i_3) 1), .int r_11, .int 1]) (rest := []) S hK (c_X0_credit l G z (a + 1) v_13 (v_13 (6 + 2 * i_3) 1) r_11 1 v_14 (by omega) e_15) gX7_cancel_X0_credit rfl 3 (by decide +kernel) rfl ⟨Nat.le_of_ble_eq_true rfl, Nat.le_of_ble_eq_true rfl⟩ h_bk 0 (by decide) rfl rfl rfl h_bk hl.1 rfl (Nat.le_of_ble_eq_true rfl) dX7_cancel_80 hL ⟨Nat.zero_le _, Nat.zero_le _⟩ (fun H1 locs hL hpost => ?_)
      obtain ⟨n_bk, hfr⟩ := hpost
      have h_bk := n_bk
      have h_hl := h_hl.kept hfr (fun q h1 h2 h3 => by (try dsimp only at h3); omega)
      have h_hs := h_hs.kept hfr (fun q h1 h2 h3 => by (try dsimp only at h3); omega)
      have h_hu := h_hu.kept hfr (fun q h1 h2 h3 => by (try dsimp only at h3); omega)
      have hF := hF.step hfr (fun q h => by (try dsimp only at h ⊢); omega)
      refine lv_iload hx hb dX7_cancel_83 (lv_at hl 0 rfl) ?_
      obtain ⟨q0, qq0⟩ := Prod.mk.inj (Option.some.inj hf)
      obtain ⟨q1, qq1⟩ := Prod.mk.inj (qq0)
      obtain ⟨q2, qq2⟩ := Prod.mk.inj (qq1)
      have q3 := qq2
      subst r0
      subst v'
      subst hv'
      subst kv'
      subst hQ
      refine x_iret (post := (fun H H1 => PX G (a + 1) 37 (bkE G (a + 1)) v_14 H1 ∧ PX G (a + 38) 2 (hsE G (a + 38)) hv_8 H1 ∧ HU G (a + 38) kv_9 H1 ∧ XF (fun q => ((a + 1) ≤ q ∧ q < (a + 1) + 37) ∨ ((a + 38) ≤ q ∧ q < (a + 38) + 2) ∨ ((a + 38) + 2 ≤ q ∧ q < (a + 38) + 150)) H H1)) S hr hlocks rfl ?_ hL dX7_cancel_85
      exact ⟨h_bk, h_hs, h_hu, hF⟩
    · have hf := (if_neg c_7).symm.trans hf
      refine lv_ldc (v := (-2000000002)) hx hb hown (hts _ (xm 3 rfl)) dX7_cancel_29 ?_
      obtain ⟨q0, qq0⟩ := Prod.mk.inj (Option.some.inj hf)
      obtain ⟨q1, qq1⟩ := Prod.mk.inj (qq0)
      obtain ⟨q2, qq2⟩ := Prod.mk.inj (qq1)
      have q3 := qq2
      subst r0
      subst v'
      subst hv'
      subst kv'
      subst hQ
      refine x_iret (post := (fun H H1 => PX G (a + 1) 37 (bkE G (a + 1)) v H1 ∧ PX G (a + 38) 2 (hsE G (a + 38)) hv H1 ∧ HU G (a + 38) kv H1 ∧ XF (fun q => ((a + 1) ≤ q ∧ q < (a + 1) + 37) ∨ ((a + 38) ≤ q ∧ q < (a + 38) + 2) ∨ ((a + 38) + 2 ≤ q ∧ q < (a + 38) + 150)) H H1)) S hr hlocks rfl ?_ hL dX7_cancel_31
      exact ⟨h_bk, h_hs, h_hu, hF⟩
set_option maxRecDepth 100000 in
set_option maxHeartbeats 4000000 in
theorem c_X7_clash (l : Launch) (G : xG) (z : Nat) (a : Nat) (dv : xV) (r0 : Int32)  (hf : f_X7_clash dv = some r0) : xM l yX7_clash wsX7_clash 0 0 G z [.ref a] (fun H => PX G a 1 (hlE a) dv H) (some (.int r0)) (fun H H1 => H1 = H) := by
  refine xM.of (cc := cX7_clash) (maxL := 1) (ret := (some .int)) (by decide +kernel) rfl (Nat.le_of_ble_eq_true rfl) ?_
  intro p e s m args below meth c ls Q hQ S hr hlocks hK hP hl
  obtain ⟨hx, hb, hml, hown, hts⟩ := id S
  have h_hl := hP
  have hL : ∀ q ∈ ([] : List Loc), z ≤ q.base := fun q h => absurd h List.not_mem_nil
  have hl : lv_has ls 1 [(0, .ref a)] := hl
  have in7 : ∀ w ∈ u_ws RX7 TX7 6, w ∈ wsX7_clash := fun _ h => List.mem_cons_of_mem _ (List.mem_append_right _ h)
  unfold f_X7_clash at hf
  refine lv_aload_n hx hb dX7_clash_0 rfl (lv_at hl 0 rfl) ?_
  refine x_get S hK h_hl 0 (by decide) rfl rfl rfl in7 5 (by decide) (xm 1 rfl) (x := .int (dv 0 5)) rfl dX7_clash_1 ?_
  refine lv_iconst (v := (-1)) hx hb dX7_clash_4 (by decide) ?_
  refine lv_icmp_ne (tgt := 13) hx hb dX7_clash_5 (by decide) (fun c_1 => ?_) (fun c_1 => ?_)
  · have hf := (if_neg c_1).symm.trans hf
    refine lv_aload_n hx hb dX7_clash_13 rfl (lv_at hl 0 rfl) ?_
    refine x_get S hK h_hl 0 (by decide) rfl rfl rfl in7 5 (by decide) (xm 1 rfl) (x := .int (dv 0 5)) rfl dX7_clash_14 ?_
    have q0 := Option.some.inj hf
    subst r0
    subst hQ
    refine x_iret (post := (fun H H1 => H1 = H)) S hr hlocks rfl ?_ hL dX7_clash_17
    exact rfl
  · have hf := (if_pos c_1).symm.trans hf
    refine lv_ldc (v := (-2000000004)) hx hb hown (hts _ (xm 2 rfl)) dX7_clash_8 ?_
    refine lv_goto (tgt := 17) hx hb dX7_clash_10 (by decide) ?_
    have q0 := Option.some.inj hf
    subst r0
    subst hQ
    refine x_iret (post := (fun H H1 => H1 = H)) S hr hlocks rfl ?_ hL dX7_clash_17
    exact rfl
set_option maxRecDepth 100000 in
set_option maxHeartbeats 4000000 in
theorem c_X7_clearText (l : Launch) (G : xG) (z : Nat) (a : Nat) (dv : xV) (tv : xV) (r0 : Int32) (tv' : xV) (hz_tx : z ≤ (a + 188)) (hf : f_X7_clearText dv tv = some (r0, tv')) : xM l yX7_clearText wsX7_clearText 0 0 G z [.ref a] (fun H => PX G a 1 (hlE a) dv H ∧ PX G (a + 188) 2 (txE G (a + 188)) tv H) (some (.int r0)) (fun H H1 => PX G (a + 188) 2 (txE G (a + 188)) tv' H1 ∧ XF (fun q => ((a + 188) ≤ q ∧ q < (a + 188) + 2)) H H1) := by
  refine xM.of (cc := cX7_clearText) (maxL := 2) (ret := (some .int)) (by decide +kernel) rfl (Nat.le_of_ble_eq_true rfl) ?_
  intro p e s m args below meth c ls Q hQ S hr hlocks hK hP hl
  obtain ⟨hx, hb, hml, hown, hts⟩ := id S
  obtain ⟨h_hl, h_tx⟩ := hP
  have hL : ∀ q ∈ ([] : List Loc), z ≤ q.base := fun q h => absurd h List.not_mem_nil
  have hF : XF (fun q => ((a + 188) ≤ q ∧ q < (a + 188) + 2)) s.heap s.heap := XF.rf
  have hl : lv_has ls 2 [(0, .ref a)] := hl
  have in4 : ∀ w ∈ u_ws RX4 TX4 3, w ∈ wsX7_clearText := fun _ h => List.mem_cons_of_mem _ (List.mem_append_right _ h)
  have in7 : ∀ w ∈ u_ws RX7 TX7 6, w ∈ wsX7_clearText := fun _ h => List.mem_cons_of_mem _ (List.mem_append_left _ (List.mem_append_right _ h))
  unfold f_X7_clearText at hf
  refine lv_aload_n hx hb dX7_clearText_0 rfl (lv_at hl 0 rfl) ?_
  refine x_get S hK h_hl 0 (by decide) rfl rfl rfl in7 2 (by decide) (xm 1 rfl) (x := .ref (a + 188)) rfl dX7_clearText_1 ?_
  refine x_get S hK h_tx 0 (by decide) rfl rfl rfl in4 1 (by decide) (xm 2 rfl) (x := .int (tv 0 1)) rfl dX7_clearText_4 ?_
  obtain ⟨x_1, ex_1, hf⟩ := xl_some hf
  refine x_top ex_1 ?_
  refine lv_istore_n (lv' := [(1, .int x_1), (0, .ref a)]) hx hb dX7_clearText_7 rfl hl (by decide) rfl (fun ls hl => ?_)
  refine lv_aload_n hx hb dX7_clearText_8 rfl (lv_at hl 1 rfl) ?_
  refine x_get S hK h_hl 0 (by decide) rfl rfl rfl in7 2 (by decide) (xm 1 rfl) (x := .ref (a + 188)) rfl dX7_clearText_9 ?_
  refine lv_iconst (v := 0) hx hb dX7_clearText_12 (by decide) ?_
  obtain ⟨tv_2, etv_2, hf⟩ := xl_some hf
  refine x_put S hK h_tx hz_tx hL 0 (by decide) rfl rfl rfl in4 tyX4 tyX4_ok nmX4 1 (by decide) (xm 2 rfl) rfl (vp_nar_int _) rfl (Nat.le_of_ble_eq_true rfl) rfl etv_2 dX7_clearText_13 (fun H1 locs hL h_tx hfr => ?_)
  have h_hl := h_hl.kept hfr (fun q h1 h2 h3 => by (try dsimp only at h3); omega)
  have hF := hF.step hfr (fun q h => by (try dsimp only at h ⊢); omega)
  refine lv_iload_n hx hb dX7_clearText_16 rfl (lv_at hl 0 rfl) ?_
  obtain ⟨q0, qq0⟩ := Prod.mk.inj (Option.some.inj hf)
  have q1 := qq0
  subst r0
  subst tv'
  subst hQ
  refine x_iret (post := (fun H H1 => PX G (a + 188) 2 (txE G (a + 188)) tv_2 H1 ∧ XF (fun q => ((a + 188) ≤ q ∧ q < (a + 188) + 2)) H H1)) S hr hlocks rfl ?_ hL dX7_clearText_17
  exact ⟨h_tx, hF⟩
set_option maxRecDepth 100000 in
set_option maxHeartbeats 4000000 in
theorem c_X7_settingOrAccount (l : Launch) (G : xG) (z : Nat) (a : Nat) (dv : xV) (v : xV) (p1 : Int32) (r0 : Int32)  (hf : f_X7_settingOrAccount dv v p1 = some r0) : xM l yX7_settingOrAccount wsX7_settingOrAccount 0 0 G z [.ref a, .int p1] (fun H => PX G a 1 (hlE a) dv H ∧ PX G (a + 1) 37 (bkE G (a + 1)) v H) (some (.int r0)) (fun H H1 => H1 = H) := by
  refine xM.of (cc := cX7_settingOrAccount) (maxL := 2) (ret := (some .int)) (by decide +kernel) rfl (Nat.le_of_ble_eq_true rfl) ?_
  intro p e s m args below meth c ls Q hQ S hr hlocks hK hP hl
  obtain ⟨hx, hb, hml, hown, hts⟩ := id S
  obtain ⟨h_hl, h_bk⟩ := hP
  have hL : ∀ q ∈ ([] : List Loc), z ≤ q.base := fun q h => absurd h List.not_mem_nil
  have hl : lv_has ls 2 [(0, .ref a), (1, .int p1)] := hl
  have in0 : ∀ w ∈ u_ws RX0 TX0 9, w ∈ wsX7_settingOrAccount := fun _ h => List.mem_cons_of_mem _ (List.mem_append_right _ h)
  have in7 : ∀ w ∈ u_ws RX7 TX7 6, w ∈ wsX7_settingOrAccount := fun _ h => List.mem_cons_of_mem _ (List.mem_append_left _ (List.mem_append_right _ h))
  unfold f_X7_settingOrAccount at hf
  refine lv_iload_n hx hb dX7_settingOrAccount_0 rfl (lv_at hl 1 rfl) ?_
  refine lv_bipush (v := 10) hx hb dX7_settingOrAccount_1 (by decide) ?_
  refine lv_icmp_lt (tgt := 25) hx hb dX7_settingOrAccount_3 (by decide) (fun c_1 => ?_) (fun c_1 => ?_)
  · have hf := (if_pos c_1).symm.trans hf
    refine lv_iload_n hx hb dX7_settingOrAccount_25 rfl (lv_at hl 1 rfl) ?_
    refine lv_bipush (v := 20) hx hb dX7_settingOrAccount_26 (by decide) ?_
    refine lv_icmp_lt (tgt := 50) hx hb dX7_settingOrAccount_28 (by decide) (fun c_2 => ?_) (fun c_2 => ?_)
    · have hf := (if_pos c_2).symm.trans hf
      refine lv_ldc (v := (-2000000001)) hx hb hown (hts _ (xm 4 rfl)) dX7_settingOrAccount_50 ?_
      have q0 := Option.some.inj hf
      subst r0
      subst hQ
      refine x_iret (post := (fun H H1 => H1 = H)) S hr hlocks rfl ?_ hL dX7_settingOrAccount_52
      exact rfl
    · have hf := (if_neg c_2).symm.trans hf
      refine lv_iload_n hx hb dX7_settingOrAccount_31 rfl (lv_at hl 1 rfl) ?_
      refine lv_bipush (v := 29) hx hb dX7_settingOrAccount_32 (by decide) ?_
      refine lv_icmp_ge (tgt := 50) hx hb dX7_settingOrAccount_34 (by decide) (fun c_3 => ?_) (fun c_3 => ?_)
      · have hf := (if_pos c_3).symm.trans hf
        refine lv_ldc (v := (-2000000001)) hx hb hown (hts _ (xm 4 rfl)) dX7_settingOrAccount_50 ?_
        have q0 := Option.some.inj hf
        subst r0
        subst hQ
        refine x_iret (post := (fun H H1 => H1 = H)) S hr hlocks rfl ?_ hL dX7_settingOrAccount_52
        exact rfl
      · have hf := (if_neg c_3).symm.trans hf
        refine lv_aload_n hx hb dX7_settingOrAccount_37 rfl (lv_at hl 0 rfl) ?_
        refine x_get S hK h_hl 0 (by decide) rfl rfl rfl in7 0 (by decide) (xm 1 rfl) (x := .ref (a + 1)) rfl dX7_settingOrAccount_38 ?_
        refine x_get S hK h_bk 0 (by decide) rfl rfl rfl in0 4 (by decide) (xm 3 rfl) (x := .ref ((a + 1) + 2)) rfl dX7_settingOrAccount_41 ?_
        refine lv_iload_n hx hb dX7_settingOrAccount_44 rfl (lv_at hl 1 rfl) ?_
        refine lv_bipush (v := 20) hx hb dX7_settingOrAccount_45 (by decide) ?_
        refine lv_isub hx hb dX7_settingOrAccount_47 ?_
        obtain ⟨g_4, hf⟩ := xg_some hf
        refine x_iald S hK h_bk 2 (by decide) rfl rfl (p1 - 20).toNatClampNeg rfl g_4 dX7_settingOrAccount_48 ?_
        have q0 := Option.some.inj hf
        subst r0
        subst hQ
        refine x_iret (post := (fun H H1 => H1 = H)) S hr hlocks rfl ?_ hL dX7_settingOrAccount_49
        exact rfl
  · have hf := (if_neg c_1).symm.trans hf
    refine lv_iload_n hx hb dX7_settingOrAccount_6 rfl (lv_at hl 1 rfl) ?_
    refine lv_bipush (v := 18) hx hb dX7_settingOrAccount_7 (by decide) ?_
    refine lv_icmp_ge (tgt := 25) hx hb dX7_settingOrAccount_9 (by decide) (fun c_5 => ?_) (fun c_5 => ?_)
    · have hf := (if_pos c_5).symm.trans hf
      refine lv_iload_n hx hb dX7_settingOrAccount_25 rfl (lv_at hl 1 rfl) ?_
      refine lv_bipush (v := 20) hx hb dX7_settingOrAccount_26 (by decide) ?_
      refine lv_icmp_lt (tgt := 50) hx hb dX7_settingOrAccount_28 (by decide) (fun c_6 => ?_) (fun c_6 => ?_)
      · have hf := (if_pos c_6).symm.trans hf
        refine lv_ldc (v := (-2000000001)) hx hb hown (hts _ (xm 4 rfl)) dX7_settingOrAccount_50 ?_
        have q0 := Option.some.inj hf
        subst r0
        subst hQ
        refine x_iret (post := (fun H H1 => H1 = H)) S hr hlocks rfl ?_ hL dX7_settingOrAccount_52
        exact rfl
      · have hf := (if_neg c_6).symm.trans hf
        refine lv_iload_n hx hb dX7_settingOrAccount_31 rfl (lv_at hl 1 rfl) ?_
        refine lv_bipush (v := 29) hx hb dX7_settingOrAccount_32 (by decide) ?_
        refine lv_icmp_ge (tgt := 50) hx hb dX7_settingOrAccount_34 (by decide) (fun c_7 => ?_) (fun c_7 => ?_)
        · have hf := (if_pos c_7).symm.trans hf
          refine lv_ldc (v := (-2000000001)) hx hb hown (hts _ (xm 4 rfl)) dX7_settingOrAccount_50 ?_
          have q0 := Option.some.inj hf
          subst r0
          subst hQ
          refine x_iret (post := (fun H H1 => H1 = H)) S hr hlocks rfl ?_ hL dX7_settingOrAccount_52
          exact rfl
        · have hf := (if_neg c_7).symm.trans hf
          refine lv_aload_n hx hb dX7_settingOrAccount_37 rfl (lv_at hl 0 rfl) ?_
          refine x_get S hK h_hl 0 (by decide) rfl rfl rfl in7 0 (by decide) (xm 1 rfl) (x := .ref (a + 1)) rfl dX7_settingOrAccount_38 ?_
          refine x_get S hK h_bk 0 (by decide) rfl rfl rfl in0 4 (by decide) (xm 3 rfl) (x := .ref ((a + 1) + 2)) rfl dX7_settingOrAccount_41 ?_
          refine lv_iload_n hx hb dX7_settingOrAccount_44 rfl (lv_at hl 1 rfl) ?_
          refine lv_bipush (v := 20) hx hb dX7_settingOrAccount_45 (by decide) ?_
          refine lv_isub hx hb dX7_settingOrAccount_47 ?_
          obtain ⟨g_8, hf⟩ := xg_some hf
          refine x_iald S hK h_bk 2 (by decide) rfl rfl (p1 - 20).toNatClampNeg rfl g_8 dX7_settingOrAccount_48 ?_
          have q0 := Option.some.inj hf
          subst r0
          subst hQ
          refine x_iret (post := (fun H H1 => H1 = H)) S hr hlocks rfl ?_ hL dX7_settingOrAccount_49
          exact rfl
    · have hf := (if_neg c_5).symm.trans hf
      refine lv_aload_n hx hb dX7_settingOrAccount_12 rfl (lv_at hl 0 rfl) ?_
      refine x_get S hK h_hl 0 (by decide) rfl rfl rfl in7 0 (by decide) (xm 1 rfl) (x := .ref (a + 1)) rfl dX7_settingOrAccount_13 ?_
      refine x_get S hK h_bk 0 (by decide) rfl rfl rfl in0 3 (by decide) (xm 2 rfl) (x := .ref ((a + 1) + 1)) rfl dX7_settingOrAccount_16 ?_
      refine lv_iload_n hx hb dX7_settingOrAccount_19 rfl (lv_at hl 1 rfl) ?_
      refine lv_bipush (v := 10) hx hb dX7_settingOrAccount_20 (by decide) ?_
      refine lv_isub hx hb dX7_settingOrAccount_22 ?_
      obtain ⟨g_9, hf⟩ := xg_some hf
      refine x_iald S hK h_bk 1 (by decide) rfl rfl (p1 - 10).toNatClampNeg rfl g_9 dX7_settingOrAccount_23 ?_
      have q0 := Option.some.inj hf
      subst r0
      subst hQ
      refine x_iret (post := (fun H H1 => H1 = H)) S hr hlocks rfl ?_ hL dX7_settingOrAccount_24
      exact rfl
set_option maxRecDepth 100000 in
set_option maxHeartbeats 4000000 in
theorem c_X7_count (l : Launch) (G : xG) (z : Nat) (a : Nat) (dv : xV) (v : xV) (hv : xV) (tv : xV) (p1 : Int32) (r0 : Int32)  (hf : f_X7_count dv v hv tv p1 = some r0) : xM l yX7_count wsX7_count 3 86 G z [.ref a, .int p1] (fun H => PX G a 1 (hlE a) dv H ∧ PX G (a + 1) 37 (bkE G (a + 1)) v H ∧ PX G (a + 38) 2 (hsE G (a + 38)) hv H ∧ PX G (a + 188) 2 (txE G (a + 188)) tv H) (some (.int r0)) (fun H H1 => H1 = H) := by
  refine xM.of (cc := cX7_count) (maxL := 2) (ret := (some .int)) (by decide +kernel) rfl (Nat.le_of_ble_eq_true rfl) ?_
  intro p e s m args below meth c ls Q hQ S hr hlocks hK hP hl
  obtain ⟨hx, hb, hml, hown, hts⟩ := id S
  obtain ⟨h_hl, h_bk, h_hs, h_tx⟩ := hP
  have hL : ∀ q ∈ ([] : List Loc), z ≤ q.base := fun q h => absurd h List.not_mem_nil
  have hl : lv_has ls 2 [(0, .ref a), (1, .int p1)] := hl
  have in0 : ∀ w ∈ u_ws RX0 TX0 9, w ∈ wsX7_count := fun _ h => List.mem_cons_of_mem _ (List.mem_append_left _ (List.mem_append_left _ (List.mem_append_left _ (List.mem_append_left _ (List.mem_append_right _ h)))))
  have in2 : ∀ w ∈ u_ws RX2 TX2 2, w ∈ wsX7_count := fun _ h => List.mem_cons_of_mem _ (List.mem_append_left _ (List.mem_append_left _ (List.mem_append_left _ (List.mem_append_right _ h))))
  have in4 : ∀ w ∈ u_ws RX4 TX4 3, w ∈ wsX7_count := fun _ h => List.mem_cons_of_mem _ (List.mem_append_left _ (List.mem_append_left _ (List.mem_append_right _ h)))
  have in7 : ∀ w ∈ u_ws RX7 TX7 6, w ∈ wsX7_count := fun _ h => List.mem_cons_of_mem _ (List.mem_append_left _ (List.mem_append_left _ (List.mem_append_left _ (List.mem_append_left _ (List.mem_append_left _ (List.mem_append_right _ h))))))
  unfold f_X7_count at hf
  refine lv_iload_n hx hb dX7_count_0 rfl (lv_at hl 1 rfl) ?_
  by_cases c_1 : p1 = 0
  · have hf := (if_pos c_1).symm.trans hf
    refine x_tin (tgt := 52) (off := 51) S 0 c_1 dX7_count_1 (by decide) (by decide) (by decide) (by decide) ?_
    refine lv_aload_n hx hb dX7_count_52 rfl (lv_at hl 0 rfl) ?_
    refine x_get S hK h_hl 0 (by decide) rfl rfl rfl in7 0 (by decide) (xm 1 rfl) (x := .ref (a + 1)) rfl dX7_count_53 ?_
    refine x_get S hK h_bk 0 (by decide) rfl rfl rfl in0 0 (by decide) (xm 2 rfl) (x := .int (v 0 0)) rfl dX7_count_56 ?_
    have q0 := Option.some.inj hf
    subst r0
    subst hQ
    refine x_iret (post := (fun H H1 => H1 = H)) S hr hlocks rfl ?_ hL dX7_count_59
    exact rfl
  have hf := (if_neg c_1).symm.trans hf
  by_cases c_2 : p1 = 1
  · have hf := (if_pos c_2).symm.trans hf
    refine x_tin (tgt := 60) (off := 59) S 1 c_2 dX7_count_1 (by decide) (by decide) (by decide) (by decide) ?_
    refine lv_aload_n hx hb dX7_count_60 rfl (lv_at hl 0 rfl) ?_
    refine x_get S hK h_hl 0 (by decide) rfl rfl rfl in7 0 (by decide) (xm 1 rfl) (x := .ref (a + 1)) rfl dX7_count_61 ?_
    refine x_get S hK h_bk 0 (by decide) rfl rfl rfl in0 1 (by decide) (xm 3 rfl) (x := .int (v 0 1)) rfl dX7_count_64 ?_
    have q0 := Option.some.inj hf
    subst r0
    subst hQ
    refine x_iret (post := (fun H H1 => H1 = H)) S hr hlocks rfl ?_ hL dX7_count_67
    exact rfl
  have hf := (if_neg c_2).symm.trans hf
  by_cases c_3 : p1 = 2
  · have hf := (if_pos c_3).symm.trans hf
    refine x_tin (tgt := 68) (off := 67) S 2 c_3 dX7_count_1 (by decide) (by decide) (by decide) (by decide) ?_
    refine lv_aload_n hx hb dX7_count_68 rfl (lv_at hl 0 rfl) ?_
    refine x_get S hK h_hl 0 (by decide) rfl rfl rfl in7 0 (by decide) (xm 1 rfl) (x := .ref (a + 1)) rfl dX7_count_69 ?_
    refine x_get S hK h_bk 0 (by decide) rfl rfl rfl in0 2 (by decide) (xm 4 rfl) (x := .int (v 0 2)) rfl dX7_count_72 ?_
    have q0 := Option.some.inj hf
    subst r0
    subst hQ
    refine x_iret (post := (fun H H1 => H1 = H)) S hr hlocks rfl ?_ hL dX7_count_75
    exact rfl
  have hf := (if_neg c_3).symm.trans hf
  by_cases c_4 : p1 = 3
  · have hf := (if_pos c_4).symm.trans hf
    refine x_tin (tgt := 76) (off := 75) S 3 c_4 dX7_count_1 (by decide) (by decide) (by decide) (by decide) ?_
    refine lv_aload_n hx hb dX7_count_76 rfl (lv_at hl 0 rfl) ?_
    refine x_get S hK h_hl 0 (by decide) rfl rfl rfl in7 0 (by decide) (xm 1 rfl) (x := .ref (a + 1)) rfl dX7_count_77 ?_
    obtain ⟨r_5, e_6, hf⟩ := xb_some hf
    refine x_callVi (As := []) (rest := []) S hK (c_X0_sessionsNotCancelled l G z (a + 1) v r_5 e_6) gX7_count_X0_sessionsNotCancelled rfl 0 (by decide +kernel) rfl ⟨Nat.le_of_ble_eq_true rfl, Nat.le_of_ble_eq_true rfl⟩ h_bk 0 (by decide) rfl rfl rfl h_bk hl.1 rfl (Nat.le_of_ble_eq_true rfl) dX7_count_80 hL ⟨Nat.zero_le _, Nat.zero_le _⟩ (fun H1 locs hL hpost => ?_)
    subst hpost
    have q0 := Option.some.inj hf
    subst r0
    subst hQ
    refine x_iret (post := (fun H H1 => H1 = H)) S hr hlocks rfl ?_ hL dX7_count_83
    exact rfl
  have hf := (if_neg c_4).symm.trans hf
  by_cases c_7 : p1 = 4
  · have hf := (if_pos c_7).symm.trans hf
    refine x_tin (tgt := 84) (off := 83) S 4 c_7 dX7_count_1 (by decide) (by decide) (by decide) (by decide) ?_
    refine lv_aload_n hx hb dX7_count_84 rfl (lv_at hl 0 rfl) ?_
    refine x_get S hK h_hl 0 (by decide) rfl rfl rfl in7 0 (by decide) (xm 1 rfl) (x := .ref (a + 1)) rfl dX7_count_85 ?_
    refine lv_iconst (v := (-1)) hx hb dX7_count_88 (by decide) ?_
    obtain ⟨r_8, e_9, hf⟩ := xb_some hf
    refine x_callVi (As := [.int (-1)]) (rest := []) S hK (c_X0_keysFor l G z (a + 1) v (-1) r_8 e_9) gX7_count_X0_keysFor rfl 1 (by decide +kernel) rfl ⟨Nat.le_of_ble_eq_true rfl, Nat.le_of_ble_eq_true rfl⟩ h_bk 0 (by decide) rfl rfl rfl h_bk hl.1 rfl (Nat.le_of_ble_eq_true rfl) dX7_count_89 hL ⟨Nat.zero_le _, Nat.zero_le _⟩ (fun H1 locs hL hpost => ?_)
    subst hpost
    have q0 := Option.some.inj hf
    subst r0
    subst hQ
    refine x_iret (post := (fun H H1 => H1 = H)) S hr hlocks rfl ?_ hL dX7_count_92
    exact rfl
  have hf := (if_neg c_7).symm.trans hf
  by_cases c_10 : p1 = 5
  · have hf := (if_pos c_10).symm.trans hf
    refine x_tin (tgt := 93) (off := 92) S 5 c_10 dX7_count_1 (by decide) (by decide) (by decide) (by decide) ?_
    refine lv_aload_n hx hb dX7_count_93 rfl (lv_at hl 0 rfl) ?_
    refine x_get S hK h_hl 0 (by decide) rfl rfl rfl in7 0 (by decide) (xm 1 rfl) (x := .ref (a + 1)) rfl dX7_count_94 ?_
    obtain ⟨r_11, e_12, hf⟩ := xb_some hf
    refine x_callVi (As := []) (rest := []) S hK (c_X0_lateKeys l G z (a + 1) v r_11 e_12) gX7_count_X0_lateKeys rfl 0 (by decide +kernel) rfl ⟨Nat.le_of_ble_eq_true rfl, Nat.le_of_ble_eq_true rfl⟩ h_bk 0 (by decide) rfl rfl rfl h_bk hl.1 rfl (Nat.le_of_ble_eq_true rfl) dX7_count_97 hL ⟨Nat.zero_le _, Nat.zero_le _⟩ (fun H1 locs hL hpost => ?_)
    subst hpost
    have q0 := Option.some.inj hf
    subst r0
    subst hQ
    refine x_iret (post := (fun H H1 => H1 = H)) S hr hlocks rfl ?_ hL dX7_count_100
    exact rfl
  have hf := (if_neg c_10).symm.trans hf
  by_cases c_13 : p1 = 6
  · have hf := (if_pos c_13).symm.trans hf
    refine x_tin (tgt := 101) (off := 100) S 6 c_13 dX7_count_1 (by decide) (by decide) (by decide) (by decide) ?_
    refine lv_aload_n hx hb dX7_count_101 rfl (lv_at hl 0 rfl) ?_
    refine x_get S hK h_hl 0 (by decide) rfl rfl rfl in7 0 (by decide) (xm 1 rfl) (x := .ref (a + 1)) rfl dX7_count_102 ?_
    obtain ⟨r_14, e_15, hf⟩ := xb_some hf
    refine x_callVi (As := []) (rest := []) S hK (c_X0_roomHoursHeld l G z (a + 1) v r_14 e_15) gX7_count_X0_roomHoursHeld rfl 0 (by decide +kernel) rfl ⟨Nat.le_of_ble_eq_true rfl, Nat.le_of_ble_eq_true rfl⟩ h_bk 0 (by decide) rfl rfl rfl h_bk hl.1 rfl (Nat.le_of_ble_eq_true rfl) dX7_count_105 hL ⟨Nat.zero_le _, Nat.zero_le _⟩ (fun H1 locs hL hpost => ?_)
    subst hpost
    have q0 := Option.some.inj hf
    subst r0
    subst hQ
    refine x_iret (post := (fun H H1 => H1 = H)) S hr hlocks rfl ?_ hL dX7_count_108
    exact rfl
  have hf := (if_neg c_13).symm.trans hf
  by_cases c_16 : p1 = 7
  · have hf := (if_pos c_16).symm.trans hf
    refine x_tin (tgt := 109) (off := 108) S 7 c_16 dX7_count_1 (by decide) (by decide) (by decide) (by decide) ?_
    refine lv_aload_n hx hb dX7_count_109 rfl (lv_at hl 0 rfl) ?_
    refine x_get S hK h_hl 0 (by decide) rfl rfl rfl in7 1 (by decide) (xm 5 rfl) (x := .ref (a + 38)) rfl dX7_count_110 ?_
    refine x_get S hK h_hs 0 (by decide) rfl rfl rfl in2 1 (by decide) (xm 6 rfl) (x := .int (hv 0 1)) rfl dX7_count_113 ?_
    have q0 := Option.some.inj hf
    subst r0
    subst hQ
    refine x_iret (post := (fun H H1 => H1 = H)) S hr hlocks rfl ?_ hL dX7_count_116
    exact rfl
  have hf := (if_neg c_16).symm.trans hf
  by_cases c_17 : p1 = 8
  · have hf := (if_pos c_17).symm.trans hf
    refine x_tin (tgt := 117) (off := 116) S 8 c_17 dX7_count_1 (by decide) (by decide) (by decide) (by decide) ?_
    refine lv_aload_n hx hb dX7_count_117 rfl (lv_at hl 0 rfl) ?_
    refine x_get S hK h_hl 0 (by decide) rfl rfl rfl in7 2 (by decide) (xm 7 rfl) (x := .ref (a + 188)) rfl dX7_count_118 ?_
    refine x_get S hK h_tx 0 (by decide) rfl rfl rfl in4 1 (by decide) (xm 8 rfl) (x := .int (tv 0 1)) rfl dX7_count_121 ?_
    have q0 := Option.some.inj hf
    subst r0
    subst hQ
    refine x_iret (post := (fun H H1 => H1 = H)) S hr hlocks rfl ?_ hL dX7_count_124
    exact rfl
  have hf := (if_neg c_17).symm.trans hf
  have tc_1 : p1.toInt ≠ 0 := fun h9 => c_1 (xti (h9.trans (by decide)))
  have tc_2 : p1.toInt ≠ 1 := fun h9 => c_2 (xti (h9.trans (by decide)))
  have tc_3 : p1.toInt ≠ 2 := fun h9 => c_3 (xti (h9.trans (by decide)))
  have tc_4 : p1.toInt ≠ 3 := fun h9 => c_4 (xti (h9.trans (by decide)))
  have tc_7 : p1.toInt ≠ 4 := fun h9 => c_7 (xti (h9.trans (by decide)))
  have tc_10 : p1.toInt ≠ 5 := fun h9 => c_10 (xti (h9.trans (by decide)))
  have tc_13 : p1.toInt ≠ 6 := fun h9 => c_13 (xti (h9.trans (by decide)))
  have tc_16 : p1.toInt ≠ 7 := fun h9 => c_16 (xti (h9.trans (by decide)))
  have tc_17 : p1.toInt ≠ 8 := fun h9 => c_17 (xti (h9.trans (by decide)))
  refine lv_tableOut (tgt := 125) hx hb dX7_count_1 (by omega) (by decide) ?_
  refine lv_aload_n hx hb dX7_count_125 rfl (lv_at hl 0 rfl) ?_
  refine lv_iload_n hx hb dX7_count_126 rfl (lv_at hl 1 rfl) ?_
  obtain ⟨r_18, e_19, hf⟩ := xb_some hf
  refine x_callVi (As := [.int p1]) (rest := []) S hK (c_X7_settingOrAccount l G z a dv v p1 r_18 e_19) gX7_count_X7_settingOrAccount rfl 1 (by decide +kernel) rfl ⟨Nat.le_of_ble_eq_true rfl, Nat.le_of_ble_eq_true rfl⟩ h_hl 0 (by decide) rfl rfl rfl ⟨h_hl, h_bk⟩ hl.1 rfl (Nat.le_of_ble_eq_true rfl) dX7_count_127 hL ⟨Nat.zero_le _, Nat.zero_le _⟩ (fun H1 locs hL hpost => ?_)
  subst hpost
  have q0 := Option.some.inj hf
  subst r0
  subst hQ
  refine x_iret (post := (fun H H1 => H1 = H)) S hr hlocks rfl ?_ hL dX7_count_130
  exact rfl
set_option maxRecDepth 100000 in
set_option maxHeartbeats 4000000 in
theorem c_X7_enter (l : Launch) (G : xG) (z : Nat) (a : Nat) (dv : xV) (v : xV) (hv : xV) (kv : Nat → xV) (tv : xV) (rv : xV) (vt : xV) (fv : xV) (r0 : Int32) (dv' : xV) (v' : xV) (hv' : xV) (kv' : Nat → xV) (tv' : xV) (rv' : xV) (vt' : xV) (fv' : xV) (hz_hl : z ≤ a) (hz_bk : z ≤ (a + 1)) (hz_hs : z ≤ (a + 38)) (hz_tx : z ≤ (a + 188)) (hz_tr : z ≤ (a + 190)) (hz_tb : z ≤ (a + 190 + 1)) (hz_tw : z ≤ (a + 190 + 38)) (hf : f_X7_enter dv v hv kv tv rv vt fv = some (r0, dv', v', hv', kv', tv', rv', vt', fv')) : xM l yX7_enter wsX7_enter 6 138 G z [.ref a] (fun H => PX G a 1 (hlE a) dv H ∧ PX G (a + 1) 37 (bkE G (a + 1)) v H ∧ PX G (a + 38) 2 (hsE G (a + 38)) hv H ∧ HU G (a + 38) kv H ∧ PX G (a + 188) 2 (txE G (a + 188)) tv H ∧ PX G (a + 190) 1 (trE (a + 190)) rv H ∧ PX G (a + 190 + 1) 37 (bkE G (a + 190 + 1)) vt H ∧ PX G (a + 190 + 38) 1 wsE fv H) (some (.int r0)) (fun H H1 => PX G a 1 (hlE a) dv' H1 ∧ PX G (a + 1) 37 (bkE G (a + 1)) v' H1 ∧ PX G (a + 38) 2 (hsE G (a + 38)) hv' H1 ∧ HU G (a + 38) kv' H1 ∧ PX G (a + 188) 2 (txE G (a + 188)) tv' H1 ∧ PX G (a + 190) 1 (trE (a + 190)) rv' H1 ∧ PX G (a + 190 + 1) 37 (bkE G (a + 190 + 1)) vt' H1 ∧ PX G (a + 190 + 38) 1 wsE fv' H1 ∧ XF (fun q => (a ≤ q ∧ q < a + 1) ∨ ((a + 1) ≤ q ∧ q < (a + 1) + 37) ∨ ((a + 38) ≤ q ∧ q < (a + 38) + 2) ∨ ((a + 38) + 2 ≤ q ∧ q < (a + 38) + 150) ∨ ((a + 188) ≤ q ∧ q < (a + 188) + 2) ∨ ((a + 190) ≤ q ∧ q < (a + 190) + 1) ∨ ((a + 190 + 1) ≤ q ∧ q < (a + 190 + 1) + 37) ∨ ((a + 190 + 38) ≤ q ∧ q < (a + 190 + 38) + 1)) H H1) := by
  refine xM.of (cc := cX7_enter) (maxL := 1) (ret := (some .int)) (by decide +kernel) rfl (Nat.le_of_ble_eq_true rfl) ?_
  intro p e s m args below meth c ls Q hQ S hr hlocks hK hP hl
  obtain ⟨hx, hb, hml, hown, hts⟩ := id S
  obtain ⟨h_hl, h_bk, h_hs, h_hu, h_tx, h_tr, h_tb, h_tw⟩ := hP
  have hL : ∀ q ∈ ([] : List Loc), z ≤ q.base := fun q h => absurd h List.not_mem_nil
  have hF : XF (fun q => (a ≤ q ∧ q < a + 1) ∨ ((a + 1) ≤ q ∧ q < (a + 1) + 37) ∨ ((a + 38) ≤ q ∧ q < (a + 38) + 2) ∨ ((a + 38) + 2 ≤ q ∧ q < (a + 38) + 150) ∨ ((a + 188) ≤ q ∧ q < (a + 188) + 2) ∨ ((a + 190) ≤ q ∧ q < (a + 190) + 1) ∨ ((a + 190 + 1) ≤ q ∧ q < (a + 190 + 1) + 37) ∨ ((a + 190 + 38) ≤ q ∧ q < (a + 190 + 38) + 1)) s.heap s.heap := XF.rf
  have hl : lv_has ls 1 [(0, .ref a)] := hl
  have in5 : ∀ w ∈ u_ws RX5 TX5 6, w ∈ wsX7_enter := fun _ h => List.mem_cons_of_mem _ (List.mem_append_left _ (List.mem_append_left _ (List.mem_append_left _ (List.mem_append_left _ (List.mem_append_left _ (List.mem_append_left _ (List.mem_append_right _ h)))))))
  have in7 : ∀ w ∈ u_ws RX7 TX7 6, w ∈ wsX7_enter := fun _ h => List.mem_cons_of_mem _ (List.mem_append_left _ (List.mem_append_left _ (List.mem_append_left _ (List.mem_append_left _ (List.mem_append_left _ (List.mem_append_left _ (List.mem_append_left _ (List.mem_append_right _ h))))))))
  unfold f_X7_enter at hf
  refine lv_aload_n hx hb dX7_enter_0 rfl (lv_at hl 0 rfl) ?_
  refine x_get S hK h_hl 0 (by decide) rfl rfl rfl in7 3 (by decide) (xm 1 rfl) (x := .ref (a + 190)) rfl dX7_enter_1 ?_
  refine lv_aload_n hx hb dX7_enter_4 rfl (lv_at hl 0 rfl) ?_
  refine x_get S hK h_hl 0 (by decide) rfl rfl rfl in7 0 (by decide) (xm 2 rfl) (x := .ref (a + 1)) rfl dX7_enter_5 ?_
  refine lv_aload_n hx hb dX7_enter_8 rfl (lv_at hl 0 rfl) ?_
  refine x_get S hK h_hl 0 (by decide) rfl rfl rfl in7 2 (by decide) (xm 3 rfl) (x := .ref (a + 188)) rfl dX7_enter_9 ?_
  obtain ⟨rv_1, vt_2, fv_3, tv_4, e_5, hf⟩ := xb4_some hf
  refine x_callVv (As := [.ref (a + 1), .ref (a + 188)]) (rest := []) S hK (c_X5_run l G z (a + 190) (a + 1) (a + 188) rv vt fv v tv rv_1 vt_2 fv_3 tv_4 (by omega) (by omega) (by omega) (by omega) (by omega) (by omega) (by omega) (by omega) (by omega) (by omega) (by omega) e_5) gX7_enter_X5_run rfl 2 (by decide +kernel) rfl ⟨Nat.le_of_ble_eq_true rfl, Nat.le_of_ble_eq_true rfl⟩ h_tr 0 (by decide) rfl rfl rfl ⟨h_tr, h_tb, h_tw, h_bk, h_tx⟩ hl.1 rfl (Nat.le_of_ble_eq_true rfl) dX7_enter_12 hL ⟨Nat.zero_le _, Nat.zero_le _⟩ (fun H1 locs hL hpost => ?_)
  obtain ⟨n_tr, n_tb, n_tw, n_tx, hfr⟩ := hpost
  have h_tr := n_tr
  have h_tb := n_tb
  have h_tw := n_tw
  have h_tx := n_tx
  have h_hl := h_hl.kept hfr (fun q h1 h2 h3 => by (try dsimp only at h3); omega)
  have h_bk := h_bk.kept hfr (fun q h1 h2 h3 => by (try dsimp only at h3); omega)
  have h_hs := h_hs.kept hfr (fun q h1 h2 h3 => by (try dsimp only at h3); omega)
  have h_hu := h_hu.kept hfr (fun q h1 h2 h3 => by (try dsimp only at h3); omega)
  have hF := hF.step hfr (fun q h => by (try dsimp only at h ⊢); omega)
  refine lv_aload_n hx hb dX7_enter_15 rfl (lv_at hl 0 rfl) ?_
  refine x_get S hK h_hl 0 (by decide) rfl rfl rfl in7 3 (by decide) (xm 1 rfl) (x := .ref (a + 190)) rfl dX7_enter_16 ?_
  refine x_get S hK h_tr 0 (by decide) rfl rfl rfl in5 3 (by decide) (xm 4 rfl) (x := .int (rv_1 0 3)) rfl dX7_enter_19 ?_
  refine lv_iconst (v := 4) hx hb dX7_enter_22 (by decide) ?_
  refine lv_icmp_ne (tgt := 37) hx hb dX7_enter_23 (by decide) (fun c_6 => ?_) (fun c_6 => ?_)
  · have hf := (if_neg c_6).symm.trans hf
    refine lv_aload_n hx hb dX7_enter_37 rfl (lv_at hl 0 rfl) ?_
    refine x_get S hK h_hl 0 (by decide) rfl rfl rfl in7 3 (by decide) (xm 1 rfl) (x := .ref (a + 190)) rfl dX7_enter_38 ?_
    refine x_get S hK h_tr 0 (by decide) rfl rfl rfl in5 3 (by decide) (xm 4 rfl) (x := .int (rv_1 0 3)) rfl dX7_enter_41 ?_
    refine lv_if_eq (tgt := 50) hx hb dX7_enter_44 (by decide) (fun c_7 => ?_) (fun c_7 => ?_)
    · have hf := (if_pos c_7).symm.trans hf
      refine lv_aload_n hx hb dX7_enter_50 rfl (lv_at hl 0 rfl) ?_
      refine x_get S hK h_hl 0 (by decide) rfl rfl rfl in7 1 (by decide) (xm 8 rfl) (x := .ref (a + 38)) rfl dX7_enter_51 ?_
      refine lv_aload_n hx hb dX7_enter_54 rfl (lv_at hl 0 rfl) ?_
      refine x_get S hK h_hl 0 (by decide) rfl rfl rfl in7 0 (by decide) (xm 2 rfl) (x := .ref (a + 1)) rfl dX7_enter_55 ?_
      obtain ⟨hv_8, kv_9, e_10, hf⟩ := xb2_some hf
      refine x_callVv (As := [.ref (a + 1)]) (rest := []) S hK (c_X2_save l G z (a + 38) (a + 1) hv kv v hv_8 kv_9 (by omega) (by omega) (by omega) e_10) gX7_enter_X2_save rfl 1 (by decide +kernel) rfl ⟨Nat.le_of_ble_eq_true rfl, Nat.le_of_ble_eq_true rfl⟩ h_hs 0 (by decide) rfl rfl rfl ⟨h_hs, h_hu, h_bk⟩ hl.1 rfl (Nat.le_of_ble_eq_true rfl) dX7_enter_58 hL ⟨Nat.zero_le _, Nat.zero_le _⟩ (fun H1 locs hL hpost => ?_)
      obtain ⟨n_hs, n_hu, hfr⟩ := hpost
      have h_hs := n_hs
      have h_hu := n_hu
      have h_hl := h_hl.kept hfr (fun q h1 h2 h3 => by (try dsimp only at h3); omega)
      have h_bk := h_bk.kept hfr (fun q h1 h2 h3 => by (try dsimp only at h3); omega)
      have h_tx := h_tx.kept hfr (fun q h1 h2 h3 => by (try dsimp only at h3); omega)
      have h_tr := h_tr.kept hfr (fun q h1 h2 h3 => by (try dsimp only at h3); omega)
      have h_tb := h_tb.kept hfr (fun q h1 h2 h3 => by (try dsimp only at h3); omega)
      have h_tw := h_tw.kept hfr (fun q h1 h2 h3 => by (try dsimp only at h3); omega)
      have hF := hF.step hfr (fun q h => by (try dsimp only at h ⊢); omega)
      refine lv_aload_n hx hb dX7_enter_61 rfl (lv_at hl 0 rfl) ?_
      refine x_get S hK h_hl 0 (by decide) rfl rfl rfl in7 0 (by decide) (xm 2 rfl) (x := .ref (a + 1)) rfl dX7_enter_62 ?_
      refine lv_aload_n hx hb dX7_enter_65 rfl (lv_at hl 0 rfl) ?_
      refine x_get S hK h_hl 0 (by decide) rfl rfl rfl in7 3 (by decide) (xm 1 rfl) (x := .ref (a + 190)) rfl dX7_enter_66 ?_
      refine x_get S hK h_tr 0 (by decide) rfl rfl rfl in5 0 (by decide) (xm 9 rfl) (x := .ref (a + 190 + 1)) rfl dX7_enter_69 ?_
      obtain ⟨v_11, e_12, hf⟩ := xb_some hf
      refine x_callVv (As := [.ref (a + 190 + 1)]) (rest := []) S hK (c_X0_copyFrom l G z (a + 1) (a + 190 + 1) v vt_2 v_11 (by omega) (by omega) e_12) gX7_enter_X0_copyFrom rfl 1 (by decide +kernel) rfl ⟨Nat.le_of_ble_eq_true rfl, Nat.le_of_ble_eq_true rfl⟩ h_bk 0 (by decide) rfl rfl rfl ⟨h_bk, h_tb⟩ hl.1 rfl (Nat.le_of_ble_eq_true rfl) dX7_enter_72 hL ⟨Nat.zero_le _, Nat.zero_le _⟩ (fun H1 locs hL hpost => ?_)
      obtain ⟨n_bk, hfr⟩ := hpost
      have h_bk := n_bk
      have h_hl := h_hl.kept hfr (fun q h1 h2 h3 => by (try dsimp only at h3); omega)
      have h_hs := h_hs.kept hfr (fun q h1 h2 h3 => by (try dsimp only at h3); omega)
      have h_hu := h_hu.kept hfr (fun q h1 h2 h3 => by (try dsimp only at h3); omega)
      have h_tx := h_tx.kept hfr (fun q h1 h2 h3 => by (try dsimp only at h3); omega)
      have h_tr := h_tr.kept hfr (fun q h1 h2 h3 => by (try dsimp only at h3); omega)
      have h_tb := h_tb.kept hfr (fun q h1 h2 h3 => by (try dsimp only at h3); omega)
      have h_tw := h_tw.kept hfr (fun q h1 h2 h3 => by (try dsimp only at h3); omega)
      have hF := hF.step hfr (fun q h => by (try dsimp only at h ⊢); omega)
      refine lv_aload_n hx hb dX7_enter_75 rfl (lv_at hl 0 rfl) ?_
      refine x_get S hK h_hl 0 (by decide) rfl rfl rfl in7 3 (by decide) (xm 1 rfl) (x := .ref (a + 190)) rfl dX7_enter_76 ?_
      refine x_get S hK h_tr 0 (by decide) rfl rfl rfl in5 5 (by decide) (xm 10 rfl) (x := .int (rv_1 0 5)) rfl dX7_enter_79 ?_
      obtain ⟨q0, qq0⟩ := Prod.mk.inj (Option.some.inj hf)
      obtain ⟨q1, qq1⟩ := Prod.mk.inj (qq0)
      obtain ⟨q2, qq2⟩ := Prod.mk.inj (qq1)
      obtain ⟨q3, qq3⟩ := Prod.mk.inj (qq2)
      obtain ⟨q4, qq4⟩ := Prod.mk.inj (qq3)
      obtain ⟨q5, qq5⟩ := Prod.mk.inj (qq4)
      obtain ⟨q6, qq6⟩ := Prod.mk.inj (qq5)
      obtain ⟨q7, qq7⟩ := Prod.mk.inj (qq6)
      have q8 := qq7
      subst r0
      subst dv'
      subst v'
      subst hv'
      subst kv'
      subst tv'
      subst rv'
      subst vt'
      subst fv'
      subst hQ
      refine x_iret (post := (fun H H1 => PX G a 1 (hlE a) dv H1 ∧ PX G (a + 1) 37 (bkE G (a + 1)) v_11 H1 ∧ PX G (a + 38) 2 (hsE G (a + 38)) hv_8 H1 ∧ HU G (a + 38) kv_9 H1 ∧ PX G (a + 188) 2 (txE G (a + 188)) tv_4 H1 ∧ PX G (a + 190) 1 (trE (a + 190)) rv_1 H1 ∧ PX G (a + 190 + 1) 37 (bkE G (a + 190 + 1)) vt_2 H1 ∧ PX G (a + 190 + 38) 1 wsE fv_3 H1 ∧ XF (fun q => (a ≤ q ∧ q < a + 1) ∨ ((a + 1) ≤ q ∧ q < (a + 1) + 37) ∨ ((a + 38) ≤ q ∧ q < (a + 38) + 2) ∨ ((a + 38) + 2 ≤ q ∧ q < (a + 38) + 150) ∨ ((a + 188) ≤ q ∧ q < (a + 188) + 2) ∨ ((a + 190) ≤ q ∧ q < (a + 190) + 1) ∨ ((a + 190 + 1) ≤ q ∧ q < (a + 190 + 1) + 37) ∨ ((a + 190 + 38) ≤ q ∧ q < (a + 190 + 38) + 1)) H H1)) S hr hlocks rfl ?_ hL dX7_enter_82
      exact ⟨h_hl, h_bk, h_hs, h_hu, h_tx, h_tr, h_tb, h_tw, hF⟩
    · have hf := (if_neg c_7).symm.trans hf
      refine lv_ldc (v := (-2000000002)) hx hb hown (hts _ (xm 7 rfl)) dX7_enter_47 ?_
      obtain ⟨q0, qq0⟩ := Prod.mk.inj (Option.some.inj hf)
      obtain ⟨q1, qq1⟩ := Prod.mk.inj (qq0)
      obtain ⟨q2, qq2⟩ := Prod.mk.inj (qq1)
      obtain ⟨q3, qq3⟩ := Prod.mk.inj (qq2)
      obtain ⟨q4, qq4⟩ := Prod.mk.inj (qq3)
      obtain ⟨q5, qq5⟩ := Prod.mk.inj (qq4)
      obtain ⟨q6, qq6⟩ := Prod.mk.inj (qq5)
      obtain ⟨q7, qq7⟩ := Prod.mk.inj (qq6)
      have q8 := qq7
      subst r0
      subst dv'
      subst v'
      subst hv'
      subst kv'
      subst tv'
      subst rv'
      subst vt'
      subst fv'
      subst hQ
      refine x_iret (post := (fun H H1 => PX G a 1 (hlE a) dv H1 ∧ PX G (a + 1) 37 (bkE G (a + 1)) v H1 ∧ PX G (a + 38) 2 (hsE G (a + 38)) hv H1 ∧ HU G (a + 38) kv H1 ∧ PX G (a + 188) 2 (txE G (a + 188)) tv_4 H1 ∧ PX G (a + 190) 1 (trE (a + 190)) rv_1 H1 ∧ PX G (a + 190 + 1) 37 (bkE G (a + 190 + 1)) vt_2 H1 ∧ PX G (a + 190 + 38) 1 wsE fv_3 H1 ∧ XF (fun q => (a ≤ q ∧ q < a + 1) ∨ ((a + 1) ≤ q ∧ q < (a + 1) + 37) ∨ ((a + 38) ≤ q ∧ q < (a + 38) + 2) ∨ ((a + 38) + 2 ≤ q ∧ q < (a + 38) + 150) ∨ ((a + 188) ≤ q ∧ q < (a + 188) + 2) ∨ ((a + 190) ≤ q ∧ q < (a + 190) + 1) ∨ ((a + 190 + 1) ≤ q ∧ q < (a + 190 + 1) + 37) ∨ ((a + 190 + 38) ≤ q ∧ q < (a + 190 + 38) + 1)) H H1)) S hr hlocks rfl ?_ hL dX7_enter_49
      exact ⟨h_hl, h_bk, h_hs, h_hu, h_tx, h_tr, h_tb, h_tw, hF⟩
  · have hf := (if_pos c_6).symm.trans hf
    refine lv_aload_n hx hb dX7_enter_26 rfl (lv_at hl 0 rfl) ?_
    refine lv_aload_n hx hb dX7_enter_27 rfl (lv_at hl 0 rfl) ?_
    refine x_get S hK h_hl 0 (by decide) rfl rfl rfl in7 3 (by decide) (xm 1 rfl) (x := .ref (a + 190)) rfl dX7_enter_28 ?_
    refine x_get S hK h_tr 0 (by decide) rfl rfl rfl in5 4 (by decide) (xm 5 rfl) (x := .int (rv_1 0 4)) rfl dX7_enter_31 ?_
    obtain ⟨dv_13, edv_13, hf⟩ := xl_some hf
    refine x_put S hK h_hl hz_hl hL 0 (by decide) rfl rfl rfl in7 tyX7 tyX7_ok nmX7 5 (by decide) (xm 6 rfl) rfl (vp_nar_int _) rfl (Nat.le_of_ble_eq_true rfl) rfl edv_13 dX7_enter_34 (fun H1 locs hL h_hl hfr => ?_)
    have h_bk := h_bk.kept hfr (fun q h1 h2 h3 => by (try dsimp only at h3); omega)
    have h_hs := h_hs.kept hfr (fun q h1 h2 h3 => by (try dsimp only at h3); omega)
    have h_hu := h_hu.kept hfr (fun q h1 h2 h3 => by (try dsimp only at h3); omega)
    have h_tx := h_tx.kept hfr (fun q h1 h2 h3 => by (try dsimp only at h3); omega)
    have h_tr := h_tr.kept hfr (fun q h1 h2 h3 => by (try dsimp only at h3); omega)
    have h_tb := h_tb.kept hfr (fun q h1 h2 h3 => by (try dsimp only at h3); omega)
    have h_tw := h_tw.kept hfr (fun q h1 h2 h3 => by (try dsimp only at h3); omega)
    have hF := hF.step hfr (fun q h => by (try dsimp only at h ⊢); omega)
    refine lv_aload_n hx hb dX7_enter_37 rfl (lv_at hl 0 rfl) ?_
    refine x_get S hK h_hl 0 (by decide) rfl rfl rfl in7 3 (by decide) (xm 1 rfl) (x := .ref (a + 190)) rfl dX7_enter_38 ?_
    refine x_get S hK h_tr 0 (by decide) rfl rfl rfl in5 3 (by decide) (xm 4 rfl) (x := .int (rv_1 0 3)) rfl dX7_enter_41 ?_
    refine lv_if_eq (tgt := 50) hx hb dX7_enter_44 (by decide) (fun c_14 => ?_) (fun c_14 => ?_)
    · have hf := (if_pos c_14).symm.trans hf
      refine lv_aload_n hx hb dX7_enter_50 rfl (lv_at hl 0 rfl) ?_
      refine x_get S hK h_hl 0 (by decide) rfl rfl rfl in7 1 (by decide) (xm 8 rfl) (x := .ref (a + 38)) rfl dX7_enter_51 ?_
      refine lv_aload_n hx hb dX7_enter_54 rfl (lv_at hl 0 rfl) ?_
      refine x_get S hK h_hl 0 (by decide) rfl rfl rfl in7 0 (by decide) (xm 2 rfl) (x := .ref (a + 1)) rfl dX7_enter_55 ?_
      obtain ⟨hv_15, kv_16, e_17, hf⟩ := xb2_some hf
      refine x_callVv (As := [.ref (a + 1)]) (rest := []) S hK (c_X2_save l G z (a + 38) (a + 1) hv kv v hv_15 kv_16 (by omega) (by omega) (by omega) e_17) gX7_enter_X2_save rfl 1 (by decide +kernel) rfl ⟨Nat.le_of_ble_eq_true rfl, Nat.le_of_ble_eq_true rfl⟩ h_hs 0 (by decide) rfl rfl rfl ⟨h_hs, h_hu, h_bk⟩ hl.1 rfl (Nat.le_of_ble_eq_true rfl) dX7_enter_58 hL ⟨Nat.zero_le _, Nat.zero_le _⟩ (fun H1 locs hL hpost => ?_)
      obtain ⟨n_hs, n_hu, hfr⟩ := hpost
      have h_hs := n_hs
      have h_hu := n_hu
      have h_hl := h_hl.kept hfr (fun q h1 h2 h3 => by (try dsimp only at h3); omega)
      have h_bk := h_bk.kept hfr (fun q h1 h2 h3 => by (try dsimp only at h3); omega)
      have h_tx := h_tx.kept hfr (fun q h1 h2 h3 => by (try dsimp only at h3); omega)
      have h_tr := h_tr.kept hfr (fun q h1 h2 h3 => by (try dsimp only at h3); omega)
      have h_tb := h_tb.kept hfr (fun q h1 h2 h3 => by (try dsimp only at h3); omega)
      have h_tw := h_tw.kept hfr (fun q h1 h2 h3 => by (try dsimp only at h3); omega)
      have hF := hF.step hfr (fun q h => by (try dsimp only at h ⊢); omega)
      refine lv_aload_n hx hb dX7_enter_61 rfl (lv_at hl 0 rfl) ?_
      refine x_get S hK h_hl 0 (by decide) rfl rfl rfl in7 0 (by decide) (xm 2 rfl) (x := .ref (a + 1)) rfl dX7_enter_62 ?_
      refine lv_aload_n hx hb dX7_enter_65 rfl (lv_at hl 0 rfl) ?_
      refine x_get S hK h_hl 0 (by decide) rfl rfl rfl in7 3 (by decide) (xm 1 rfl) (x := .ref (a + 190)) rfl dX7_enter_66 ?_
      refine x_get S hK h_tr 0 (by decide) rfl rfl rfl in5 0 (by decide) (xm 9 rfl) (x := .ref (a + 190 + 1)) rfl dX7_enter_69 ?_
      obtain ⟨v_18, e_19, hf⟩ := xb_some hf
      refine x_callVv (As := [.ref (a + 190 + 1)]) (rest := []) S hK (c_X0_copyFrom l G z (a + 1) (a + 190 + 1) v vt_2 v_18 (by omega) (by omega) e_19) gX7_enter_X0_copyFrom rfl 1 (by decide +kernel) rfl ⟨Nat.le_of_ble_eq_true rfl, Nat.le_of_ble_eq_true rfl⟩ h_bk 0 (by decide) rfl rfl rfl ⟨h_bk, h_tb⟩ hl.1 rfl (Nat.le_of_ble_eq_true rfl) dX7_enter_72 hL ⟨Nat.zero_le _, Nat.zero_le _⟩ (fun H1 locs hL hpost => ?_)
      obtain ⟨n_bk, hfr⟩ := hpost
      have h_bk := n_bk
      have h_hl := h_hl.kept hfr (fun q h1 h2 h3 => by (try dsimp only at h3); omega)
      have h_hs := h_hs.kept hfr (fun q h1 h2 h3 => by (try dsimp only at h3); omega)
      have h_hu := h_hu.kept hfr (fun q h1 h2 h3 => by (try dsimp only at h3); omega)
      have h_tx := h_tx.kept hfr (fun q h1 h2 h3 => by (try dsimp only at h3); omega)
      have h_tr := h_tr.kept hfr (fun q h1 h2 h3 => by (try dsimp only at h3); omega)
      have h_tb := h_tb.kept hfr (fun q h1 h2 h3 => by (try dsimp only at h3); omega)
      have h_tw := h_tw.kept hfr (fun q h1 h2 h3 => by (try dsimp only at h3); omega)
      have hF := hF.step hfr (fun q h => by (try dsimp only at h ⊢); omega)
      refine lv_aload_n hx hb dX7_enter_75 rfl (lv_at hl 0 rfl) ?_
      refine x_get S hK h_hl 0 (by decide) rfl rfl rfl in7 3 (by decide) (xm 1 rfl) (x := .ref (a + 190)) rfl dX7_enter_76 ?_
      refine x_get S hK h_tr 0 (by decide) rfl rfl rfl in5 5 (by decide) (xm 10 rfl) (x := .int (rv_1 0 5)) rfl dX7_enter_79 ?_
      obtain ⟨q0, qq0⟩ := Prod.mk.inj (Option.some.inj hf)
      obtain ⟨q1, qq1⟩ := Prod.mk.inj (qq0)
      obtain ⟨q2, qq2⟩ := Prod.mk.inj (qq1)
      obtain ⟨q3, qq3⟩ := Prod.mk.inj (qq2)
      obtain ⟨q4, qq4⟩ := Prod.mk.inj (qq3)
      obtain ⟨q5, qq5⟩ := Prod.mk.inj (qq4)
      obtain ⟨q6, qq6⟩ := Prod.mk.inj (qq5)
      obtain ⟨q7, qq7⟩ := Prod.mk.inj (qq6)
      have q8 := qq7
      subst r0
      subst dv'
      subst v'
      subst hv'
      subst kv'
      subst tv'
      subst rv'
      subst vt'
      subst fv'
      subst hQ
      refine x_iret (post := (fun H H1 => PX G a 1 (hlE a) dv_13 H1 ∧ PX G (a + 1) 37 (bkE G (a + 1)) v_18 H1 ∧ PX G (a + 38) 2 (hsE G (a + 38)) hv_15 H1 ∧ HU G (a + 38) kv_16 H1 ∧ PX G (a + 188) 2 (txE G (a + 188)) tv_4 H1 ∧ PX G (a + 190) 1 (trE (a + 190)) rv_1 H1 ∧ PX G (a + 190 + 1) 37 (bkE G (a + 190 + 1)) vt_2 H1 ∧ PX G (a + 190 + 38) 1 wsE fv_3 H1 ∧ XF (fun q => (a ≤ q ∧ q < a + 1) ∨ ((a + 1) ≤ q ∧ q < (a + 1) + 37) ∨ ((a + 38) ≤ q ∧ q < (a + 38) + 2) ∨ ((a + 38) + 2 ≤ q ∧ q < (a + 38) + 150) ∨ ((a + 188) ≤ q ∧ q < (a + 188) + 2) ∨ ((a + 190) ≤ q ∧ q < (a + 190) + 1) ∨ ((a + 190 + 1) ≤ q ∧ q < (a + 190 + 1) + 37) ∨ ((a + 190 + 38) ≤ q ∧ q < (a + 190 + 38) + 1)) H H1)) S hr hlocks rfl ?_ hL dX7_enter_82
      exact ⟨h_hl, h_bk, h_hs, h_hu, h_tx, h_tr, h_tb, h_tw, hF⟩
    · have hf := (if_neg c_14).symm.trans hf
      refine lv_ldc (v := (-2000000002)) hx hb hown (hts _ (xm 7 rfl)) dX7_enter_47 ?_
      obtain ⟨q0, qq0⟩ := Prod.mk.inj (Option.some.inj hf)
      obtain ⟨q1, qq1⟩ := Prod.mk.inj (qq0)
      obtain ⟨q2, qq2⟩ := Prod.mk.inj (qq1)
      obtain ⟨q3, qq3⟩ := Prod.mk.inj (qq2)
      obtain ⟨q4, qq4⟩ := Prod.mk.inj (qq3)
      obtain ⟨q5, qq5⟩ := Prod.mk.inj (qq4)
      obtain ⟨q6, qq6⟩ := Prod.mk.inj (qq5)
      obtain ⟨q7, qq7⟩ := Prod.mk.inj (qq6)
      have q8 := qq7
      subst r0
      subst dv'
      subst v'
      subst hv'
      subst kv'
      subst tv'
      subst rv'
      subst vt'
      subst fv'
      subst hQ
      refine x_iret (post := (fun H H1 => PX G a 1 (hlE a) dv_13 H1 ∧ PX G (a + 1) 37 (bkE G (a + 1)) v H1 ∧ PX G (a + 38) 2 (hsE G (a + 38)) hv H1 ∧ HU G (a + 38) kv H1 ∧ PX G (a + 188) 2 (txE G (a + 188)) tv_4 H1 ∧ PX G (a + 190) 1 (trE (a + 190)) rv_1 H1 ∧ PX G (a + 190 + 1) 37 (bkE G (a + 190 + 1)) vt_2 H1 ∧ PX G (a + 190 + 38) 1 wsE fv_3 H1 ∧ XF (fun q => (a ≤ q ∧ q < a + 1) ∨ ((a + 1) ≤ q ∧ q < (a + 1) + 37) ∨ ((a + 38) ≤ q ∧ q < (a + 38) + 2) ∨ ((a + 38) + 2 ≤ q ∧ q < (a + 38) + 150) ∨ ((a + 188) ≤ q ∧ q < (a + 188) + 2) ∨ ((a + 190) ≤ q ∧ q < (a + 190) + 1) ∨ ((a + 190 + 1) ≤ q ∧ q < (a + 190 + 1) + 37) ∨ ((a + 190 + 38) ≤ q ∧ q < (a + 190 + 38) + 1)) H H1)) S hr hlocks rfl ?_ hL dX7_enter_49
      exact ⟨h_hl, h_bk, h_hs, h_hu, h_tx, h_tr, h_tb, h_tw, hF⟩
set_option maxRecDepth 100000 in
set_option maxHeartbeats 4000000 in
theorem c_X7_fault (l : Launch) (G : xG) (z : Nat) (a : Nat) (dv : xV) (v : xV) (p1 : Int32) (p2 : Int32) (p3 : Int32) (r0 : Int32)  (hf : f_X7_fault dv v p1 p2 p3 = some r0) : xM l yX7_fault wsX7_fault 1 22 G z [.ref a, .int p1, .int p2, .int p3] (fun H => PX G a 1 (hlE a) dv H ∧ PX G (a + 1) 37 (bkE G (a + 1)) v H) (some (.int r0)) (fun H H1 => H1 = H) := by
  refine xM.of (cc := cX7_fault) (maxL := 5) (ret := (some .int)) (by decide +kernel) rfl (Nat.le_of_ble_eq_true rfl) ?_
  intro p e s m args below meth c ls Q hQ S hr hlocks hK hP hl
  obtain ⟨hx, hb, hml, hown, hts⟩ := id S
  obtain ⟨h_hl, h_bk⟩ := hP
  have hL : ∀ q ∈ ([] : List Loc), z ≤ q.base := fun q h => absurd h List.not_mem_nil
  have hl : lv_has ls 5 [(0, .ref a), (1, .int p1), (2, .int p2), (3, .int p3)] := hl
  have in7 : ∀ w ∈ u_ws RX7 TX7 6, w ∈ wsX7_fault := fun _ h => List.mem_cons_of_mem _ (List.mem_append_left _ (List.mem_append_left _ (List.mem_append_right _ h)))
  unfold f_X7_fault at hf
  refine lv_aload_n hx hb dX7_fault_0 rfl (lv_at hl 0 rfl) ?_
  refine x_get S hK h_hl 0 (by decide) rfl rfl rfl in7 0 (by decide) (xm 1 rfl) (x := .ref (a + 1)) rfl dX7_fault_1 ?_
  refine lv_iload_n hx hb dX7_fault_4 rfl (lv_at hl 1 rfl) ?_
  obtain ⟨o_1, e_2, hf⟩ := xb_some hf
  refine x_callVi (As := [.int p1]) (rest := []) S hK (c_X0_hireAt l G z (a + 1) v p1 o_1 e_2) gX7_fault_X0_hireAt rfl 1 (by decide +kernel) rfl ⟨Nat.le_of_ble_eq_true rfl, Nat.le_of_ble_eq_true rfl⟩ h_bk 0 (by decide) rfl rfl rfl h_bk hl.1 rfl (Nat.le_of_ble_eq_true rfl) dX7_fault_5 hL ⟨Nat.zero_le _, Nat.zero_le _⟩ (fun H1 locs hL hpost => ?_)
  subst hpost
  obtain _ | i_3 := o_1
  · have hf := (xo_n _ _).symm.trans hf
    show W _ _ _ _ _ _ _ _ _ _ _ _ _ _ _ (F0 _ _ _ (.null :: _))
    refine lv_astoreN (lv' := [(4, .null), (0, .ref a), (1, .int p1), (2, .int p2), (3, .int p3)]) hx hb dX7_fault_8 hl (by decide) rfl (fun ls hl => ?_)
    refine lv_aloadN hx hb dX7_fault_10 (lv_at hl 0 rfl) ?_
    refine lv_ifnullN (tgt := 28) hx hb dX7_fault_12 (by decide) ?_
    refine lv_ldc (v := (-2000000001)) hx hb hown (hts _ (xm 2 rfl)) dX7_fault_28 ?_
    have q0 := Option.some.inj hf
    subst r0
    subst hQ
    refine x_iret (post := (fun H H1 => H1 = H)) S hr hlocks rfl ?_ hL dX7_fault_30
    exact rfl
  · have hf := (xo_s _ _ _).symm.trans hf
    obtain ⟨hi_i_3, hf⟩ := xg_some hf
    show W _ _ _ _ _ _ _ _ _ _ _ _ _ _ _ (F0 _ _ _ (.ref ((a + 1) + (6 + 2 * i_3)) :: _))
    refine lv_astore (lv' := [(4, .ref ((a + 1) + (6 + 2 * i_3))), (0, .ref a), (1, .int p1), (2, .int p2), (3, .int p3)]) hx hb dX7_fault_8 hl (by decide) rfl (fun ls hl => ?_)
    refine lv_aload hx hb dX7_fault_10 (lv_at hl 0 rfl) ?_
    refine lv_ifnull hx hb dX7_fault_12 ?_
    refine lv_iload_n hx hb dX7_fault_15 rfl (lv_at hl 3 rfl) ?_
    refine lv_if_lt (tgt := 28) hx hb dX7_fault_16 (by decide) (fun c_4 => ?_) (fun c_4 => ?_)
    · have hf := (if_pos c_4).symm.trans hf
      refine lv_ldc (v := (-2000000001)) hx hb hown (hts _ (xm 2 rfl)) dX7_fault_28 ?_
      have q0 := Option.some.inj hf
      subst r0
      subst hQ
      refine x_iret (post := (fun H H1 => H1 = H)) S hr hlocks rfl ?_ hL dX7_fault_30
      exact rfl
    · have hf := (if_neg c_4).symm.trans hf
      refine lv_iload_n hx hb dX7_fault_19 rfl (lv_at hl 4 rfl) ?_
      refine lv_if_lt (tgt := 28) hx hb dX7_fault_20 (by decide) (fun c_5 => ?_) (fun c_5 => ?_)
      · have hf := (if_pos c_5).symm.trans hf
        refine lv_ldc (v := (-2000000001)) hx hb hown (hts _ (xm 2 rfl)) dX7_fault_28 ?_
        have q0 := Option.some.inj hf
        subst r0
        subst hQ
        refine x_iret (post := (fun H H1 => H1 = H)) S hr hlocks rfl ?_ hL dX7_fault_30
        exact rfl
      · have hf := (if_neg c_5).symm.trans hf
        refine lv_iload_n hx hb dX7_fault_23 rfl (lv_at hl 4 rfl) ?_
        refine lv_iconst (v := 4) hx hb dX7_fault_24 (by decide) ?_
        refine lv_icmp_lt (tgt := 31) hx hb dX7_fault_25 (by decide) (fun c_6 => ?_) (fun c_6 => ?_)
        · have hf := (if_pos c_6).symm.trans hf
          refine lv_aload hx hb dX7_fault_31 (lv_at hl 0 rfl) ?_
          refine lv_iload_n hx hb dX7_fault_33 rfl (lv_at hl 3 rfl) ?_
          refine lv_iload_n hx hb dX7_fault_34 rfl (lv_at hl 4 rfl) ?_
          obtain ⟨r_7, e_8, hf⟩ := xb_some hf
          refine x_callVi (As := [.int p2, .int p3]) (rest := []) S hK (c_X1_faultProperty l G z (a + 1) v i_3 p2 p3 r_7 hi_i_3 e_8) gX7_fault_X1_faultProperty rfl 2 (by decide +kernel) rfl ⟨Nat.le_of_ble_eq_true rfl, Nat.le_of_ble_eq_true rfl⟩ h_bk (6 + 2 * i_3) (by omega) rfl (bkE_hire G (a + 1) i_3 hi_i_3 _) rfl h_bk hl.1 rfl (Nat.le_of_ble_eq_true rfl) dX7_fault_35 hL ⟨Nat.zero_le _, Nat.zero_le _⟩ (fun H1 locs hL hpost => ?_)
          subst hpost
          have q0 := Option.some.inj hf
          subst r0
          subst hQ
          refine x_iret (post := (fun H H1 => H1 = H)) S hr hlocks rfl ?_ hL dX7_fault_38
          exact rfl
        · have hf := (if_neg c_6).symm.trans hf
          refine lv_ldc (v := (-2000000001)) hx hb hown (hts _ (xm 2 rfl)) dX7_fault_28 ?_
          have q0 := Option.some.inj hf
          subst r0
          subst hQ
          refine x_iret (post := (fun H H1 => H1 = H)) S hr hlocks rfl ?_ hL dX7_fault_30
          exact rfl
set_option maxRecDepth 100000 in
set_option maxHeartbeats 4000000 in
theorem c_X7_firstFree (l : Launch) (G : xG) (z : Nat) (a : Nat) (dv : xV) (v : xV) (p1 : Int32) (p2 : Int32) (p3 : Int32) (p4 : Int32) (r0 : Int32)  (hf : f_X7_firstFree dv v p1 p2 p3 p4 = some r0) : xM l yX7_firstFree wsX7_firstFree 3 93 G z [.ref a, .int p1, .int p2, .int p3, .int p4] (fun H => PX G a 1 (hlE a) dv H ∧ PX G (a + 1) 37 (bkE G (a + 1)) v H) (some (.int r0)) (fun H H1 => H1 = H) := by
  refine xM.of (cc := cX7_firstFree) (maxL := 8) (ret := (some .int)) (by decide +kernel) rfl (Nat.le_of_ble_eq_true rfl) ?_
  intro p e s m args below meth c ls Q hQ S hr hlocks hK hP hl
  obtain ⟨hx, hb, hml, hown, hts⟩ := id S
  obtain ⟨h_hl, h_bk⟩ := hP
  have hL : ∀ q ∈ ([] : List Loc), z ≤ q.base := fun q h => absurd h List.not_mem_nil
  have hl : lv_has ls 8 [(0, .ref a), (1, .int p1), (2, .int p2), (3, .int p3), (4, .int p4)] := hl
  have in0 : ∀ w ∈ u_ws RX0 TX0 9, w ∈ wsX7_firstFree := fun _ h => List.mem_cons_of_mem _ (List.mem_append_left _ (List.mem_append_right _ h))
  have in7 : ∀ w ∈ u_ws RX7 TX7 6, w ∈ wsX7_firstFree := fun _ h => List.mem_cons_of_mem _ (List.mem_append_left _ (List.mem_append_left _ (List.mem_append_right _ h)))
  unfold f_X7_firstFree at hf
  refine lv_aload_n hx hb dX7_firstFree_0 rfl (lv_at hl 0 rfl) ?_
  refine x_get S hK h_hl 0 (by decide) rfl rfl rfl in7 0 (by decide) (xm 1 rfl) (x := .ref (a + 1)) rfl dX7_firstFree_1 ?_
  refine lv_iload_n hx hb dX7_firstFree_4 rfl (lv_at hl 1 rfl) ?_
  obtain ⟨r_1, e_2, hf⟩ := xb_some hf
  refine x_callVi (As := [.int p1]) (rest := []) S hK (c_X0_isHirer l G z (a + 1) v p1 r_1 e_2) gX7_firstFree_X0_isHirer rfl 1 (by decide +kernel) rfl ⟨Nat.le_of_ble_eq_true rfl, Nat.le_of_ble_eq_true rfl⟩ h_bk 0 (by decide) rfl rfl rfl h_bk hl.1 rfl (Nat.le_of_ble_eq_true rfl) dX7_firstFree_5 hL ⟨Nat.zero_le _, Nat.zero_le _⟩ (fun H1 locs hL hpost => ?_)
  subst hpost
  refine lv_if_eq (tgt := 42) hx hb dX7_firstFree_8 (by decide) (fun c_3 => ?_) (fun c_3 => ?_)
  · have hf := (if_pos c_3).symm.trans hf
    refine lv_ldc (v := (-2000000001)) hx hb hown (hts _ (xm 2 rfl)) dX7_firstFree_42 ?_
    have q0 := Option.some.inj hf
    subst r0
    subst hQ
    refine x_iret (post := (fun H H1 => H1 = H)) S hr hlocks rfl ?_ hL dX7_firstFree_44
    exact rfl
  · have hf := (if_neg c_3).symm.trans hf
    refine lv_iload_n hx hb dX7_firstFree_11 rfl (lv_at hl 2 rfl) ?_
    obtain ⟨r_4, e_5, hf⟩ := xb_some hf
    refine x_callTi (As := [.int p2]) (rest := []) S hK (c_X7_areRooms l G z p2 r_4 e_5) gX7_firstFree_X7_areRooms rfl 1 (by decide +kernel) rfl ⟨Nat.le_of_ble_eq_true rfl, Nat.le_of_ble_eq_true rfl⟩ rfl hl.1 rfl (Nat.le_of_ble_eq_true rfl) dX7_firstFree_12 hL ⟨Nat.zero_le _, Nat.zero_le _⟩ (fun H1 locs hL hpost => ?_)
    subst hpost
    refine lv_if_eq (tgt := 42) hx hb dX7_firstFree_15 (by decide) (fun c_6 => ?_) (fun c_6 => ?_)
    · have hf := (if_pos c_6).symm.trans hf
      refine lv_ldc (v := (-2000000001)) hx hb hown (hts _ (xm 2 rfl)) dX7_firstFree_42 ?_
      have q0 := Option.some.inj hf
      subst r0
      subst hQ
      refine x_iret (post := (fun H H1 => H1 = H)) S hr hlocks rfl ?_ hL dX7_firstFree_44
      exact rfl
    · have hf := (if_neg c_6).symm.trans hf
      refine lv_iload_n hx hb dX7_firstFree_18 rfl (lv_at hl 3 rfl) ?_
      refine lv_if_lt (tgt := 42) hx hb dX7_firstFree_19 (by decide) (fun c_7 => ?_) (fun c_7 => ?_)
      · have hf := (if_pos c_7).symm.trans hf
        refine lv_ldc (v := (-2000000001)) hx hb hown (hts _ (xm 2 rfl)) dX7_firstFree_42 ?_
        have q0 := Option.some.inj hf
        subst r0
        subst hQ
        refine x_iret (post := (fun H H1 => H1 = H)) S hr hlocks rfl ?_ hL dX7_firstFree_44
        exact rfl
      · have hf := (if_neg c_7).symm.trans hf
        refine lv_iload_n hx hb dX7_firstFree_22 rfl (lv_at hl 3 rfl) ?_
        refine lv_sipush (v := 364) hx hb dX7_firstFree_23 (by decide) ?_
        refine lv_icmp_gt (tgt := 42) hx hb dX7_firstFree_26 (by decide) (fun c_8 => ?_) (fun c_8 => ?_)
        · have hf := (if_pos c_8).symm.trans hf
          refine lv_ldc (v := (-2000000001)) hx hb hown (hts _ (xm 2 rfl)) dX7_firstFree_42 ?_
          have q0 := Option.some.inj hf
          subst r0
          subst hQ
          refine x_iret (post := (fun H H1 => H1 = H)) S hr hlocks rfl ?_ hL dX7_firstFree_44
          exact rfl
        · have hf := (if_neg c_8).symm.trans hf
          refine lv_iload hx hb dX7_firstFree_29 (lv_at hl 4 rfl) ?_
          refine lv_iconst (v := 1) hx hb dX7_firstFree_31 (by decide) ?_
          refine lv_icmp_lt (tgt := 42) hx hb dX7_firstFree_32 (by decide) (fun c_9 => ?_) (fun c_9 => ?_)
          · have hf := (if_pos c_9).symm.trans hf
            refine lv_ldc (v := (-2000000001)) hx hb hown (hts _ (xm 2 rfl)) dX7_firstFree_42 ?_
            have q0 := Option.some.inj hf
            subst r0
            subst hQ
            refine x_iret (post := (fun H H1 => H1 = H)) S hr hlocks rfl ?_ hL dX7_firstFree_44
            exact rfl
          · have hf := (if_neg c_9).symm.trans hf
            refine lv_iload hx hb dX7_firstFree_35 (lv_at hl 4 rfl) ?_
            refine lv_bipush (v := 15) hx hb dX7_firstFree_37 (by decide) ?_
            refine lv_icmp_le (tgt := 45) hx hb dX7_firstFree_39 (by decide) (fun c_10 => ?_) (fun c_10 => ?_)
            · have hf := (if_pos c_10).symm.trans hf
              refine lv_iload_n hx hb dX7_firstFree_45 rfl (lv_at hl 3 rfl) ?_
              refine lv_aload_n hx hb dX7_firstFree_46 rfl (lv_at hl 0 rfl) ?_
              refine x_get S hK h_hl 0 (by decide) rfl rfl rfl in7 0 (by decide) (xm 1 rfl) (x := .ref (a + 1)) rfl dX7_firstFree_47 ?_
              refine x_get S hK h_bk 0 (by decide) rfl rfl rfl in0 0 (by decide) (xm 3 rfl) (x := .int (v 0 0)) rfl dX7_firstFree_50 ?_
              refine x_max S (xm 4 rfl) (xm 5 rfl) (xm 6 rfl) (xm 7 rfl) hl.1 (Nat.le_of_ble_eq_true rfl) (Nat.le_of_ble_eq_true rfl) (Nat.zero_le _) (Nat.zero_le _) dX7_firstFree_53 ?_
              obtain ⟨x_11, ex_11, hf⟩ := xl_some hf
              refine x_top ex_11 ?_
              refine lv_istore (lv' := [(5, .int x_11), (0, .ref a), (1, .int p1), (2, .int p2), (3, .int p3), (4, .int p4)]) hx hb dX7_firstFree_56 hl (by decide) rfl (fun ls hl => ?_)
              have lp_58 : ∀ (K_58 : Int32 → Option Int32), (∀ (x_12 : Int32) (locs : List Loc) (ls : Array Slot), (∀ q ∈ locs, z ≤ q.base) → lv_has ls 8 [] → K_58 x_12 = some r0 → W p l e { frames := 3, cells := 0, slots := 0, locals := 93 } s m args below meth c s.heap locs 0 0 Q (F0 m 139 ls [])) → ∀ (n : Nat) (x_12 : Int32) (locs : List Loc) (ls : Array Slot), (∀ q ∈ locs, z ≤ q.base) → lv_has ls 8 [(0, .ref a), (1, .int p1), (2, .int p2), (4, .int p4), (5, .int x_12)] → L_X7_firstFree_58 K_58 v p1 p2 p4 n x_12 = some r0 → W p l e { frames := 3, cells := 0, slots := 0, locals := 93 } s m args below meth c s.heap locs 0 0 Q (F0 m 58 ls []) := by
                intro K_58 hK_58 n
                induction n with
                | zero =>
                  intro x_12 locs ls hL hl hf
                  cases hf
                | succ n ih_58 =>
                  intro x_12 locs ls hL hl hf
                  unfold L_X7_firstFree_58 at hf
                  refine lv_iload hx hb dX7_firstFree_58 (lv_at hl 4 rfl) ?_
                  refine lv_sipush (v := 364) hx hb dX7_firstFree_60 (by decide) ?_
                  refine lv_icmp_gt (tgt := 139) hx hb dX7_firstFree_63 (by decide) (fun c_13 => ?_) (fun c_13 => ?_)
                  · have hf := (if_pos c_13).symm.trans hf
                    exact hK_58 x_12 _ _ hL (lv_sub hl [] rfl) hf
                  · have hf := (if_neg c_13).symm.trans hf
                    refine lv_aload_n hx hb dX7_firstFree_66 rfl (lv_at hl 0 rfl) ?_
                    refine x_get S hK h_hl 0 (by decide) rfl rfl rfl in7 0 (by decide) (xm 1 rfl) (x := .ref (a + 1)) rfl dX7_firstFree_67 ?_
                    refine lv_iload hx hb dX7_firstFree_70 (lv_at hl 4 rfl) ?_
                    refine lv_iload_n hx hb dX7_firstFree_72 rfl (lv_at hl 2 rfl) ?_
                    refine lv_iload_n hx hb dX7_firstFree_73 rfl (lv_at hl 1 rfl) ?_
                    refine lv_aload_n hx hb dX7_firstFree_74 rfl (lv_at hl 0 rfl) ?_
                    refine x_get S hK h_hl 0 (by decide) rfl rfl rfl in7 0 (by decide) (xm 1 rfl) (x := .ref (a + 1)) rfl dX7_firstFree_75 ?_
                    refine x_get S hK h_bk 0 (by decide) rfl rfl rfl in0 3 (by decide) (xm 8 rfl) (x := .ref ((a + 1) + 1)) rfl dX7_firstFree_78 ?_
                    refine lv_iconst (v := 4) hx hb dX7_firstFree_81 (by decide) ?_
                    refine x_iald S hK h_bk 1 (by decide) rfl rfl 4 (by decide) (by decide) dX7_firstFree_82 ?_
                    obtain ⟨r_14, e_15, hf⟩ := xb_some hf
                    refine x_callVi (As := [.int x_12, .int p2, .int p1, .int (v 1 4)]) (rest := []) S hK (c_X0_blockedHours l G z (a + 1) v x_12 p2 p1 (v 1 4) r_14 e_15) gX7_firstFree_X0_blockedHours rfl 4 (by decide +kernel) rfl ⟨Nat.le_of_ble_eq_true rfl, Nat.le_of_ble_eq_true rfl⟩ h_bk 0 (by decide) rfl rfl rfl h_bk hl.1 rfl (Nat.le_of_ble_eq_true rfl) dX7_firstFree_83 hL ⟨Nat.zero_le _, Nat.zero_le _⟩ (fun H1 locs hL hpost => ?_)
                    subst hpost
                    refine lv_istore (lv' := [(6, .int r_14), (0, .ref a), (1, .int p1), (2, .int p2), (4, .int p4), (5, .int x_12)]) hx hb dX7_firstFree_86 hl (by decide) rfl (fun ls hl => ?_)
                    refine lv_bipush (v := 8) hx hb dX7_firstFree_88 (by decide) ?_
                    refine lv_istore (lv' := [(7, .int 8), (6, .int r_14), (0, .ref a), (1, .int p1), (2, .int p2), (4, .int p4), (5, .int x_12)]) hx hb dX7_firstFree_90 hl (by decide) rfl (fun ls hl => ?_)
                    have lp_92 : ∀ (K_92 : Int32 → Option Int32), (∀ (x_16 : Int32) (locs : List Loc) (ls : Array Slot), (∀ q ∈ locs, z ≤ q.base) → lv_has ls 8 [(0, .ref a), (1, .int p1), (2, .int p2), (4, .int p4), (5, .int x_12)] → K_92 x_16 = some r0 → W p l e { frames := 3, cells := 0, slots := 0, locals := 93 } s m args below meth c s.heap locs 0 0 Q (F0 m 133 ls [])) → ∀ (n : Nat) (x_16 : Int32) (locs : List Loc) (ls : Array Slot), (∀ q ∈ locs, z ≤ q.base) → lv_has ls 8 [(0, .ref a), (1, .int p1), (2, .int p2), (4, .int p4), (5, .int x_12), (6, .int r_14), (7, .int x_16)] → L_X7_firstFree_92 K_92 p4 x_12 r_14 n x_16 = some r0 → W p l e { frames := 3, cells := 0, slots := 0, locals := 93 } s m args below meth c s.heap locs 0 0 Q (F0 m 92 ls []) := by
                      intro K_92 hK_92 n
                      induction n with
                      | zero =>
                        intro x_16 locs ls hL hl hf
                        cases hf
                      | succ n ih_92 =>
                        intro x_16 locs ls hL hl hf
                        unfold L_X7_firstFree_92 at hf
                        refine lv_iload hx hb dX7_firstFree_92 (lv_at hl 6 rfl) ?_
                        refine lv_iload hx hb dX7_firstFree_94 (lv_at hl 3 rfl) ?_
                        refine lv_iadd hx hb dX7_firstFree_96 ?_
                        refine lv_bipush (v := 23) hx hb dX7_firstFree_97 (by decide) ?_
                        refine lv_icmp_gt (tgt := 133) hx hb dX7_firstFree_99 (by decide) (fun c_17 => ?_) (fun c_17 => ?_)
                        · have hf := (if_pos c_17).symm.trans hf
                          exact hK_92 x_16 _ _ hL (lv_sub hl [0, 1, 2, 3, 4] rfl) hf
                        · have hf := (if_neg c_17).symm.trans hf
                          refine lv_iload hx hb dX7_firstFree_102 (lv_at hl 5 rfl) ?_
                          refine lv_iload hx hb dX7_firstFree_104 (lv_at hl 6 rfl) ?_
                          refine lv_iload hx hb dX7_firstFree_106 (lv_at hl 6 rfl) ?_
                          refine lv_iload hx hb dX7_firstFree_108 (lv_at hl 3 rfl) ?_
                          refine lv_iadd hx hb dX7_firstFree_110 ?_
                          obtain ⟨r_18, e_19, hf⟩ := xb_some hf
                          refine x_callTi (As := [.int x_16, .int (x_16 + p4)]) (rest := [.int r_14]) S hK (c_X7_hoursMask l G z x_16 (x_16 + p4) r_18 e_19) gX7_firstFree_X7_hoursMask rfl 2 (by decide +kernel) rfl ⟨Nat.le_of_ble_eq_true rfl, Nat.le_of_ble_eq_true rfl⟩ rfl hl.1 rfl (Nat.le_of_ble_eq_true rfl) dX7_firstFree_111 hL ⟨Nat.zero_le _, Nat.zero_le _⟩ (fun H1 locs hL hpost => ?_)
                          subst hpost
                          refine lv_iand hx hb dX7_firstFree_114 ?_
                          refine lv_if_ne (tgt := 127) hx hb dX7_firstFree_115 (by decide) (fun c_20 => ?_) (fun c_20 => ?_)
                          · have hf := (if_neg c_20).symm.trans hf
                            obtain ⟨x_21, ex_21, hf⟩ := xl_some hf
                            refine lv_iinc (v := x_21) (lv' := [(7, .int x_21), (0, .ref a), (1, .int p1), (2, .int p2), (4, .int p4), (5, .int x_12), (6, .int r_14)]) hx hb dX7_firstFree_127 hl (k := 6) rfl (by rw [ex_21]; rfl) (by decide) rfl (fun ls hl => ?_)
                            refine lv_goto (tgt := 92) hx hb dX7_firstFree_130 (by decide) ?_
                            exact ih_92 x_21 _ _ hL (lv_sub hl [1, 2, 3, 4, 5, 6, 0] rfl) hf
                          · have hf := (if_pos c_20).symm.trans hf
                            refine lv_bipush (v := 100) hx hb dX7_firstFree_118 (by decide) ?_
                            refine lv_iload hx hb dX7_firstFree_120 (lv_at hl 4 rfl) ?_
                            refine lv_imul hx hb dX7_firstFree_122 ?_
                            refine lv_iload hx hb dX7_firstFree_123 (lv_at hl 6 rfl) ?_
                            refine lv_iadd hx hb dX7_firstFree_125 ?_
                            have q0 := Option.some.inj hf
                            subst r0
                            subst hQ
                            refine x_iret (post := (fun H H1 => H1 = H)) S hr hlocks rfl ?_ hL dX7_firstFree_126
                            exact rfl
                    refine lp_92 _ (fun x_22 locs ls hL hl hf => ?_) 100000 8 _ _ hL (lv_sub hl [2, 3, 4, 5, 6, 1, 0] rfl) hf
                    obtain ⟨x_23, ex_23, hf⟩ := xl_some hf
                    refine lv_iinc (v := x_23) (lv' := [(5, .int x_23), (0, .ref a), (1, .int p1), (2, .int p2), (4, .int p4)]) hx hb dX7_firstFree_133 hl (k := 4) rfl (by rw [ex_23]; rfl) (by decide) rfl (fun ls hl => ?_)
                    refine lv_goto (tgt := 58) hx hb dX7_firstFree_136 (by decide) ?_
                    exact ih_58 x_23 _ _ hL (lv_sub hl [1, 2, 3, 4, 0] rfl) hf
              refine lp_58 _ (fun x_24 locs ls hL hl hf => ?_) 100000 x_11 _ _ hL (lv_sub hl [1, 2, 3, 5, 0] rfl) hf
              refine lv_ldc (v := (-2000000004)) hx hb hown (hts _ (xm 9 rfl)) dX7_firstFree_139 ?_
              have q0 := Option.some.inj hf
              subst r0
              subst hQ
              refine x_iret (post := (fun H H1 => H1 = H)) S hr hlocks rfl ?_ hL dX7_firstFree_141
              exact rfl
            · have hf := (if_neg c_10).symm.trans hf
              refine lv_ldc (v := (-2000000001)) hx hb hown (hts _ (xm 2 rfl)) dX7_firstFree_42 ?_
              have q0 := Option.some.inj hf
              subst r0
              subst hQ
              refine x_iret (post := (fun H H1 => H1 = H)) S hr hlocks rfl ?_ hL dX7_firstFree_44
              exact rfl
set_option maxRecDepth 100000 in
set_option maxHeartbeats 4000000 in
theorem c_X7_hire (l : Launch) (G : xG) (z : Nat) (a : Nat) (dv : xV) (v : xV) (hv : xV) (kv : Nat → xV) (wv : xV) (p1 : Int32) (p2 : Int32) (p3 : Int32) (p4 : Int32) (p5 : Int32) (p6 : Int32) (r0 : Int32) (dv' : xV) (v' : xV) (hv' : xV) (kv' : Nat → xV) (wv' : xV) (hz_hl : z ≤ a) (hz_bk : z ≤ (a + 1)) (hz_hs : z ≤ (a + 38)) (hz_ws : z ≤ (a + 229)) (hf : f_X7_hire dv v hv kv wv p1 p2 p3 p4 p5 p6 = some (r0, dv', v', hv', kv', wv')) : xM l yX7_hire wsX7_hire 4 111 G z [.ref a, .int p1, .int p2, .int p3, .int p4, .int p5, .int p6] (fun H => PX G a 1 (hlE a) dv H ∧ PX G (a + 1) 37 (bkE G (a + 1)) v H ∧ PX G (a + 38) 2 (hsE G (a + 38)) hv H ∧ HU G (a + 38) kv H ∧ PX G (a + 229) 1 wsE wv H) (some (.int r0)) (fun H H1 => PX G a 1 (hlE a) dv' H1 ∧ PX G (a + 1) 37 (bkE G (a + 1)) v' H1 ∧ PX G (a + 38) 2 (hsE G (a + 38)) hv' H1 ∧ HU G (a + 38) kv' H1 ∧ PX G (a + 229) 1 wsE wv' H1 ∧ XF (fun q => (a ≤ q ∧ q < a + 1) ∨ ((a + 1) ≤ q ∧ q < (a + 1) + 37) ∨ ((a + 38) ≤ q ∧ q < (a + 38) + 2) ∨ ((a + 38) + 2 ≤ q ∧ q < (a + 38) + 150) ∨ ((a + 229) ≤ q ∧ q < (a + 229) + 1)) H H1) := by
  refine xM.of (cc := cX7_hire) (maxL := 8) (ret := (some .int)) (by decide +kernel) rfl (Nat.le_of_ble_eq_true rfl) ?_
  intro p e s m args below meth c ls Q hQ S hr hlocks hK hP hl
  obtain ⟨hx, hb, hml, hown, hts⟩ := id S
  obtain ⟨h_hl, h_bk, h_hs, h_hu, h_ws⟩ := hP
  have hL : ∀ q ∈ ([] : List Loc), z ≤ q.base := fun q h => absurd h List.not_mem_nil
  have hF : XF (fun q => (a ≤ q ∧ q < a + 1) ∨ ((a + 1) ≤ q ∧ q < (a + 1) + 37) ∨ ((a + 38) ≤ q ∧ q < (a + 38) + 2) ∨ ((a + 38) + 2 ≤ q ∧ q < (a + 38) + 150) ∨ ((a + 229) ≤ q ∧ q < (a + 229) + 1)) s.heap s.heap := XF.rf
  have hl : lv_has ls 8 [(0, .ref a), (1, .int p1), (2, .int p2), (3, .int p3), (4, .int p4), (5, .int p5), (6, .int p6)] := hl
  have in0 : ∀ w ∈ u_ws RX0 TX0 9, w ∈ wsX7_hire := fun _ h => List.mem_cons_of_mem _ (List.mem_append_left _ (List.mem_append_left _ (List.mem_append_left _ (List.mem_append_right _ h))))
  have in6 : ∀ w ∈ u_ws RX6 TX6 7, w ∈ wsX7_hire := fun _ h => List.mem_cons_of_mem _ (List.mem_append_left _ (List.mem_append_left _ (List.mem_append_left _ (List.mem_append_left _ (List.mem_append_right _ h)))))
  have in7 : ∀ w ∈ u_ws RX7 TX7 6, w ∈ wsX7_hire := fun _ h => List.mem_cons_of_mem _ (List.mem_append_left _ (List.mem_append_left _ (List.mem_append_left _ (List.mem_append_left _ (List.mem_append_left _ (List.mem_append_right _ h))))))
  unfold f_X7_hire at hf
  refine lv_aload_n hx hb dX7_hire_0 rfl (lv_at hl 0 rfl) ?_
  refine x_get S hK h_hl 0 (by decide) rfl rfl rfl in7 4 (by decide) (xm 1 rfl) (x := .ref (a + 229)) rfl dX7_hire_1 ?_
  refine lv_iload_n hx hb dX7_hire_4 rfl (lv_at hl 1 rfl) ?_
  obtain ⟨wv_1, ewv_1, hf⟩ := xl_some hf
  refine x_put S hK h_ws hz_ws hL 0 (by decide) rfl rfl rfl in6 tyX6 tyX6_ok nmX6 0 (by decide) (xm 2 rfl) rfl (vp_nar_int _) rfl (Nat.le_of_ble_eq_true rfl) rfl ewv_1 dX7_hire_5 (fun H1 locs hL h_ws hfr => ?_)
  have h_hl := h_hl.kept hfr (fun q h1 h2 h3 => by (try dsimp only at h3); omega)
  have h_bk := h_bk.kept hfr (fun q h1 h2 h3 => by (try dsimp only at h3); omega)
  have h_hs := h_hs.kept hfr (fun q h1 h2 h3 => by (try dsimp only at h3); omega)
  have h_hu := h_hu.kept hfr (fun q h1 h2 h3 => by (try dsimp only at h3); omega)
  have hF := hF.step hfr (fun q h => by (try dsimp only at h ⊢); omega)
  refine lv_aload_n hx hb dX7_hire_8 rfl (lv_at hl 0 rfl) ?_
  refine x_get S hK h_hl 0 (by decide) rfl rfl rfl in7 4 (by decide) (xm 1 rfl) (x := .ref (a + 229)) rfl dX7_hire_9 ?_
  refine lv_iload_n hx hb dX7_hire_12 rfl (lv_at hl 2 rfl) ?_
  obtain ⟨wv_2, ewv_2, hf⟩ := xl_some hf
  refine x_put S hK h_ws hz_ws hL 0 (by decide) rfl rfl rfl in6 tyX6 tyX6_ok nmX6 1 (by decide) (xm 3 rfl) rfl (vp_nar_int _) rfl (Nat.le_of_ble_eq_true rfl) rfl ewv_2 dX7_hire_13 (fun H1 locs hL h_ws hfr => ?_)
  have h_hl := h_hl.kept hfr (fun q h1 h2 h3 => by (try dsimp only at h3); omega)
  have h_bk := h_bk.kept hfr (fun q h1 h2 h3 => by (try dsimp only at h3); omega)
  have h_hs := h_hs.kept hfr (fun q h1 h2 h3 => by (try dsimp only at h3); omega)
  have h_hu := h_hu.kept hfr (fun q h1 h2 h3 => by (try dsimp only at h3); omega)
  have hF := hF.step hfr (fun q h => by (try dsimp only at h ⊢); omega)
  refine lv_aload_n hx hb dX7_hire_16 rfl (lv_at hl 0 rfl) ?_
  refine x_get S hK h_hl 0 (by decide) rfl rfl rfl in7 4 (by decide) (xm 1 rfl) (x := .ref (a + 229)) rfl dX7_hire_17 ?_
  refine lv_iload hx hb dX7_hire_20 (lv_at hl 4 rfl) ?_
  obtain ⟨wv_3, e_4, hf⟩ := xb_some hf
  refine x_callVv (As := [.int p4]) (rest := []) S hK (c_X6_takeHours l G z (a + 229) wv_2 p4 wv_3 (by omega) e_4) gX7_hire_X6_takeHours rfl 1 (by decide +kernel) rfl ⟨Nat.le_of_ble_eq_true rfl, Nat.le_of_ble_eq_true rfl⟩ h_ws 0 (by decide) rfl rfl rfl h_ws hl.1 rfl (Nat.le_of_ble_eq_true rfl) dX7_hire_22 hL ⟨Nat.zero_le _, Nat.zero_le _⟩ (fun H1 locs hL hpost => ?_)
  obtain ⟨n_ws, hfr⟩ := hpost
  have h_ws := n_ws
  have h_hl := h_hl.kept hfr (fun q h1 h2 h3 => by (try dsimp only at h3); omega)
  have h_bk := h_bk.kept hfr (fun q h1 h2 h3 => by (try dsimp only at h3); omega)
  have h_hs := h_hs.kept hfr (fun q h1 h2 h3 => by (try dsimp only at h3); omega)
  have h_hu := h_hu.kept hfr (fun q h1 h2 h3 => by (try dsimp only at h3); omega)
  have hF := hF.step hfr (fun q h => by (try dsimp only at h ⊢); omega)
  refine lv_aload_n hx hb dX7_hire_25 rfl (lv_at hl 0 rfl) ?_
  refine x_get S hK h_hl 0 (by decide) rfl rfl rfl in7 4 (by decide) (xm 1 rfl) (x := .ref (a + 229)) rfl dX7_hire_26 ?_
  refine lv_iload_n hx hb dX7_hire_29 rfl (lv_at hl 3 rfl) ?_
  refine lv_iload hx hb dX7_hire_30 (lv_at hl 5 rfl) ?_
  refine lv_iload hx hb dX7_hire_32 (lv_at hl 6 rfl) ?_
  obtain ⟨wv_5, e_6, hf⟩ := xb_some hf
  refine x_callVv (As := [.int p3, .int p5, .int p6]) (rest := []) S hK (c_X6_takeSeries l G z (a + 229) wv_3 p3 p5 p6 wv_5 (by omega) e_6) gX7_hire_X6_takeSeries rfl 3 (by decide +kernel) rfl ⟨Nat.le_of_ble_eq_true rfl, Nat.le_of_ble_eq_true rfl⟩ h_ws 0 (by decide) rfl rfl rfl h_ws hl.1 rfl (Nat.le_of_ble_eq_true rfl) dX7_hire_34 hL ⟨Nat.zero_le _, Nat.zero_le _⟩ (fun H1 locs hL hpost => ?_)
  obtain ⟨n_ws, hfr⟩ := hpost
  have h_ws := n_ws
  have h_hl := h_hl.kept hfr (fun q h1 h2 h3 => by (try dsimp only at h3); omega)
  have h_bk := h_bk.kept hfr (fun q h1 h2 h3 => by (try dsimp only at h3); omega)
  have h_hs := h_hs.kept hfr (fun q h1 h2 h3 => by (try dsimp only at h3); omega)
  have h_hu := h_hu.kept hfr (fun q h1 h2 h3 => by (try dsimp only at h3); omega)
  have hF := hF.step hfr (fun q h => by (try dsimp only at h ⊢); omega)
  refine lv_aload_n hx hb dX7_hire_37 rfl (lv_at hl 0 rfl) ?_
  refine x_get S hK h_hl 0 (by decide) rfl rfl rfl in7 0 (by decide) (xm 4 rfl) (x := .ref (a + 1)) rfl dX7_hire_38 ?_
  refine lv_iload_n hx hb dX7_hire_41 rfl (lv_at hl 1 rfl) ?_
  obtain ⟨r_7, e_8, hf⟩ := xb_some hf
  refine x_callVi (As := [.int p1]) (rest := []) S hK (c_X0_isHirer l G z (a + 1) v p1 r_7 e_8) gX7_hire_X0_isHirer rfl 1 (by decide +kernel) rfl ⟨Nat.le_of_ble_eq_true rfl, Nat.le_of_ble_eq_true rfl⟩ h_bk 0 (by decide) rfl rfl rfl h_bk hl.1 rfl (Nat.le_of_ble_eq_true rfl) dX7_hire_42 hL ⟨Nat.zero_le _, Nat.zero_le _⟩ (fun H1 locs hL hpost => ?_)
  subst hpost
  refine lv_if_eq (tgt := 72) hx hb dX7_hire_45 (by decide) (fun c_9 => ?_) (fun c_9 => ?_)
  · have hf := (if_pos c_9).symm.trans hf
    refine lv_ldc (v := (-2000000001)) hx hb hown (hts _ (xm 6 rfl)) dX7_hire_72 ?_
    obtain ⟨q0, qq0⟩ := Prod.mk.inj (Option.some.inj hf)
    obtain ⟨q1, qq1⟩ := Prod.mk.inj (qq0)
    obtain ⟨q2, qq2⟩ := Prod.mk.inj (qq1)
    obtain ⟨q3, qq3⟩ := Prod.mk.inj (qq2)
    obtain ⟨q4, qq4⟩ := Prod.mk.inj (qq3)
    have q5 := qq4
    subst r0
    subst dv'
    subst v'
    subst hv'
    subst kv'
    subst wv'
    subst hQ
    refine x_iret (post := (fun H H1 => PX G a 1 (hlE a) dv H1 ∧ PX G (a + 1) 37 (bkE G (a + 1)) v H1 ∧ PX G (a + 38) 2 (hsE G (a + 38)) hv H1 ∧ HU G (a + 38) kv H1 ∧ PX G (a + 229) 1 wsE wv_5 H1 ∧ XF (fun q => (a ≤ q ∧ q < a + 1) ∨ ((a + 1) ≤ q ∧ q < (a + 1) + 37) ∨ ((a + 38) ≤ q ∧ q < (a + 38) + 2) ∨ ((a + 38) + 2 ≤ q ∧ q < (a + 38) + 150) ∨ ((a + 229) ≤ q ∧ q < (a + 229) + 1)) H H1)) S hr hlocks rfl ?_ hL dX7_hire_74
    exact ⟨h_hl, h_bk, h_hs, h_hu, h_ws, hF⟩
  · have hf := (if_neg c_9).symm.trans hf
    refine lv_iload_n hx hb dX7_hire_48 rfl (lv_at hl 2 rfl) ?_
    obtain ⟨r_10, e_11, hf⟩ := xb_some hf
    refine x_callTi (As := [.int p2]) (rest := []) S hK (c_X7_areRooms l G z p2 r_10 e_11) gX7_hire_X7_areRooms rfl 1 (by decide +kernel) rfl ⟨Nat.le_of_ble_eq_true rfl, Nat.le_of_ble_eq_true rfl⟩ rfl hl.1 rfl (Nat.le_of_ble_eq_true rfl) dX7_hire_49 hL ⟨Nat.zero_le _, Nat.zero_le _⟩ (fun H1 locs hL hpost => ?_)
    subst hpost
    refine lv_if_eq (tgt := 72) hx hb dX7_hire_52 (by decide) (fun c_12 => ?_) (fun c_12 => ?_)
    · have hf := (if_pos c_12).symm.trans hf
      refine lv_ldc (v := (-2000000001)) hx hb hown (hts _ (xm 6 rfl)) dX7_hire_72 ?_
      obtain ⟨q0, qq0⟩ := Prod.mk.inj (Option.some.inj hf)
      obtain ⟨q1, qq1⟩ := Prod.mk.inj (qq0)
      obtain ⟨q2, qq2⟩ := Prod.mk.inj (qq1)
      obtain ⟨q3, qq3⟩ := Prod.mk.inj (qq2)
      obtain ⟨q4, qq4⟩ := Prod.mk.inj (qq3)
      have q5 := qq4
      subst r0
      subst dv'
      subst v'
      subst hv'
      subst kv'
      subst wv'
      subst hQ
      refine x_iret (post := (fun H H1 => PX G a 1 (hlE a) dv H1 ∧ PX G (a + 1) 37 (bkE G (a + 1)) v H1 ∧ PX G (a + 38) 2 (hsE G (a + 38)) hv H1 ∧ HU G (a + 38) kv H1 ∧ PX G (a + 229) 1 wsE wv_5 H1 ∧ XF (fun q => (a ≤ q ∧ q < a + 1) ∨ ((a + 1) ≤ q ∧ q < (a + 1) + 37) ∨ ((a + 38) ≤ q ∧ q < (a + 38) + 2) ∨ ((a + 38) + 2 ≤ q ∧ q < (a + 38) + 150) ∨ ((a + 229) ≤ q ∧ q < (a + 229) + 1)) H H1)) S hr hlocks rfl ?_ hL dX7_hire_74
      exact ⟨h_hl, h_bk, h_hs, h_hu, h_ws, hF⟩
    · have hf := (if_neg c_12).symm.trans hf
      refine lv_aload_n hx hb dX7_hire_55 rfl (lv_at hl 0 rfl) ?_
      refine x_get S hK h_hl 0 (by decide) rfl rfl rfl in7 4 (by decide) (xm 1 rfl) (x := .ref (a + 229)) rfl dX7_hire_56 ?_
      refine lv_aload_n hx hb dX7_hire_59 rfl (lv_at hl 0 rfl) ?_
      refine x_get S hK h_hl 0 (by decide) rfl rfl rfl in7 0 (by decide) (xm 4 rfl) (x := .ref (a + 1)) rfl dX7_hire_60 ?_
      refine x_get S hK h_bk 0 (by decide) rfl rfl rfl in0 0 (by decide) (xm 5 rfl) (x := .int (v 0 0)) rfl dX7_hire_63 ?_
      obtain ⟨r_13, e_14, hf⟩ := xb_some hf
      refine x_callVi (As := [.int (v 0 0)]) (rest := []) S hK (c_X6_isInRange l G z (a + 229) wv_5 (v 0 0) r_13 e_14) gX7_hire_X6_isInRange rfl 1 (by decide +kernel) rfl ⟨Nat.le_of_ble_eq_true rfl, Nat.le_of_ble_eq_true rfl⟩ h_ws 0 (by decide) rfl rfl rfl h_ws hl.1 rfl (Nat.le_of_ble_eq_true rfl) dX7_hire_66 hL ⟨Nat.zero_le _, Nat.zero_le _⟩ (fun H1 locs hL hpost => ?_)
      subst hpost
      refine lv_if_ne (tgt := 75) hx hb dX7_hire_69 (by decide) (fun c_15 => ?_) (fun c_15 => ?_)
      · have hf := (if_neg c_15).symm.trans hf
        refine lv_aload_n hx hb dX7_hire_75 rfl (lv_at hl 0 rfl) ?_
        refine x_get S hK h_hl 0 (by decide) rfl rfl rfl in7 4 (by decide) (xm 1 rfl) (x := .ref (a + 229)) rfl dX7_hire_76 ?_
        obtain ⟨r_16, e_17, hf⟩ := xb_some hf
        refine x_callVi (As := []) (rest := []) S hK (c_X6_lastDay l G z (a + 229) wv_5 r_16 e_17) gX7_hire_X6_lastDay rfl 0 (by decide +kernel) rfl ⟨Nat.le_of_ble_eq_true rfl, Nat.le_of_ble_eq_true rfl⟩ h_ws 0 (by decide) rfl rfl rfl h_ws hl.1 rfl (Nat.le_of_ble_eq_true rfl) dX7_hire_79 hL ⟨Nat.zero_le _, Nat.zero_le _⟩ (fun H1 locs hL hpost => ?_)
        subst hpost
        refine lv_sipush (v := 364) hx hb dX7_hire_82 (by decide) ?_
        refine lv_icmp_le (tgt := 91) hx hb dX7_hire_85 (by decide) (fun c_18 => ?_) (fun c_18 => ?_)
        · have hf := (if_pos c_18).symm.trans hf
          refine lv_aload_n hx hb dX7_hire_91 rfl (lv_at hl 0 rfl) ?_
          refine x_get S hK h_hl 0 (by decide) rfl rfl rfl in7 0 (by decide) (xm 4 rfl) (x := .ref (a + 1)) rfl dX7_hire_92 ?_
          refine lv_aload_n hx hb dX7_hire_95 rfl (lv_at hl 0 rfl) ?_
          refine x_get S hK h_hl 0 (by decide) rfl rfl rfl in7 4 (by decide) (xm 1 rfl) (x := .ref (a + 229)) rfl dX7_hire_96 ?_
          obtain ⟨r_19, e_20, hf⟩ := xb_some hf
          refine x_callVi (As := [.ref (a + 229)]) (rest := []) S hK (c_X0_clashOf l G z (a + 1) (a + 229) v wv_5 r_19 e_20) gX7_hire_X0_clashOf rfl 1 (by decide +kernel) rfl ⟨Nat.le_of_ble_eq_true rfl, Nat.le_of_ble_eq_true rfl⟩ h_bk 0 (by decide) rfl rfl rfl ⟨h_bk, h_ws⟩ hl.1 rfl (Nat.le_of_ble_eq_true rfl) dX7_hire_99 hL ⟨Nat.zero_le _, Nat.zero_le _⟩ (fun H1 locs hL hpost => ?_)
          subst hpost
          refine lv_istore (lv' := [(7, .int r_19), (0, .ref a), (1, .int p1), (2, .int p2), (3, .int p3), (4, .int p4), (5, .int p5), (6, .int p6)]) hx hb dX7_hire_102 hl (by decide) rfl (fun ls hl => ?_)
          refine lv_iload hx hb dX7_hire_104 (lv_at hl 0 rfl) ?_
          refine lv_iconst (v := (-1)) hx hb dX7_hire_106 (by decide) ?_
          refine lv_icmp_eq (tgt := 119) hx hb dX7_hire_107 (by decide) (fun c_21 => ?_) (fun c_21 => ?_)
          · have hf := (if_pos c_21).symm.trans hf
            refine lv_aload_n hx hb dX7_hire_119 rfl (lv_at hl 1 rfl) ?_
            refine x_get S hK h_hl 0 (by decide) rfl rfl rfl in7 0 (by decide) (xm 4 rfl) (x := .ref (a + 1)) rfl dX7_hire_120 ?_
            obtain ⟨r_22, e_23, hf⟩ := xb_some hf
            refine x_callVi (As := []) (rest := []) S hK (c_X0_isFull l G z (a + 1) v r_22 e_23) gX7_hire_X0_isFull rfl 0 (by decide +kernel) rfl ⟨Nat.le_of_ble_eq_true rfl, Nat.le_of_ble_eq_true rfl⟩ h_bk 0 (by decide) rfl rfl rfl h_bk hl.1 rfl (Nat.le_of_ble_eq_true rfl) dX7_hire_123 hL ⟨Nat.zero_le _, Nat.zero_le _⟩ (fun H1 locs hL hpost => ?_)
            subst hpost
            refine lv_if_eq (tgt := 132) hx hb dX7_hire_126 (by decide) (fun c_24 => ?_) (fun c_24 => ?_)
            · have hf := (if_pos c_24).symm.trans hf
              refine lv_aload_n hx hb dX7_hire_132 rfl (lv_at hl 1 rfl) ?_
              refine x_get S hK h_hl 0 (by decide) rfl rfl rfl in7 1 (by decide) (xm 10 rfl) (x := .ref (a + 38)) rfl dX7_hire_133 ?_
              refine lv_aload_n hx hb dX7_hire_136 rfl (lv_at hl 1 rfl) ?_
              refine x_get S hK h_hl 0 (by decide) rfl rfl rfl in7 0 (by decide) (xm 4 rfl) (x := .ref (a + 1)) rfl dX7_hire_137 ?_
              obtain ⟨hv_25, kv_26, e_27, hf⟩ := xb2_some hf
              refine x_callVv (As := [.ref (a + 1)]) (rest := []) S hK (c_X2_save l G z (a + 38) (a + 1) hv kv v hv_25 kv_26 (by omega) (by omega) (by omega) e_27) gX7_hire_X2_save rfl 1 (by decide +kernel) rfl ⟨Nat.le_of_ble_eq_true rfl, Nat.le_of_ble_eq_true rfl⟩ h_hs 0 (by decide) rfl rfl rfl ⟨h_hs, h_hu, h_bk⟩ hl.1 rfl (Nat.le_of_ble_eq_true rfl) dX7_hire_140 hL ⟨Nat.zero_le _, Nat.zero_le _⟩ (fun H1 locs hL hpost => ?_)
              obtain ⟨n_hs, n_hu, hfr⟩ := hpost
              have h_hs := n_hs
              have h_hu := n_hu
              have h_hl := h_hl.kept hfr (fun q h1 h2 h3 => by (try dsimp only at h3); omega)
              have h_bk := h_bk.kept hfr (fun q h1 h2 h3 => by (try dsimp only at h3); omega)
              have h_ws := h_ws.kept hfr (fun q h1 h2 h3 => by (try dsimp only at h3); omega)
              have hF := hF.step hfr (fun q h => by (try dsimp only at h ⊢); omega)
              refine lv_aload_n hx hb dX7_hire_143 rfl (lv_at hl 1 rfl) ?_
              refine x_get S hK h_hl 0 (by decide) rfl rfl rfl in7 0 (by decide) (xm 4 rfl) (x := .ref (a + 1)) rfl dX7_hire_144 ?_
              refine lv_aload_n hx hb dX7_hire_147 rfl (lv_at hl 1 rfl) ?_
              refine x_get S hK h_hl 0 (by decide) rfl rfl rfl in7 4 (by decide) (xm 1 rfl) (x := .ref (a + 229)) rfl dX7_hire_148 ?_
              obtain ⟨r_28, v_29, e_30, hf⟩ := xb2_some hf
              refine x_callVi (As := [.ref (a + 229)]) (rest := []) S hK (c_X0_make l G z (a + 1) (a + 229) v wv_5 r_28 v_29 (by omega) (by omega) e_30) gX7_hire_X0_make rfl 1 (by decide +kernel) rfl ⟨Nat.le_of_ble_eq_true rfl, Nat.le_of_ble_eq_true rfl⟩ h_bk 0 (by decide) rfl rfl rfl ⟨h_bk, h_ws⟩ hl.1 rfl (Nat.le_of_ble_eq_true rfl) dX7_hire_151 hL ⟨Nat.zero_le _, Nat.zero_le _⟩ (fun H1 locs hL hpost => ?_)
              obtain ⟨n_bk, hfr⟩ := hpost
              have h_bk := n_bk
              have h_hl := h_hl.kept hfr (fun q h1 h2 h3 => by (try dsimp only at h3); omega)
              have h_hs := h_hs.kept hfr (fun q h1 h2 h3 => by (try dsimp only at h3); omega)
              have h_hu := h_hu.kept hfr (fun q h1 h2 h3 => by (try dsimp only at h3); omega)
              have h_ws := h_ws.kept hfr (fun q h1 h2 h3 => by (try dsimp only at h3); omega)
              have hF := hF.step hfr (fun q h => by (try dsimp only at h ⊢); omega)
              obtain ⟨q0, qq0⟩ := Prod.mk.inj (Option.some.inj hf)
              obtain ⟨q1, qq1⟩ := Prod.mk.inj (qq0)
              obtain ⟨q2, qq2⟩ := Prod.mk.inj (qq1)
              obtain ⟨q3, qq3⟩ := Prod.mk.inj (qq2)
              obtain ⟨q4, qq4⟩ := Prod.mk.inj (qq3)
              have q5 := qq4
              subst r0
              subst dv'
              subst v'
              subst hv'
              subst kv'
              subst wv'
              subst hQ
              refine x_iret (post := (fun H H1 => PX G a 1 (hlE a) dv H1 ∧ PX G (a + 1) 37 (bkE G (a + 1)) v_29 H1 ∧ PX G (a + 38) 2 (hsE G (a + 38)) hv_25 H1 ∧ HU G (a + 38) kv_26 H1 ∧ PX G (a + 229) 1 wsE wv_5 H1 ∧ XF (fun q => (a ≤ q ∧ q < a + 1) ∨ ((a + 1) ≤ q ∧ q < (a + 1) + 37) ∨ ((a + 38) ≤ q ∧ q < (a + 38) + 2) ∨ ((a + 38) + 2 ≤ q ∧ q < (a + 38) + 150) ∨ ((a + 229) ≤ q ∧ q < (a + 229) + 1)) H H1)) S hr hlocks rfl ?_ hL dX7_hire_154
              exact ⟨h_hl, h_bk, h_hs, h_hu, h_ws, hF⟩
            · have hf := (if_neg c_24).symm.trans hf
              refine lv_ldc (v := (-2000000003)) hx hb hown (hts _ (xm 9 rfl)) dX7_hire_129 ?_
              obtain ⟨q0, qq0⟩ := Prod.mk.inj (Option.some.inj hf)
              obtain ⟨q1, qq1⟩ := Prod.mk.inj (qq0)
              obtain ⟨q2, qq2⟩ := Prod.mk.inj (qq1)
              obtain ⟨q3, qq3⟩ := Prod.mk.inj (qq2)
              obtain ⟨q4, qq4⟩ := Prod.mk.inj (qq3)
              have q5 := qq4
              subst r0
              subst dv'
              subst v'
              subst hv'
              subst kv'
              subst wv'
              subst hQ
              refine x_iret (post := (fun H H1 => PX G a 1 (hlE a) dv H1 ∧ PX G (a + 1) 37 (bkE G (a + 1)) v H1 ∧ PX G (a + 38) 2 (hsE G (a + 38)) hv H1 ∧ HU G (a + 38) kv H1 ∧ PX G (a + 229) 1 wsE wv_5 H1 ∧ XF (fun q => (a ≤ q ∧ q < a + 1) ∨ ((a + 1) ≤ q ∧ q < (a + 1) + 37) ∨ ((a + 38) ≤ q ∧ q < (a + 38) + 2) ∨ ((a + 38) + 2 ≤ q ∧ q < (a + 38) + 150) ∨ ((a + 229) ≤ q ∧ q < (a + 229) + 1)) H H1)) S hr hlocks rfl ?_ hL dX7_hire_131
              exact ⟨h_hl, h_bk, h_hs, h_hu, h_ws, hF⟩
          · have hf := (if_neg c_21).symm.trans hf
            refine lv_aload_n hx hb dX7_hire_110 rfl (lv_at hl 1 rfl) ?_
            refine lv_iload hx hb dX7_hire_111 (lv_at hl 0 rfl) ?_
            obtain ⟨dv_31, edv_31, hf⟩ := xl_some hf
            refine x_put S hK h_hl hz_hl hL 0 (by decide) rfl rfl rfl in7 tyX7 tyX7_ok nmX7 5 (by decide) (xm 8 rfl) rfl (vp_nar_int _) rfl (Nat.le_of_ble_eq_true rfl) rfl edv_31 dX7_hire_113 (fun H1 locs hL h_hl hfr => ?_)
            have h_bk := h_bk.kept hfr (fun q h1 h2 h3 => by (try dsimp only at h3); omega)
            have h_hs := h_hs.kept hfr (fun q h1 h2 h3 => by (try dsimp only at h3); omega)
            have h_hu := h_hu.kept hfr (fun q h1 h2 h3 => by (try dsimp only at h3); omega)
            have h_ws := h_ws.kept hfr (fun q h1 h2 h3 => by (try dsimp only at h3); omega)
            have hF := hF.step hfr (fun q h => by (try dsimp only at h ⊢); omega)
            refine lv_ldc (v := (-2000000002)) hx hb hown (hts _ (xm 7 rfl)) dX7_hire_116 ?_
            obtain ⟨q0, qq0⟩ := Prod.mk.inj (Option.some.inj hf)
            obtain ⟨q1, qq1⟩ := Prod.mk.inj (qq0)
            obtain ⟨q2, qq2⟩ := Prod.mk.inj (qq1)
            obtain ⟨q3, qq3⟩ := Prod.mk.inj (qq2)
            obtain ⟨q4, qq4⟩ := Prod.mk.inj (qq3)
            have q5 := qq4
            subst r0
            subst dv'
            subst v'
            subst hv'
            subst kv'
            subst wv'
            subst hQ
            refine x_iret (post := (fun H H1 => PX G a 1 (hlE a) dv_31 H1 ∧ PX G (a + 1) 37 (bkE G (a + 1)) v H1 ∧ PX G (a + 38) 2 (hsE G (a + 38)) hv H1 ∧ HU G (a + 38) kv H1 ∧ PX G (a + 229) 1 wsE wv_5 H1 ∧ XF (fun q => (a ≤ q ∧ q < a + 1) ∨ ((a + 1) ≤ q ∧ q < (a + 1) + 37) ∨ ((a + 38) ≤ q ∧ q < (a + 38) + 2) ∨ ((a + 38) + 2 ≤ q ∧ q < (a + 38) + 150) ∨ ((a + 229) ≤ q ∧ q < (a + 229) + 1)) H H1)) S hr hlocks rfl ?_ hL dX7_hire_118
            exact ⟨h_hl, h_bk, h_hs, h_hu, h_ws, hF⟩
        · have hf := (if_neg c_18).symm.trans hf
          refine lv_ldc (v := (-2000000002)) hx hb hown (hts _ (xm 7 rfl)) dX7_hire_88 ?_
          obtain ⟨q0, qq0⟩ := Prod.mk.inj (Option.some.inj hf)
          obtain ⟨q1, qq1⟩ := Prod.mk.inj (qq0)
          obtain ⟨q2, qq2⟩ := Prod.mk.inj (qq1)
          obtain ⟨q3, qq3⟩ := Prod.mk.inj (qq2)
          obtain ⟨q4, qq4⟩ := Prod.mk.inj (qq3)
          have q5 := qq4
          subst r0
          subst dv'
          subst v'
          subst hv'
          subst kv'
          subst wv'
          subst hQ
          refine x_iret (post := (fun H H1 => PX G a 1 (hlE a) dv H1 ∧ PX G (a + 1) 37 (bkE G (a + 1)) v H1 ∧ PX G (a + 38) 2 (hsE G (a + 38)) hv H1 ∧ HU G (a + 38) kv H1 ∧ PX G (a + 229) 1 wsE wv_5 H1 ∧ XF (fun q => (a ≤ q ∧ q < a + 1) ∨ ((a + 1) ≤ q ∧ q < (a + 1) + 37) ∨ ((a + 38) ≤ q ∧ q < (a + 38) + 2) ∨ ((a + 38) + 2 ≤ q ∧ q < (a + 38) + 150) ∨ ((a + 229) ≤ q ∧ q < (a + 229) + 1)) H H1)) S hr hlocks rfl ?_ hL dX7_hire_90
          exact ⟨h_hl, h_bk, h_hs, h_hu, h_ws, hF⟩
      · have hf := (if_pos c_15).symm.trans hf
        refine lv_ldc (v := (-2000000001)) hx hb hown (hts _ (xm 6 rfl)) dX7_hire_72 ?_
        obtain ⟨q0, qq0⟩ := Prod.mk.inj (Option.some.inj hf)
        obtain ⟨q1, qq1⟩ := Prod.mk.inj (qq0)
        obtain ⟨q2, qq2⟩ := Prod.mk.inj (qq1)
        obtain ⟨q3, qq3⟩ := Prod.mk.inj (qq2)
        obtain ⟨q4, qq4⟩ := Prod.mk.inj (qq3)
        have q5 := qq4
        subst r0
        subst dv'
        subst v'
        subst hv'
        subst kv'
        subst wv'
        subst hQ
        refine x_iret (post := (fun H H1 => PX G a 1 (hlE a) dv H1 ∧ PX G (a + 1) 37 (bkE G (a + 1)) v H1 ∧ PX G (a + 38) 2 (hsE G (a + 38)) hv H1 ∧ HU G (a + 38) kv H1 ∧ PX G (a + 229) 1 wsE wv_5 H1 ∧ XF (fun q => (a ≤ q ∧ q < a + 1) ∨ ((a + 1) ≤ q ∧ q < (a + 1) + 37) ∨ ((a + 38) ≤ q ∧ q < (a + 38) + 2) ∨ ((a + 38) + 2 ≤ q ∧ q < (a + 38) + 150) ∨ ((a + 229) ≤ q ∧ q < (a + 229) + 1)) H H1)) S hr hlocks rfl ?_ hL dX7_hire_74
        exact ⟨h_hl, h_bk, h_hs, h_hu, h_ws, hF⟩
set_option maxRecDepth 100000 in
set_option maxHeartbeats 4000000 in
theorem c_X7_hireInfo (l : Launch) (G : xG) (z : Nat) (a : Nat) (dv : xV) (v : xV) (p1 : Int32) (p2 : Int32) (r0 : Int32)  (hf : f_X7_hireInfo dv v p1 p2 = some r0) : xM l yX7_hireInfo wsX7_hireInfo 3 61 G z [.ref a, .int p1, .int p2] (fun H => PX G a 1 (hlE a) dv H ∧ PX G (a + 1) 37 (bkE G (a + 1)) v H) (some (.int r0)) (fun H H1 => H1 = H) := by
  refine xM.of (cc := cX7_hireInfo) (maxL := 4) (ret := (some .int)) (by decide +kernel) rfl (Nat.le_of_ble_eq_true rfl) ?_
  intro p e s m args below meth c ls Q hQ S hr hlocks hK hP hl
  obtain ⟨hx, hb, hml, hown, hts⟩ := id S
  obtain ⟨h_hl, h_bk⟩ := hP
  have hL : ∀ q ∈ ([] : List Loc), z ≤ q.base := fun q h => absurd h List.not_mem_nil
  have hl : lv_has ls 4 [(0, .ref a), (1, .int p1), (2, .int p2)] := hl
  have in7 : ∀ w ∈ u_ws RX7 TX7 6, w ∈ wsX7_hireInfo := fun _ h => List.mem_cons_of_mem _ (List.mem_append_left _ (List.mem_append_left _ (List.mem_append_left _ (List.mem_append_right _ h))))
  unfold f_X7_hireInfo at hf
  refine lv_aload_n hx hb dX7_hireInfo_0 rfl (lv_at hl 0 rfl) ?_
  refine x_get S hK h_hl 0 (by decide) rfl rfl rfl in7 0 (by decide) (xm 1 rfl) (x := .ref (a + 1)) rfl dX7_hireInfo_1 ?_
  refine lv_iload_n hx hb dX7_hireInfo_4 rfl (lv_at hl 1 rfl) ?_
  obtain ⟨o_1, e_2, hf⟩ := xb_some hf
  refine x_callVi (As := [.int p1]) (rest := []) S hK (c_X0_hireAt l G z (a + 1) v p1 o_1 e_2) gX7_hireInfo_X0_hireAt rfl 1 (by decide +kernel) rfl ⟨Nat.le_of_ble_eq_true rfl, Nat.le_of_ble_eq_true rfl⟩ h_bk 0 (by decide) rfl rfl rfl h_bk hl.1 rfl (Nat.le_of_ble_eq_true rfl) dX7_hireInfo_5 hL ⟨Nat.zero_le _, Nat.zero_le _⟩ (fun H1 locs hL hpost => ?_)
  subst hpost
  obtain _ | i_3 := o_1
  · have hf := (xo_n _ _).symm.trans hf
    show W _ _ _ _ _ _ _ _ _ _ _ _ _ _ _ (F0 _ _ _ (.null :: _))
    refine lv_astore_nN (lv' := [(3, .null), (0, .ref a), (1, .int p1), (2, .int p2)]) hx hb dX7_hireInfo_8 rfl hl (by decide) rfl (fun ls hl => ?_)
    refine lv_aload_nN hx hb dX7_hireInfo_9 rfl (lv_at hl 0 rfl) ?_
    refine lv_ifnonnullN hx hb dX7_hireInfo_10 ?_
    refine lv_ldc (v := (-2000000001)) hx hb hown (hts _ (xm 2 rfl)) dX7_hireInfo_13 ?_
    have q0 := Option.some.inj hf
    subst r0
    subst hQ
    refine x_iret (post := (fun H H1 => H1 = H)) S hr hlocks rfl ?_ hL dX7_hireInfo_15
    exact rfl
  · have hf := (xo_s _ _ _).symm.trans hf
    obtain ⟨hi_i_3, hf⟩ := xg_some hf
    show W _ _ _ _ _ _ _ _ _ _ _ _ _ _ _ (F0 _ _ _ (.ref ((a + 1) + (6 + 2 * i_3)) :: _))
    refine lv_astore_n (lv' := [(3, .ref ((a + 1) + (6 + 2 * i_3))), (0, .ref a), (1, .int p1), (2, .int p2)]) hx hb dX7_hireInfo_8 rfl hl (by decide) rfl (fun ls hl => ?_)
    refine lv_aload_n hx hb dX7_hireInfo_9 rfl (lv_at hl 0 rfl) ?_
    refine lv_ifnonnull (tgt := 16) hx hb dX7_hireInfo_10 (by decide) ?_
    refine lv_iload_n hx hb dX7_hireInfo_16 rfl (lv_at hl 3 rfl) ?_
    refine lv_bipush (v := 14) hx hb dX7_hireInfo_17 (by decide) ?_
    refine lv_icmp_ne (tgt := 33) hx hb dX7_hireInfo_19 (by decide) (fun c_4 => ?_) (fun c_4 => ?_)
    · have hf := (if_neg c_4).symm.trans hf
      refine lv_aload_n hx hb dX7_hireInfo_33 rfl (lv_at hl 0 rfl) ?_
      refine lv_iload_n hx hb dX7_hireInfo_34 rfl (lv_at hl 3 rfl) ?_
      obtain ⟨r_5, e_6, hf⟩ := xb_some hf
      refine x_callVi (As := [.int p2]) (rest := []) S hK (c_X1_property l G z (a + 1) v i_3 p2 r_5 hi_i_3 e_6) gX7_hireInfo_X1_property rfl 1 (by decide +kernel) rfl ⟨Nat.le_of_ble_eq_true rfl, Nat.le_of_ble_eq_true rfl⟩ h_bk (6 + 2 * i_3) (by omega) rfl (bkE_hire G (a + 1) i_3 hi_i_3 _) rfl h_bk hl.1 rfl (Nat.le_of_ble_eq_true rfl) dX7_hireInfo_35 hL ⟨Nat.zero_le _, Nat.zero_le _⟩ (fun H1 locs hL hpost => ?_)
      subst hpost
      have q0 := Option.some.inj hf
      subst r0
      subst hQ
      refine x_iret (post := (fun H H1 => H1 = H)) S hr hlocks rfl ?_ hL dX7_hireInfo_38
      exact rfl
    · have hf := (if_pos c_4).symm.trans hf
      refine lv_aload_n hx hb dX7_hireInfo_22 rfl (lv_at hl 1 rfl) ?_
      refine x_get S hK h_hl 0 (by decide) rfl rfl rfl in7 0 (by decide) (xm 1 rfl) (x := .ref (a + 1)) rfl dX7_hireInfo_23 ?_
      refine lv_iload_n hx hb dX7_hireInfo_26 rfl (lv_at hl 2 rfl) ?_
      obtain ⟨r_7, e_8, hf⟩ := xb_some hf
      refine x_callVi (As := [.int p1]) (rest := []) S hK (c_X0_keysFor l G z (a + 1) v p1 r_7 e_8) gX7_hireInfo_X0_keysFor rfl 1 (by decide +kernel) rfl ⟨Nat.le_of_ble_eq_true rfl, Nat.le_of_ble_eq_true rfl⟩ h_bk 0 (by decide) rfl rfl rfl h_bk hl.1 rfl (Nat.le_of_ble_eq_true rfl) dX7_hireInfo_27 hL ⟨Nat.zero_le _, Nat.zero_le _⟩ (fun H1 locs hL hpost => ?_)
      subst hpost
      refine lv_goto (tgt := 38) hx hb dX7_hireInfo_30 (by decide) ?_
      have q0 := Option.some.inj hf
      subst r0
      subst hQ
      refine x_iret (post := (fun H H1 => H1 = H)) S hr hlocks rfl ?_ hL dX7_hireInfo_38
      exact rfl
set_option maxRecDepth 100000 in
set_option maxHeartbeats 4000000 in
theorem c_X7_hirer (l : Launch) (G : xG) (z : Nat) (a : Nat) (dv : xV) (v : xV) (p1 : Int32) (p2 : Int32) (r0 : Int32)  (hf : f_X7_hirer dv v p1 p2 = some r0) : xM l yX7_hirer wsX7_hirer 3 66 G z [.ref a, .int p1, .int p2] (fun H => PX G a 1 (hlE a) dv H ∧ PX G (a + 1) 37 (bkE G (a + 1)) v H) (some (.int r0)) (fun H H1 => H1 = H) := by
  refine xM.of (cc := cX7_hirer) (maxL := 3) (ret := (some .int)) (by decide +kernel) rfl (Nat.le_of_ble_eq_true rfl) ?_
  intro p e s m args below meth c ls Q hQ S hr hlocks hK hP hl
  obtain ⟨hx, hb, hml, hown, hts⟩ := id S
  obtain ⟨h_hl, h_bk⟩ := hP
  have hL : ∀ q ∈ ([] : List Loc), z ≤ q.base := fun q h => absurd h List.not_mem_nil
  have hl : lv_has ls 3 [(0, .ref a), (1, .int p1), (2, .int p2)] := hl
  have in0 : ∀ w ∈ u_ws RX0 TX0 9, w ∈ wsX7_hirer := fun _ h => List.mem_cons_of_mem _ (List.mem_append_left _ (List.mem_append_left _ (List.mem_append_right _ h)))
  have in7 : ∀ w ∈ u_ws RX7 TX7 6, w ∈ wsX7_hirer := fun _ h => List.mem_cons_of_mem _ (List.mem_append_left _ (List.mem_append_left _ (List.mem_append_left _ (List.mem_append_right _ h))))
  unfold f_X7_hirer at hf
  refine lv_aload_n hx hb dX7_hirer_0 rfl (lv_at hl 0 rfl) ?_
  refine x_get S hK h_hl 0 (by decide) rfl rfl rfl in7 0 (by decide) (xm 1 rfl) (x := .ref (a + 1)) rfl dX7_hirer_1 ?_
  refine lv_iload_n hx hb dX7_hirer_4 rfl (lv_at hl 1 rfl) ?_
  obtain ⟨r_1, e_2, hf⟩ := xb_some hf
  refine x_callVi (As := [.int p1]) (rest := []) S hK (c_X0_isHirer l G z (a + 1) v p1 r_1 e_2) gX7_hirer_X0_isHirer rfl 1 (by decide +kernel) rfl ⟨Nat.le_of_ble_eq_true rfl, Nat.le_of_ble_eq_true rfl⟩ h_bk 0 (by decide) rfl rfl rfl h_bk hl.1 rfl (Nat.le_of_ble_eq_true rfl) dX7_hirer_5 hL ⟨Nat.zero_le _, Nat.zero_le _⟩ (fun H1 locs hL hpost => ?_)
  subst hpost
  refine lv_if_ne (tgt := 14) hx hb dX7_hirer_8 (by decide) (fun c_3 => ?_) (fun c_3 => ?_)
  · have hf := (if_neg c_3).symm.trans hf
    refine lv_iload_n hx hb dX7_hirer_14 rfl (lv_at hl 2 rfl) ?_
    by_cases c_4 : p2 = 0
    · have hf := (if_pos c_4).symm.trans hf
      refine x_tin (tgt := 56) (off := 41) S 0 c_4 dX7_hirer_15 (by decide) (by decide) (by decide) (by decide) ?_
      refine lv_aload_n hx hb dX7_hirer_56 rfl (lv_at hl 0 rfl) ?_
      refine x_get S hK h_hl 0 (by decide) rfl rfl rfl in7 0 (by decide) (xm 1 rfl) (x := .ref (a + 1)) rfl dX7_hirer_57 ?_
      refine x_get S hK h_bk 0 (by decide) rfl rfl rfl in0 5 (by decide) (xm 3 rfl) (x := .ref ((a + 1) + 3)) rfl dX7_hirer_60 ?_
      refine lv_iload_n hx hb dX7_hirer_63 rfl (lv_at hl 1 rfl) ?_
      obtain ⟨g_5, hf⟩ := xg_some hf
      refine x_iald S hK h_bk 3 (by decide) rfl rfl p1.toNatClampNeg rfl g_5 dX7_hirer_64 ?_
      have q0 := Option.some.inj hf
      subst r0
      subst hQ
      refine x_iret (post := (fun H H1 => H1 = H)) S hr hlocks rfl ?_ hL dX7_hirer_65
      exact rfl
    have hf := (if_neg c_4).symm.trans hf
    by_cases c_6 : p2 = 1
    · have hf := (if_pos c_6).symm.trans hf
      refine x_tin (tgt := 66) (off := 51) S 1 c_6 dX7_hirer_15 (by decide) (by decide) (by decide) (by decide) ?_
      refine lv_aload_n hx hb dX7_hirer_66 rfl (lv_at hl 0 rfl) ?_
      refine x_get S hK h_hl 0 (by decide) rfl rfl rfl in7 0 (by decide) (xm 1 rfl) (x := .ref (a + 1)) rfl dX7_hirer_67 ?_
      refine x_get S hK h_bk 0 (by decide) rfl rfl rfl in0 6 (by decide) (xm 4 rfl) (x := .ref ((a + 1) + 4)) rfl dX7_hirer_70 ?_
      refine lv_iload_n hx hb dX7_hirer_73 rfl (lv_at hl 1 rfl) ?_
      obtain ⟨g_7, hf⟩ := xg_some hf
      refine x_iald S hK h_bk 4 (by decide) rfl rfl p1.toNatClampNeg rfl g_7 dX7_hirer_74 ?_
      have q0 := Option.some.inj hf
      subst r0
      subst hQ
      refine x_iret (post := (fun H H1 => H1 = H)) S hr hlocks rfl ?_ hL dX7_hirer_75
      exact rfl
    have hf := (if_neg c_6).symm.trans hf
    by_cases c_8 : p2 = 2
    · have hf := (if_pos c_8).symm.trans hf
      refine x_tin (tgt := 76) (off := 61) S 2 c_8 dX7_hirer_15 (by decide) (by decide) (by decide) (by decide) ?_
      refine lv_aload_n hx hb dX7_hirer_76 rfl (lv_at hl 0 rfl) ?_
      refine x_get S hK h_hl 0 (by decide) rfl rfl rfl in7 0 (by decide) (xm 1 rfl) (x := .ref (a + 1)) rfl dX7_hirer_77 ?_
      refine x_get S hK h_bk 0 (by decide) rfl rfl rfl in0 5 (by decide) (xm 3 rfl) (x := .ref ((a + 1) + 3)) rfl dX7_hirer_80 ?_
      refine lv_iload_n hx hb dX7_hirer_83 rfl (lv_at hl 1 rfl) ?_
      obtain ⟨g_9, hf⟩ := xg_some hf
      refine x_iald S hK h_bk 3 (by decide) rfl rfl p1.toNatClampNeg rfl g_9 dX7_hirer_84 ?_
      refine lv_aload_n hx hb dX7_hirer_85 rfl (lv_at hl 0 rfl) ?_
      refine x_get S hK h_hl 0 (by decide) rfl rfl rfl in7 0 (by decide) (xm 1 rfl) (x := .ref (a + 1)) rfl dX7_hirer_86 ?_
      refine x_get S hK h_bk 0 (by decide) rfl rfl rfl in0 6 (by decide) (xm 4 rfl) (x := .ref ((a + 1) + 4)) rfl dX7_hirer_89 ?_
      refine lv_iload_n hx hb dX7_hirer_92 rfl (lv_at hl 1 rfl) ?_
      obtain ⟨g_10, hf⟩ := xg_some hf
      refine x_iald S hK h_bk 4 (by decide) rfl rfl p1.toNatClampNeg rfl g_10 dX7_hirer_93 ?_
      refine lv_isub hx hb dX7_hirer_94 ?_
      have q0 := Option.some.inj hf
      subst r0
      subst hQ
      refine x_iret (post := (fun H H1 => H1 = H)) S hr hlocks rfl ?_ hL dX7_hirer_95
      exact rfl
    have hf := (if_neg c_8).symm.trans hf
    by_cases c_11 : p2 = 3
    · have hf := (if_pos c_11).symm.trans hf
      refine x_tin (tgt := 96) (off := 81) S 3 c_11 dX7_hirer_15 (by decide) (by decide) (by decide) (by decide) ?_
      refine lv_aload_n hx hb dX7_hirer_96 rfl (lv_at hl 0 rfl) ?_
      refine x_get S hK h_hl 0 (by decide) rfl rfl rfl in7 0 (by decide) (xm 1 rfl) (x := .ref (a + 1)) rfl dX7_hirer_97 ?_
      refine lv_iload_n hx hb dX7_hirer_100 rfl (lv_at hl 1 rfl) ?_
      obtain ⟨r_12, e_13, hf⟩ := xb_some hf
      refine x_callVi (As := [.int p1]) (rest := []) S hK (c_X0_hiresOf l G z (a + 1) v p1 r_12 e_13) gX7_hirer_X0_hiresOf rfl 1 (by decide +kernel) rfl ⟨Nat.le_of_ble_eq_true rfl, Nat.le_of_ble_eq_true rfl⟩ h_bk 0 (by decide) rfl rfl rfl h_bk hl.1 rfl (Nat.le_of_ble_eq_true rfl) dX7_hirer_101 hL ⟨Nat.zero_le _, Nat.zero_le _⟩ (fun H1 locs hL hpost => ?_)
      subst hpost
      have q0 := Option.some.inj hf
      subst r0
      subst hQ
      refine x_iret (post := (fun H H1 => H1 = H)) S hr hlocks rfl ?_ hL dX7_hirer_104
      exact rfl
    have hf := (if_neg c_11).symm.trans hf
    by_cases c_14 : p2 = 4
    · have hf := (if_pos c_14).symm.trans hf
      refine x_tin (tgt := 105) (off := 90) S 4 c_14 dX7_hirer_15 (by decide) (by decide) (by decide) (by decide) ?_
      refine lv_aload_n hx hb dX7_hirer_105 rfl (lv_at hl 0 rfl) ?_
      refine x_get S hK h_hl 0 (by decide) rfl rfl rfl in7 0 (by decide) (xm 1 rfl) (x := .ref (a + 1)) rfl dX7_hirer_106 ?_
      refine lv_iload_n hx hb dX7_hirer_109 rfl (lv_at hl 1 rfl) ?_
      obtain ⟨r_15, e_16, hf⟩ := xb_some hf
      refine x_callVi (As := [.int p1]) (rest := []) S hK (c_X0_plannedOf l G z (a + 1) v p1 r_15 e_16) gX7_hirer_X0_plannedOf rfl 1 (by decide +kernel) rfl ⟨Nat.le_of_ble_eq_true rfl, Nat.le_of_ble_eq_true rfl⟩ h_bk 0 (by decide) rfl rfl rfl h_bk hl.1 rfl (Nat.le_of_ble_eq_true rfl) dX7_hirer_110 hL ⟨Nat.zero_le _, Nat.zero_le _⟩ (fun H1 locs hL hpost => ?_)
      subst hpost
      have q0 := Option.some.inj hf
      subst r0
      subst hQ
      refine x_iret (post := (fun H H1 => H1 = H)) S hr hlocks rfl ?_ hL dX7_hirer_113
      exact rfl
    have hf := (if_neg c_14).symm.trans hf
    by_cases c_17 : p2 = 5
    · have hf := (if_pos c_17).symm.trans hf
      refine x_tin (tgt := 114) (off := 99) S 5 c_17 dX7_hirer_15 (by decide) (by decide) (by decide) (by decide) ?_
      refine lv_aload_n hx hb dX7_hirer_114 rfl (lv_at hl 0 rfl) ?_
      refine x_get S hK h_hl 0 (by decide) rfl rfl rfl in7 0 (by decide) (xm 1 rfl) (x := .ref (a + 1)) rfl dX7_hirer_115 ?_
      refine lv_iload_n hx hb dX7_hirer_118 rfl (lv_at hl 1 rfl) ?_
      obtain ⟨r_18, e_19, hf⟩ := xb_some hf
      refine x_callVi (As := [.int p1]) (rest := []) S hK (c_X0_keysOf l G z (a + 1) v p1 r_18 e_19) gX7_hirer_X0_keysOf rfl 1 (by decide +kernel) rfl ⟨Nat.le_of_ble_eq_true rfl, Nat.le_of_ble_eq_true rfl⟩ h_bk 0 (by decide) rfl rfl rfl h_bk hl.1 rfl (Nat.le_of_ble_eq_true rfl) dX7_hirer_119 hL ⟨Nat.zero_le _, Nat.zero_le _⟩ (fun H1 locs hL hpost => ?_)
      subst hpost
      have q0 := Option.some.inj hf
      subst r0
      subst hQ
      refine x_iret (post := (fun H H1 => H1 = H)) S hr hlocks rfl ?_ hL dX7_hirer_122
      exact rfl
    have hf := (if_neg c_17).symm.trans hf
    by_cases c_20 : p2 = 6
    · have hf := (if_pos c_20).symm.trans hf
      refine x_tin (tgt := 123) (off := 108) S 6 c_20 dX7_hirer_15 (by decide) (by decide) (by decide) (by decide) ?_
      refine lv_aload_n hx hb dX7_hirer_123 rfl (lv_at hl 0 rfl) ?_
      refine x_get S hK h_hl 0 (by decide) rfl rfl rfl in7 0 (by decide) (xm 1 rfl) (x := .ref (a + 1)) rfl dX7_hirer_124 ?_
      refine lv_iload_n hx hb dX7_hirer_127 rfl (lv_at hl 1 rfl) ?_
      obtain ⟨r_21, e_22, hf⟩ := xb_some hf
      refine x_callVi (As := [.int p1]) (rest := []) S hK (c_X0_faultsOf l G z (a + 1) v p1 r_21 e_22) gX7_hirer_X0_faultsOf rfl 1 (by decide +kernel) rfl ⟨Nat.le_of_ble_eq_true rfl, Nat.le_of_ble_eq_true rfl⟩ h_bk 0 (by decide) rfl rfl rfl h_bk hl.1 rfl (Nat.le_of_ble_eq_true rfl) dX7_hirer_128 hL ⟨Nat.zero_le _, Nat.zero_le _⟩ (fun H1 locs hL hpost => ?_)
      subst hpost
      have q0 := Option.some.inj hf
      subst r0
      subst hQ
      refine x_iret (post := (fun H H1 => H1 = H)) S hr hlocks rfl ?_ hL dX7_hirer_131
      exact rfl
    have hf := (if_neg c_20).symm.trans hf
    have tc_4 : p2.toInt ≠ 0 := fun h9 => c_4 (xti (h9.trans (by decide)))
    have tc_6 : p2.toInt ≠ 1 := fun h9 => c_6 (xti (h9.trans (by decide)))
    have tc_8 : p2.toInt ≠ 2 := fun h9 => c_8 (xti (h9.trans (by decide)))
    have tc_11 : p2.toInt ≠ 3 := fun h9 => c_11 (xti (h9.trans (by decide)))
    have tc_14 : p2.toInt ≠ 4 := fun h9 => c_14 (xti (h9.trans (by decide)))
    have tc_17 : p2.toInt ≠ 5 := fun h9 => c_17 (xti (h9.trans (by decide)))
    have tc_20 : p2.toInt ≠ 6 := fun h9 => c_20 (xti (h9.trans (by decide)))
    refine lv_tableOut (tgt := 132) hx hb dX7_hirer_15 (by omega) (by decide) ?_
    refine lv_ldc (v := (-2000000001)) hx hb hown (hts _ (xm 2 rfl)) dX7_hirer_132 ?_
    have q0 := Option.some.inj hf
    subst r0
    subst hQ
    refine x_iret (post := (fun H H1 => H1 = H)) S hr hlocks rfl ?_ hL dX7_hirer_134
    exact rfl
  · have hf := (if_pos c_3).symm.trans hf
    refine lv_ldc (v := (-2000000001)) hx hb hown (hts _ (xm 2 rfl)) dX7_hirer_11 ?_
    have q0 := Option.some.inj hf
    subst r0
    subst hQ
    refine x_iret (post := (fun H H1 => H1 = H)) S hr hlocks rfl ?_ hL dX7_hirer_13
    exact rfl
set_option maxRecDepth 100000 in
set_option maxHeartbeats 4000000 in
theorem c_X7_inOrder (l : Launch) (G : xG) (z : Nat) (a : Nat) (dv : xV) (v : xV) (p1 : Int32) (r0 : Int32)  (hf : f_X7_inOrder dv v p1 = some r0) : xM l yX7_inOrder wsX7_inOrder 4 97 G z [.ref a, .int p1] (fun H => PX G a 1 (hlE a) dv H ∧ PX G (a + 1) 37 (bkE G (a + 1)) v H) (some (.int r0)) (fun H H1 => H1 = H) := by
  refine xM.of (cc := cX7_inOrder) (maxL := 5) (ret := (some .int)) (by decide +kernel) rfl (Nat.le_of_ble_eq_true rfl) ?_
  intro p e s m args below meth c ls Q hQ S hr hlocks hK hP hl
  obtain ⟨hx, hb, hml, hown, hts⟩ := id S
  obtain ⟨h_hl, h_bk⟩ := hP
  have hL : ∀ q ∈ ([] : List Loc), z ≤ q.base := fun q h => absurd h List.not_mem_nil
  have hl : lv_has ls 5 [(0, .ref a), (1, .int p1)] := hl
  have in7 : ∀ w ∈ u_ws RX7 TX7 6, w ∈ wsX7_inOrder := fun _ h => List.mem_cons_of_mem _ (List.mem_append_left _ (List.mem_append_left _ (List.mem_append_right _ h)))
  unfold f_X7_inOrder at hf
  refine lv_iload_n hx hb dX7_inOrder_0 rfl (lv_at hl 1 rfl) ?_
  refine lv_if_ge (tgt := 7) hx hb dX7_inOrder_1 (by decide) (fun c_1 => ?_) (fun c_1 => ?_)
  · have hf := (if_pos c_1).symm.trans hf
    refine lv_iload_n hx hb dX7_inOrder_7 rfl (lv_at hl 1 rfl) ?_
    refine lv_istore_n (lv' := [(2, .int p1), (0, .ref a), (1, .int p1)]) hx hb dX7_inOrder_8 rfl hl (by decide) rfl (fun ls hl => ?_)
    refine lv_iconst (v := 0) hx hb dX7_inOrder_9 (by decide) ?_
    refine lv_istore_n (lv' := [(3, .int 0), (2, .int p1), (0, .ref a), (1, .int p1)]) hx hb dX7_inOrder_10 rfl hl (by decide) rfl (fun ls hl => ?_)
    have lp_11 : ∀ (K_11 : Int32 → Int32 → Option Int32), (∀ (x_2 : Int32) (x_3 : Int32) (locs : List Loc) (ls : Array Slot), (∀ q ∈ locs, z ≤ q.base) → lv_has ls 5 [] → K_11 x_2 x_3 = some r0 → W p l e { frames := 4, cells := 0, slots := 0, locals := 97 } s m args below meth c s.heap locs 0 0 Q (F0 m 55 ls [])) → ∀ (n : Nat) (x_2 : Int32) (x_3 : Int32) (locs : List Loc) (ls : Array Slot), (∀ q ∈ locs, z ≤ q.base) → lv_has ls 5 [(0, .ref a), (2, .int x_2), (3, .int x_3)] → L_X7_inOrder_11 K_11 v n x_2 x_3 = some r0 → W p l e { frames := 4, cells := 0, slots := 0, locals := 97 } s m args below meth c s.heap locs 0 0 Q (F0 m 11 ls []) := by
      intro K_11 hK_11 n
      induction n with
      | zero =>
        intro x_2 x_3 locs ls hL hl hf
        cases hf
      | succ n ih_11 =>
        intro x_2 x_3 locs ls hL hl hf
        unfold L_X7_inOrder_11 at hf
        refine lv_iload_n hx hb dX7_inOrder_11 rfl (lv_at hl 2 rfl) ?_
        refine lv_sipush (v := 364) hx hb dX7_inOrder_12 (by decide) ?_
        refine lv_icmp_gt (tgt := 55) hx hb dX7_inOrder_15 (by decide) (fun c_4 => ?_) (fun c_4 => ?_)
        · have hf := (if_pos c_4).symm.trans hf
          exact hK_11 x_2 x_3 _ _ hL (lv_sub hl [] rfl) hf
        · have hf := (if_neg c_4).symm.trans hf
          refine lv_aload_n hx hb dX7_inOrder_18 rfl (lv_at hl 0 rfl) ?_
          refine x_get S hK h_hl 0 (by decide) rfl rfl rfl in7 0 (by decide) (xm 2 rfl) (x := .ref (a + 1)) rfl dX7_inOrder_19 ?_
          refine lv_iload_n hx hb dX7_inOrder_22 rfl (lv_at hl 2 rfl) ?_
          obtain ⟨r_5, e_6, hf⟩ := xb_some hf
          refine x_callVi (As := [.int x_3]) (rest := []) S hK (c_X0_sessionsOn l G z (a + 1) v x_3 r_5 e_6) gX7_inOrder_X0_sessionsOn rfl 1 (by decide +kernel) rfl ⟨Nat.le_of_ble_eq_true rfl, Nat.le_of_ble_eq_true rfl⟩ h_bk 0 (by decide) rfl rfl rfl h_bk hl.1 rfl (Nat.le_of_ble_eq_true rfl) dX7_inOrder_23 hL ⟨Nat.zero_le _, Nat.zero_le _⟩ (fun H1 locs hL hpost => ?_)
          subst hpost
          refine lv_istore (lv' := [(4, .int r_5), (0, .ref a), (2, .int x_2), (3, .int x_3)]) hx hb dX7_inOrder_26 hl (by decide) rfl (fun ls hl => ?_)
          refine lv_iload_n hx hb dX7_inOrder_28 rfl (lv_at hl 2 rfl) ?_
          refine lv_iload hx hb dX7_inOrder_29 (lv_at hl 0 rfl) ?_
          refine lv_icmp_ge (tgt := 44) hx hb dX7_inOrder_31 (by decide) (fun c_7 => ?_) (fun c_7 => ?_)
          · have hf := (if_pos c_7).symm.trans hf
            refine lv_iload_n hx hb dX7_inOrder_44 rfl (lv_at hl 2 rfl) ?_
            refine lv_iload hx hb dX7_inOrder_45 (lv_at hl 0 rfl) ?_
            refine lv_isub hx hb dX7_inOrder_47 ?_
            obtain ⟨x_8, ex_8, hf⟩ := xl_some hf
            refine x_top ex_8 ?_
            refine lv_istore_n (lv' := [(2, .int x_8), (4, .int r_5), (0, .ref a), (3, .int x_3)]) hx hb dX7_inOrder_48 rfl hl (by decide) rfl (fun ls hl => ?_)
            obtain ⟨x_9, ex_9, hf⟩ := xl_some hf
            refine lv_iinc (v := x_9) (lv' := [(3, .int x_9), (2, .int x_8), (4, .int r_5), (0, .ref a)]) hx hb dX7_inOrder_49 hl (k := 3) rfl (by rw [ex_9]; rfl) (by decide) rfl (fun ls hl => ?_)
            refine lv_goto (tgt := 11) hx hb dX7_inOrder_52 (by decide) ?_
            exact ih_11 x_8 x_9 _ _ hL (lv_sub hl [3, 1, 0] rfl) hf
          · have hf := (if_neg c_7).symm.trans hf
            refine lv_aload_n hx hb dX7_inOrder_34 rfl (lv_at hl 1 rfl) ?_
            refine x_get S hK h_hl 0 (by decide) rfl rfl rfl in7 0 (by decide) (xm 2 rfl) (x := .ref (a + 1)) rfl dX7_inOrder_35 ?_
            refine lv_iload_n hx hb dX7_inOrder_38 rfl (lv_at hl 3 rfl) ?_
            refine lv_iload_n hx hb dX7_inOrder_39 rfl (lv_at hl 2 rfl) ?_
            obtain ⟨r_10, e_11, hf⟩ := xb_some hf
            refine x_callVi (As := [.int x_3, .int x_2]) (rest := []) S hK (c_X0_sessionInOrder l G z (a + 1) v x_3 x_2 r_10 e_11) gX7_inOrder_X0_sessionInOrder rfl 2 (by decide +kernel) rfl ⟨Nat.le_of_ble_eq_true rfl, Nat.le_of_ble_eq_true rfl⟩ h_bk 0 (by decide) rfl rfl rfl h_bk hl.1 rfl (Nat.le_of_ble_eq_true rfl) dX7_inOrder_40 hL ⟨Nat.zero_le _, Nat.zero_le _⟩ (fun H1 locs hL hpost => ?_)
            subst hpost
            have q0 := Option.some.inj hf
            subst r0
            subst hQ
            refine x_iret (post := (fun H H1 => H1 = H)) S hr hlocks rfl ?_ hL dX7_inOrder_43
            exact rfl
    refine lp_11 _ (fun x_12 x_13 locs ls hL hl hf => ?_) 100000 p1 0 _ _ hL (lv_sub hl [2, 1, 0] rfl) hf
    refine lv_ldc (v := (-2000000004)) hx hb hown (hts _ (xm 3 rfl)) dX7_inOrder_55 ?_
    have q0 := Option.some.inj hf
    subst r0
    subst hQ
    refine x_iret (post := (fun H H1 => H1 = H)) S hr hlocks rfl ?_ hL dX7_inOrder_57
    exact rfl
  · have hf := (if_neg c_1).symm.trans hf
    refine lv_ldc (v := (-2000000001)) hx hb hown (hts _ (xm 1 rfl)) dX7_inOrder_4 ?_
    have q0 := Option.some.inj hf
    subst r0
    subst hQ
    refine x_iret (post := (fun H H1 => H1 = H)) S hr hlocks rfl ?_ hL dX7_inOrder_6
    exact rfl
set_option maxRecDepth 100000 in
set_option maxHeartbeats 4000000 in
theorem c_X7_key (l : Launch) (G : xG) (z : Nat) (a : Nat) (dv : xV) (v : xV) (p1 : Int32) (p2 : Int32) (r0 : Int32)  (hf : f_X7_key dv v p1 p2 = some r0) : xM l yX7_key wsX7_key 2 61 G z [.ref a, .int p1, .int p2] (fun H => PX G a 1 (hlE a) dv H ∧ PX G (a + 1) 37 (bkE G (a + 1)) v H) (some (.int r0)) (fun H H1 => H1 = H) := by
  refine xM.of (cc := cX7_key) (maxL := 5) (ret := (some .int)) (by decide +kernel) rfl (Nat.le_of_ble_eq_true rfl) ?_
  intro p e s m args below meth c ls Q hQ S hr hlocks hK hP hl
  obtain ⟨hx, hb, hml, hown, hts⟩ := id S
  obtain ⟨h_hl, h_bk⟩ := hP
  have hL : ∀ q ∈ ([] : List Loc), z ≤ q.base := fun q h => absurd h List.not_mem_nil
  have hl : lv_has ls 5 [(0, .ref a), (1, .int p1), (2, .int p2)] := hl
  have in0 : ∀ w ∈ u_ws RX0 TX0 9, w ∈ wsX7_key := fun _ h => List.mem_cons_of_mem _ (List.mem_append_right _ h)
  have in1 : ∀ w ∈ u_ws RX1 TX1 15, w ∈ wsX7_key := fun _ h => List.mem_cons_of_mem _ (List.mem_append_left _ (List.mem_append_right _ h))
  have in3 : ∀ w ∈ u_ws RX3 TX3 3, w ∈ wsX7_key := fun _ h => List.mem_cons_of_mem _ (List.mem_append_left _ (List.mem_append_left _ (List.mem_append_right _ h)))
  have in7 : ∀ w ∈ u_ws RX7 TX7 6, w ∈ wsX7_key := fun _ h => List.mem_cons_of_mem _ (List.mem_append_left _ (List.mem_append_left _ (List.mem_append_left _ (List.mem_append_right _ h))))
  unfold f_X7_key at hf
  refine lv_aload_n hx hb dX7_key_0 rfl (lv_at hl 0 rfl) ?_
  refine x_get S hK h_hl 0 (by decide) rfl rfl rfl in7 0 (by decide) (xm 1 rfl) (x := .ref (a + 1)) rfl dX7_key_1 ?_
  refine lv_iload_n hx hb dX7_key_4 rfl (lv_at hl 1 rfl) ?_
  obtain ⟨o_1, e_2, hf⟩ := xb_some hf
  refine x_callVi (As := [.int p1]) (rest := []) S hK (c_X0_keyAt l G z (a + 1) v p1 o_1 e_2) gX7_key_X0_keyAt rfl 1 (by decide +kernel) rfl ⟨Nat.le_of_ble_eq_true rfl, Nat.le_of_ble_eq_true rfl⟩ h_bk 0 (by decide) rfl rfl rfl h_bk hl.1 rfl (Nat.le_of_ble_eq_true rfl) dX7_key_5 hL ⟨Nat.zero_le _, Nat.zero_le _⟩ (fun H1 locs hL hpost => ?_)
  subst hpost
  obtain _ | i_3 := o_1
  · have hf := (xo_n _ _).symm.trans hf
    show W _ _ _ _ _ _ _ _ _ _ _ _ _ _ _ (F0 _ _ _ (.null :: _))
    refine lv_astore_nN (lv' := [(3, .null), (0, .ref a), (1, .int p1), (2, .int p2)]) hx hb dX7_key_8 rfl hl (by decide) rfl (fun ls hl => ?_)
    refine lv_aload_nN hx hb dX7_key_9 rfl (lv_at hl 0 rfl) ?_
    refine lv_ifnullN (tgt := 22) hx hb dX7_key_10 (by decide) ?_
    refine lv_ldc (v := (-2000000001)) hx hb hown (hts _ (xm 2 rfl)) dX7_key_22 ?_
    have q0 := Option.some.inj hf
    subst r0
    subst hQ
    refine x_iret (post := (fun H H1 => H1 = H)) S hr hlocks rfl ?_ hL dX7_key_24
    exact rfl
  · have hf := (xo_s _ _ _).symm.trans hf
    obtain ⟨hi_i_3, hf⟩ := xg_some hf
    show W _ _ _ _ _ _ _ _ _ _ _ _ _ _ _ (F0 _ _ _ (.ref ((a + 1) + (31 + i_3)) :: _))
    refine lv_astore_n (lv' := [(3, .ref ((a + 1) + (31 + i_3))), (0, .ref a), (1, .int p1), (2, .int p2)]) hx hb dX7_key_8 rfl hl (by decide) rfl (fun ls hl => ?_)
    refine lv_aload_n hx hb dX7_key_9 rfl (lv_at hl 0 rfl) ?_
    refine lv_ifnull hx hb dX7_key_10 ?_
    refine lv_iload_n hx hb dX7_key_13 rfl (lv_at hl 3 rfl) ?_
    refine lv_if_lt (tgt := 22) hx hb dX7_key_14 (by decide) (fun c_4 => ?_) (fun c_4 => ?_)
    · have hf := (if_pos c_4).symm.trans hf
      refine lv_ldc (v := (-2000000001)) hx hb hown (hts _ (xm 2 rfl)) dX7_key_22 ?_
      have q0 := Option.some.inj hf
      subst r0
      subst hQ
      refine x_iret (post := (fun H H1 => H1 = H)) S hr hlocks rfl ?_ hL dX7_key_24
      exact rfl
    · have hf := (if_neg c_4).symm.trans hf
      refine lv_iload_n hx hb dX7_key_17 rfl (lv_at hl 3 rfl) ?_
      refine lv_iconst (v := 4) hx hb dX7_key_18 (by decide) ?_
      refine lv_icmp_le (tgt := 25) hx hb dX7_key_19 (by decide) (fun c_5 => ?_) (fun c_5 => ?_)
      · have hf := (if_pos c_5).symm.trans hf
        refine lv_iload_n hx hb dX7_key_25 rfl (lv_at hl 3 rfl) ?_
        refine lv_if_ne (tgt := 34) hx hb dX7_key_26 (by decide) (fun c_6 => ?_) (fun c_6 => ?_)
        · have hf := (if_neg c_6).symm.trans hf
          refine lv_aload_n hx hb dX7_key_34 rfl (lv_at hl 1 rfl) ?_
          refine x_get S hK h_hl 0 (by decide) rfl rfl rfl in7 0 (by decide) (xm 1 rfl) (x := .ref (a + 1)) rfl dX7_key_35 ?_
          refine lv_aload_n hx hb dX7_key_38 rfl (lv_at hl 0 rfl) ?_
          refine x_get S hK h_bk (31 + i_3) (by omega) rfl (bkE_key G (a + 1) i_3 _) rfl in3 1 (by decide) (xm 4 rfl) (x := .int (v (31 + i_3) 1)) rfl dX7_key_39 ?_
          obtain ⟨o_7, e_8, hf⟩ := xb_some hf
          refine x_callVi (As := [.int (v (31 + i_3) 1)]) (rest := []) S hK (c_X0_hireAt l G z (a + 1) v (v (31 + i_3) 1) o_7 e_8) gX7_key_X0_hireAt rfl 1 (by decide +kernel) rfl ⟨Nat.le_of_ble_eq_true rfl, Nat.le_of_ble_eq_true rfl⟩ h_bk 0 (by decide) rfl rfl rfl h_bk hl.1 rfl (Nat.le_of_ble_eq_true rfl) dX7_key_42 hL ⟨Nat.zero_le _, Nat.zero_le _⟩ (fun H1 locs hL hpost => ?_)
          subst hpost
          obtain _ | i_9 := o_7
          · have hf := (xo_n _ _).symm.trans hf
            show W _ _ _ _ _ _ _ _ _ _ _ _ _ _ _ (F0 _ _ _ (.null :: _))
            refine lv_astoreN (lv' := [(4, .null), (3, .ref ((a + 1) + (31 + i_3))), (0, .ref a), (1, .int p1), (2, .int p2)]) hx hb dX7_key_45 hl (by decide) rfl (fun ls hl => ?_)
            refine lv_aloadN hx hb dX7_key_47 (lv_at hl 0 rfl) ?_
            refine lv_ifnonnullN hx hb dX7_key_49 ?_
            refine lv_ldc (v := (-2000000004)) hx hb hown (hts _ (xm 5 rfl)) dX7_key_52 ?_
            have q0 := Option.some.inj hf
            subst r0
            subst hQ
            refine x_iret (post := (fun H H1 => H1 = H)) S hr hlocks rfl ?_ hL dX7_key_54
            exact rfl
          · have hf := (xo_s _ _ _).symm.trans hf
            obtain ⟨hi_i_9, hf⟩ := xg_some hf
            show W _ _ _ _ _ _ _ _ _ _ _ _ _ _ _ (F0 _ _ _ (.ref ((a + 1) + (6 + 2 * i_9)) :: _))
            refine lv_astore (lv' := [(4, .ref ((a + 1) + (6 + 2 * i_9))), (3, .ref ((a + 1) + (31 + i_3))), (0, .ref a), (1, .int p1), (2, .int p2)]) hx hb dX7_key_45 hl (by decide) rfl (fun ls hl => ?_)
            refine lv_aload hx hb dX7_key_47 (lv_at hl 0 rfl) ?_
            refine lv_ifnonnull (tgt := 55) hx hb dX7_key_49 (by decide) ?_
            refine lv_iload_n hx hb dX7_key_55 rfl (lv_at hl 4 rfl) ?_
            by_cases c_10 : p2 = 1
            · have hf := (if_pos c_10).symm.trans hf
              refine x_tin (tgt := 84) (off := 28) S 1 c_10 dX7_key_56 (by decide) (by decide) (by decide) (by decide) ?_
              refine lv_aload hx hb dX7_key_84 (lv_at hl 0 rfl) ?_
              refine x_get S hK h_bk (6 + 2 * i_9) (by omega) rfl (bkE_hire G (a + 1) i_9 hi_i_9 _) rfl in1 1 (by decide) (xm 6 rfl) (x := .int (v (6 + 2 * i_9) 1)) rfl dX7_key_86 ?_
              have q0 := Option.some.inj hf
              subst r0
              subst hQ
              refine x_iret (post := (fun H H1 => H1 = H)) S hr hlocks rfl ?_ hL dX7_key_89
              exact rfl
            have hf := (if_neg c_10).symm.trans hf
            by_cases c_11 : p2 = 2
            · have hf := (if_pos c_11).symm.trans hf
              refine x_tin (tgt := 90) (off := 34) S 2 c_11 dX7_key_56 (by decide) (by decide) (by decide) (by decide) ?_
              refine lv_aload hx hb dX7_key_90 (lv_at hl 0 rfl) ?_
              refine x_get S hK h_bk (6 + 2 * i_9) (by omega) rfl (bkE_hire G (a + 1) i_9 hi_i_9 _) rfl in1 0 (by decide) (xm 7 rfl) (x := .int (v (6 + 2 * i_9) 0)) rfl dX7_key_92 ?_
              have q0 := Option.some.inj hf
              subst r0
              subst hQ
              refine x_iret (post := (fun H H1 => H1 = H)) S hr hlocks rfl ?_ hL dX7_key_95
              exact rfl
            have hf := (if_neg c_11).symm.trans hf
            by_cases c_12 : p2 = 3
            · have hf := (if_pos c_12).symm.trans hf
              refine x_tin (tgt := 96) (off := 40) S 3 c_12 dX7_key_56 (by decide) (by decide) (by decide) (by decide) ?_
              refine lv_aload_n hx hb dX7_key_96 rfl (lv_at hl 1 rfl) ?_
              refine x_get S hK h_bk (31 + i_3) (by omega) rfl (bkE_key G (a + 1) i_3 _) rfl in3 2 (by decide) (xm 8 rfl) (x := .int (v (31 + i_3) 2)) rfl dX7_key_97 ?_
              have q0 := Option.some.inj hf
              subst r0
              subst hQ
              refine x_iret (post := (fun H H1 => H1 = H)) S hr hlocks rfl ?_ hL dX7_key_100
              exact rfl
            have hf := (if_neg c_12).symm.trans hf
            have tc_10 : p2.toInt ≠ 1 := fun h9 => c_10 (xti (h9.trans (by decide)))
            have tc_11 : p2.toInt ≠ 2 := fun h9 => c_11 (xti (h9.trans (by decide)))
            have tc_12 : p2.toInt ≠ 3 := fun h9 => c_12 (xti (h9.trans (by decide)))
            refine lv_tableOut (tgt := 101) hx hb dX7_key_56 (by omega) (by decide) ?_
            refine lv_aload_n hx hb dX7_key_101 rfl (lv_at hl 1 rfl) ?_
            refine lv_aload_n hx hb dX7_key_102 rfl (lv_at hl 2 rfl) ?_
            refine x_get S hK h_hl 0 (by decide) rfl rfl rfl in7 0 (by decide) (xm 1 rfl) (x := .ref (a + 1)) rfl dX7_key_103 ?_
            refine x_get S hK h_bk 0 (by decide) rfl rfl rfl in0 0 (by decide) (xm 9 rfl) (x := .int (v 0 0)) rfl dX7_key_106 ?_
            obtain ⟨r_13, e_14, hf⟩ := xb_some hf
            refine x_callVi (As := [.int (v 0 0)]) (rest := []) S hK (c_X3_daysLate l G z (a + 1) v i_3 (v 0 0) r_13 hi_i_3 e_14) gX7_key_X3_daysLate rfl 1 (by decide +kernel) rfl ⟨Nat.le_of_ble_eq_true rfl, Nat.le_of_ble_eq_true rfl⟩ h_bk (31 + i_3) (by omega) rfl (bkE_key G (a + 1) i_3 _) rfl h_bk hl.1 rfl (Nat.le_of_ble_eq_true rfl) dX7_key_109 hL ⟨Nat.zero_le _, Nat.zero_le _⟩ (fun H1 locs hL hpost => ?_)
            subst hpost
            have q0 := Option.some.inj hf
            subst r0
            subst hQ
            refine x_iret (post := (fun H H1 => H1 = H)) S hr hlocks rfl ?_ hL dX7_key_112
            exact rfl
        · have hf := (if_pos c_6).symm.trans hf
          refine lv_aload_n hx hb dX7_key_29 rfl (lv_at hl 0 rfl) ?_
          refine x_get S hK h_bk (31 + i_3) (by omega) rfl (bkE_key G (a + 1) i_3 _) rfl in3 0 (by decide) (xm 3 rfl) (x := .int (v (31 + i_3) 0)) rfl dX7_key_30 ?_
          have q0 := Option.some.inj hf
          subst r0
          subst hQ
          refine x_iret (post := (fun H H1 => H1 = H)) S hr hlocks rfl ?_ hL dX7_key_33
          exact rfl
      · have hf := (if_neg c_5).symm.trans hf
        refine lv_ldc (v := (-2000000001)) hx hb hown (hts _ (xm 2 rfl)) dX7_key_22 ?_
        have q0 := Option.some.inj hf
        subst r0
        subst hQ
        refine x_iret (post := (fun H H1 => H1 = H)) S hr hlocks rfl ?_ hL dX7_key_24
        exact rfl
