/-! ===== the methods, walked (written by program) ===== -/
set_option maxRecDepth 100000 in
set_option maxHeartbeats 4000000 in
theorem c_X2_save (l : Launch) (G : xG) (z : Nat) (x : Nat) (b : Nat) (hv : xV) (kv : Nat → xV) (v : xV) (hv' : xV) (kv' : Nat → xV) (hz_hs : z ≤ x) (dj_hs_bk : x + 2 ≤ b ∨ b + 37 ≤ x) (dj_hu_bk : x + 150 ≤ b ∨ b + 37 ≤ x + 2) (hf : f_X2_save hv kv v = some (hv', kv')) : xM l yX2_save wsX2_save 3 83 G z [.ref x, .ref b] (fun H => PX G x 2 (hsE G x) hv H ∧ HU G x kv H ∧ PX G b 37 (bkE G b) v H) none (fun H H1 => PX G x 2 (hsE G x) hv' H1 ∧ HU G x kv' H1 ∧ XF (fun q => (x ≤ q ∧ q < x + 2) ∨ (x + 2 ≤ q ∧ q < x + 150)) H H1) := by
  refine xM.of (cc := cX2_save) (maxL := 2) (ret := none) (by decide +kernel) rfl (Nat.le_of_ble_eq_true rfl) ?_
  intro p e s m args below meth c ls Q hQ S hr hlocks hK hP hl
  obtain ⟨hx, hb, hml, hown, hts⟩ := id S
  obtain ⟨h_hs, h_hu, h_bk⟩ := hP
  have hL : ∀ q ∈ ([] : List Loc), z ≤ q.base := fun q h => absurd h List.not_mem_nil
  have hF : XF (fun q => (x ≤ q ∧ q < x + 2) ∨ (x + 2 ≤ q ∧ q < x + 150)) s.heap s.heap := XF.rf
  have hl : lv_has ls 2 [(0, .ref x), (1, .ref b)] := hl
  have in2 : ∀ w ∈ u_ws RX2 TX2 2, w ∈ wsX2_save := fun _ h => List.mem_cons_of_mem _ (List.mem_append_left _ (List.mem_append_left _ (List.mem_append_left _ (List.mem_append_right _ h))))
  unfold f_X2_save at hf
  refine lv_aload_n hx hb dX2_save_0 rfl (lv_at hl 0 rfl) ?_
  refine x_get S hK h_hs 0 (by decide) rfl rfl rfl in2 1 (by decide) (xm 1 rfl) (x := .int (hv 0 1)) rfl dX2_save_1 ?_
  refine lv_aload_n hx hb dX2_save_4 rfl (lv_at hl 0 rfl) ?_
  refine x_get S hK h_hs 0 (by decide) rfl rfl rfl in2 0 (by decide) (xm 2 rfl) (x := .ref (x + 1)) rfl dX2_save_5 ?_
  refine x_alen S hK h_hs 1 (by decide) rfl rfl 1 rfl (r := 4) rfl dX2_save_8 ?_
  refine lv_icmp_lt (tgt := 16) hx hb dX2_save_9 (by decide) (fun c_1 => ?_) (fun c_1 => ?_)
  · have hf := (if_pos c_1).symm.trans hf
    refine lv_aload_n hx hb dX2_save_16 rfl (lv_at hl 0 rfl) ?_
    refine x_get S hK h_hs 0 (by decide) rfl rfl rfl in2 1 (by decide) (xm 1 rfl) (x := .int (hv 0 1)) rfl dX2_save_17 ?_
    refine lv_if_lt (tgt := 58) hx hb dX2_save_20 (by decide) (fun c_2 => ?_) (fun c_2 => ?_)
    · have hf := (if_pos c_2).symm.trans hf
      obtain ⟨q0, qq0⟩ := Prod.mk.inj (Option.some.inj hf)
      have q1 := qq0
      subst hv'
      subst kv'
      subst hQ
      refine x_vret (post := (fun H H1 => PX G x 2 (hsE G x) hv H1 ∧ HU G x kv H1 ∧ XF (fun q => (x ≤ q ∧ q < x + 2) ∨ (x + 2 ≤ q ∧ q < x + 150)) H H1)) S hr hlocks rfl ?_ hL dX2_save_58
      exact ⟨h_hs, h_hu, hF⟩
    · have hf := (if_neg c_2).symm.trans hf
      refine lv_aload_n hx hb dX2_save_23 rfl (lv_at hl 0 rfl) ?_
      refine x_get S hK h_hs 0 (by decide) rfl rfl rfl in2 1 (by decide) (xm 1 rfl) (x := .int (hv 0 1)) rfl dX2_save_24 ?_
      refine lv_aload_n hx hb dX2_save_27 rfl (lv_at hl 0 rfl) ?_
      refine x_get S hK h_hs 0 (by decide) rfl rfl rfl in2 0 (by decide) (xm 2 rfl) (x := .ref (x + 1)) rfl dX2_save_28 ?_
      refine x_alen S hK h_hs 1 (by decide) rfl rfl 1 rfl (r := 4) rfl dX2_save_31 ?_
      refine lv_icmp_ge (tgt := 58) hx hb dX2_save_32 (by decide) (fun c_3 => ?_) (fun c_3 => ?_)
      · have hf := (if_pos c_3).symm.trans hf
        obtain ⟨q0, qq0⟩ := Prod.mk.inj (Option.some.inj hf)
        have q1 := qq0
        subst hv'
        subst kv'
        subst hQ
        refine x_vret (post := (fun H H1 => PX G x 2 (hsE G x) hv H1 ∧ HU G x kv H1 ∧ XF (fun q => (x ≤ q ∧ q < x + 2) ∨ (x + 2 ≤ q ∧ q < x + 150)) H H1)) S hr hlocks rfl ?_ hL dX2_save_58
        exact ⟨h_hs, h_hu, hF⟩
      · have hf := (if_neg c_3).symm.trans hf
        refine lv_aload_n hx hb dX2_save_35 rfl (lv_at hl 0 rfl) ?_
        refine x_get S hK h_hs 0 (by decide) rfl rfl rfl in2 0 (by decide) (xm 2 rfl) (x := .ref (x + 1)) rfl dX2_save_36 ?_
        refine lv_aload_n hx hb dX2_save_39 rfl (lv_at hl 0 rfl) ?_
        refine x_get S hK h_hs 0 (by decide) rfl rfl rfl in2 1 (by decide) (xm 1 rfl) (x := .int (hv 0 1)) rfl dX2_save_40 ?_
        obtain ⟨g_4, hf⟩ := xg_some hf
        obtain ⟨i_5, ei_5, hf⟩ := xl_some hf
        have hi_i_5 : i_5 < 4 := by rw [ei_5]; exact xin_lt g_4
        obtain ⟨i_6, ei_6, hf⟩ := xl_some hf
        obtain ⟨hi_i_6, hf⟩ := xg_some hf
        refine x_aald S hK h_hs 1 (by decide) rfl rfl 1 rfl i_5 ei_5.symm g_4 (r := (x + (2 + 37 * i_6))) (by show some _ = some _; rw [ei_6]) dX2_save_43 ?_
        refine lv_aload_n hx hb dX2_save_44 rfl (lv_at hl 1 rfl) ?_
        obtain ⟨v_7, e_8, hf⟩ := xb_some hf
        refine x_callVv (As := [.ref b]) (rest := []) S hK (c_X0_copyFrom l G z (x + (2 + 37 * i_6)) b (kv i_6) v v_7 (by omega) (by omega) e_8) gX2_save_X0_copyFrom rfl 1 (by decide +kernel) rfl ⟨Nat.le_of_ble_eq_true rfl, Nat.le_of_ble_eq_true rfl⟩ (h_hu i_6 hi_i_6) 0 (by decide) rfl rfl rfl ⟨(h_hu i_6 hi_i_6), h_bk⟩ hl.1 rfl (Nat.le_of_ble_eq_true rfl) dX2_save_45 hL ⟨Nat.zero_le _, Nat.zero_le _⟩ (fun H1 locs hL hpost => ?_)
        obtain ⟨n_bk, hfr⟩ := hpost
        obtain ⟨k_9, ek_9, hf⟩ := xl_some hf
        have h_hu := (h_hu.set hi_i_6 n_bk hfr (fun q h => by (try dsimp only at h); omega)).to ek_9
        have h_hs := h_hs.kept hfr (fun q h1 h2 h3 => by (try dsimp only at h3); omega)
        have h_bk := h_bk.kept hfr (fun q h1 h2 h3 => by (try dsimp only at h3); omega)
        have hF := hF.step hfr (fun q h => by (try dsimp only at h ⊢); omega)
        refine lv_aload_n hx hb dX2_save_48 rfl (lv_at hl 0 rfl) ?_
        refine lv_dup hx hb dX2_save_49 rfl ?_
        refine x_get S hK h_hs 0 (by decide) rfl rfl rfl in2 1 (by decide) (xm 1 rfl) (x := .int (hv 0 1)) rfl dX2_save_50 ?_
        refine lv_iconst (v := 1) hx hb dX2_save_53 (by decide) ?_
        refine lv_iadd hx hb dX2_save_54 ?_
        obtain ⟨hv_10, ehv_10, hf⟩ := xl_some hf
        refine x_put S hK h_hs hz_hs hL 0 (by decide) rfl rfl rfl in2 tyX2 tyX2_ok nmX2 1 (by decide) (xm 1 rfl) rfl (vp_nar_int _) rfl (Nat.le_of_ble_eq_true rfl) rfl ehv_10 dX2_save_55 (fun H1 locs hL h_hs hfr => ?_)
        have h_hu := h_hu.kept hfr (fun q h1 h2 h3 => by (try dsimp only at h3); omega)
        have h_bk := h_bk.kept hfr (fun q h1 h2 h3 => by (try dsimp only at h3); omega)
        have hF := hF.step hfr (fun q h => by (try dsimp only at h ⊢); omega)
        obtain ⟨q0, qq0⟩ := Prod.mk.inj (Option.some.inj hf)
        have q1 := qq0
        subst hv'
        subst kv'
        subst hQ
        refine x_vret (post := (fun H H1 => PX G x 2 (hsE G x) hv_10 H1 ∧ HU G x k_9 H1 ∧ XF (fun q => (x ≤ q ∧ q < x + 2) ∨ (x + 2 ≤ q ∧ q < x + 150)) H H1)) S hr hlocks rfl ?_ hL dX2_save_58
        exact ⟨h_hs, h_hu, hF⟩
  · have hf := (if_neg c_1).symm.trans hf
    refine lv_aload_n hx hb dX2_save_12 rfl (lv_at hl 0 rfl) ?_
    obtain ⟨hv_11, e_12, hf⟩ := xb_some hf
    refine x_callVv (As := []) (rest := []) S hK (c_X2_dropOldest l G z x hv kv hv_11 (by omega) e_12) gX2_save_X2_dropOldest rfl 0 (by decide +kernel) rfl ⟨Nat.le_of_ble_eq_true rfl, Nat.le_of_ble_eq_true rfl⟩ h_hs 0 (by decide) rfl rfl rfl ⟨h_hs, h_hu⟩ hl.1 rfl (Nat.le_of_ble_eq_true rfl) dX2_save_13 hL ⟨Nat.zero_le _, Nat.zero_le _⟩ (fun H1 locs hL hpost => ?_)
    obtain ⟨n_hs, hfr⟩ := hpost
    have h_hs := n_hs
    have h_hu := h_hu.kept hfr (fun q h1 h2 h3 => by (try dsimp only at h3); omega)
    have h_bk := h_bk.kept hfr (fun q h1 h2 h3 => by (try dsimp only at h3); omega)
    have hF := hF.step hfr (fun q h => by (try dsimp only at h ⊢); omega)
    refine lv_aload_n hx hb dX2_save_16 rfl (lv_at hl 0 rfl) ?_
    refine x_get S hK h_hs 0 (by decide) rfl rfl rfl in2 1 (by decide) (xm 1 rfl) (x := .int (hv_11 0 1)) rfl dX2_save_17 ?_
    refine lv_if_lt (tgt := 58) hx hb dX2_save_20 (by decide) (fun c_13 => ?_) (fun c_13 => ?_)
    · have hf := (if_pos c_13).symm.trans hf
      obtain ⟨q0, qq0⟩ := Prod.mk.inj (Option.some.inj hf)
      have q1 := qq0
      subst hv'
      subst kv'
      subst hQ
      refine x_vret (post := (fun H H1 => PX G x 2 (hsE G x) hv_11 H1 ∧ HU G x kv H1 ∧ XF (fun q => (x ≤ q ∧ q < x + 2) ∨ (x + 2 ≤ q ∧ q < x + 150)) H H1)) S hr hlocks rfl ?_ hL dX2_save_58
      exact ⟨h_hs, h_hu, hF⟩
    · have hf := (if_neg c_13).symm.trans hf
      refine lv_aload_n hx hb dX2_save_23 rfl (lv_at hl 0 rfl) ?_
      refine x_get S hK h_hs 0 (by decide) rfl rfl rfl in2 1 (by decide) (xm 1 rfl) (x := .int (hv_11 0 1)) rfl dX2_save_24 ?_
      refine lv_aload_n hx hb dX2_save_27 rfl (lv_at hl 0 rfl) ?_
      refine x_get S hK h_hs 0 (by decide) rfl rfl rfl in2 0 (by decide) (xm 2 rfl) (x := .ref (x + 1)) rfl dX2_save_28 ?_
      refine x_alen S hK h_hs 1 (by decide) rfl rfl 1 rfl (r := 4) rfl dX2_save_31 ?_
      refine lv_icmp_ge (tgt := 58) hx hb dX2_save_32 (by decide) (fun c_14 => ?_) (fun c_14 => ?_)
      · have hf := (if_pos c_14).symm.trans hf
        obtain ⟨q0, qq0⟩ := Prod.mk.inj (Option.some.inj hf)
        have q1 := qq0
        subst hv'
        subst kv'
        subst hQ
        refine x_vret (post := (fun H H1 => PX G x 2 (hsE G x) hv_11 H1 ∧ HU G x kv H1 ∧ XF (fun q => (x ≤ q ∧ q < x + 2) ∨ (x + 2 ≤ q ∧ q < x + 150)) H H1)) S hr hlocks rfl ?_ hL dX2_save_58
        exact ⟨h_hs, h_hu, hF⟩
      · have hf := (if_neg c_14).symm.trans hf
        refine lv_aload_n hx hb dX2_save_35 rfl (lv_at hl 0 rfl) ?_
        refine x_get S hK h_hs 0 (by decide) rfl rfl rfl in2 0 (by decide) (xm 2 rfl) (x := .ref (x + 1)) rfl dX2_save_36 ?_
        refine lv_aload_n hx hb dX2_save_39 rfl (lv_at hl 0 rfl) ?_
        refine x_get S hK h_hs 0 (by decide) rfl rfl rfl in2 1 (by decide) (xm 1 rfl) (x := .int (hv_11 0 1)) rfl dX2_save_40 ?_
        obtain ⟨g_15, hf⟩ := xg_some hf
        obtain ⟨i_16, ei_16, hf⟩ := xl_some hf
        have hi_i_16 : i_16 < 4 := by rw [ei_16]; exact xin_lt g_15
        obtain ⟨i_17, ei_17, hf⟩ := xl_some hf
        obtain ⟨hi_i_17, hf⟩ := xg_some hf
        refine x_aald S hK h_hs 1 (by decide) rfl rfl 1 rfl i_16 ei_16.symm g_15 (r := (x + (2 + 37 * i_17))) (by show some _ = some _; rw [ei_17]) dX2_save_43 ?_
        refine lv_aload_n hx hb dX2_save_44 rfl (lv_at hl 1 rfl) ?_
        obtain ⟨v_18, e_19, hf⟩ := xb_some hf
        refine x_callVv (As := [.ref b]) (rest := []) S hK (c_X0_copyFrom l G z (x + (2 + 37 * i_17)) b (kv i_17) v v_18 (by omega) (by omega) e_19) gX2_save_X0_copyFrom rfl 1 (by decide +kernel) rfl ⟨Nat.le_of_ble_eq_true rfl, Nat.le_of_ble_eq_true rfl⟩ (h_hu i_17 hi_i_17) 0 (by decide) rfl rfl rfl ⟨(h_hu i_17 hi_i_17), h_bk⟩ hl.1 rfl (Nat.le_of_ble_eq_true rfl) dX2_save_45 hL ⟨Nat.zero_le _, Nat.zero_le _⟩ (fun H1 locs hL hpost => ?_)
        obtain ⟨n_bk, hfr⟩ := hpost
        obtain ⟨k_20, ek_20, hf⟩ := xl_some hf
        have h_hu := (h_hu.set hi_i_17 n_bk hfr (fun q h => by (try dsimp only at h); omega)).to ek_20
        have h_hs := h_hs.kept hfr (fun q h1 h2 h3 => by (try dsimp only at h3); omega)
        have h_bk := h_bk.kept hfr (fun q h1 h2 h3 => by (try dsimp only at h3); omega)
        have hF := hF.step hfr (fun q h => by (try dsimp only at h ⊢); omega)
        refine lv_aload_n hx hb dX2_save_48 rfl (lv_at hl 0 rfl) ?_
        refine lv_dup hx hb dX2_save_49 rfl ?_
        refine x_get S hK h_hs 0 (by decide) rfl rfl rfl in2 1 (by decide) (xm 1 rfl) (x := .int (hv_11 0 1)) rfl dX2_save_50 ?_
        refine lv_iconst (v := 1) hx hb dX2_save_53 (by decide) ?_
        refine lv_iadd hx hb dX2_save_54 ?_
        obtain ⟨hv_21, ehv_21, hf⟩ := xl_some hf
        refine x_put S hK h_hs hz_hs hL 0 (by decide) rfl rfl rfl in2 tyX2 tyX2_ok nmX2 1 (by decide) (xm 1 rfl) rfl (vp_nar_int _) rfl (Nat.le_of_ble_eq_true rfl) rfl ehv_21 dX2_save_55 (fun H1 locs hL h_hs hfr => ?_)
        have h_hu := h_hu.kept hfr (fun q h1 h2 h3 => by (try dsimp only at h3); omega)
        have h_bk := h_bk.kept hfr (fun q h1 h2 h3 => by (try dsimp only at h3); omega)
        have hF := hF.step hfr (fun q h => by (try dsimp only at h ⊢); omega)
        obtain ⟨q0, qq0⟩ := Prod.mk.inj (Option.some.inj hf)
        have q1 := qq0
        subst hv'
        subst kv'
        subst hQ
        refine x_vret (post := (fun H H1 => PX G x 2 (hsE G x) hv_21 H1 ∧ HU G x k_20 H1 ∧ XF (fun q => (x ≤ q ∧ q < x + 2) ∨ (x + 2 ≤ q ∧ q < x + 150)) H H1)) S hr hlocks rfl ?_ hL dX2_save_58
        exact ⟨h_hs, h_hu, hF⟩
set_option maxRecDepth 100000 in
set_option maxHeartbeats 4000000 in
theorem c_X6_isInRange (l : Launch) (G : xG) (z : Nat) (w : Nat) (wv : xV) (p1 : Int32) (r0 : Int32)  (hf : f_X6_isInRange wv p1 = some r0) : xM l yX6_isInRange wsX6_isInRange 0 0 G z [.ref w, .int p1] (fun H => PX G w 1 wsE wv H) (some (.int r0)) (fun H H1 => H1 = H) := by
  refine xM.of (cc := cX6_isInRange) (maxL := 2) (ret := (some .boolean)) (by decide +kernel) rfl (Nat.le_of_ble_eq_true rfl) ?_
  intro p e s m args below meth c ls Q hQ S hr hlocks hK hP hl
  obtain ⟨hx, hb, hml, hown, hts⟩ := id S
  have h_ws := hP
  have hL : ∀ q ∈ ([] : List Loc), z ≤ q.base := fun q h => absurd h List.not_mem_nil
  have hl : lv_has ls 2 [(0, .ref w), (1, .int p1)] := hl
  have in6 : ∀ w ∈ u_ws RX6 TX6 7, w ∈ wsX6_isInRange := fun _ h => List.mem_cons_of_mem _ (List.mem_append_right _ h)
  unfold f_X6_isInRange at hf
  refine lv_aload_n hx hb dX6_isInRange_0 rfl (lv_at hl 0 rfl) ?_
  refine x_get S hK h_ws 0 (by decide) rfl rfl rfl in6 4 (by decide) (xm 1 rfl) (x := .int (wv 0 4)) rfl dX6_isInRange_1 ?_
  refine lv_iload_n hx hb dX6_isInRange_4 rfl (lv_at hl 1 rfl) ?_
  refine lv_icmp_lt (tgt := 83) hx hb dX6_isInRange_5 (by decide) (fun c_1 => ?_) (fun c_1 => ?_)
  · have hf := (if_pos c_1).symm.trans hf
    refine lv_iconst (v := 0) hx hb dX6_isInRange_83 (by decide) ?_
    have q0 := Option.some.inj hf
    subst r0
    subst hQ
    refine x_zret (post := (fun H H1 => H1 = H)) S hr hlocks (by decide) rfl ?_ hL dX6_isInRange_84
    exact rfl
  · have hf := (if_neg c_1).symm.trans hf
    refine lv_aload_n hx hb dX6_isInRange_8 rfl (lv_at hl 0 rfl) ?_
    refine x_get S hK h_ws 0 (by decide) rfl rfl rfl in6 4 (by decide) (xm 1 rfl) (x := .int (wv 0 4)) rfl dX6_isInRange_9 ?_
    refine lv_sipush (v := 364) hx hb dX6_isInRange_12 (by decide) ?_
    refine lv_icmp_gt (tgt := 83) hx hb dX6_isInRange_15 (by decide) (fun c_2 => ?_) (fun c_2 => ?_)
    · have hf := (if_pos c_2).symm.trans hf
      refine lv_iconst (v := 0) hx hb dX6_isInRange_83 (by decide) ?_
      have q0 := Option.some.inj hf
      subst r0
      subst hQ
      refine x_zret (post := (fun H H1 => H1 = H)) S hr hlocks (by decide) rfl ?_ hL dX6_isInRange_84
      exact rfl
    · have hf := (if_neg c_2).symm.trans hf
      refine lv_aload_n hx hb dX6_isInRange_18 rfl (lv_at hl 0 rfl) ?_
      refine x_get S hK h_ws 0 (by decide) rfl rfl rfl in6 2 (by decide) (xm 2 rfl) (x := .int (wv 0 2)) rfl dX6_isInRange_19 ?_
      refine lv_if_lt (tgt := 83) hx hb dX6_isInRange_22 (by decide) (fun c_3 => ?_) (fun c_3 => ?_)
      · have hf := (if_pos c_3).symm.trans hf
        refine lv_iconst (v := 0) hx hb dX6_isInRange_83 (by decide) ?_
        have q0 := Option.some.inj hf
        subst r0
        subst hQ
        refine x_zret (post := (fun H H1 => H1 = H)) S hr hlocks (by decide) rfl ?_ hL dX6_isInRange_84
        exact rfl
      · have hf := (if_neg c_3).symm.trans hf
        refine lv_aload_n hx hb dX6_isInRange_25 rfl (lv_at hl 0 rfl) ?_
        refine x_get S hK h_ws 0 (by decide) rfl rfl rfl in6 2 (by decide) (xm 2 rfl) (x := .int (wv 0 2)) rfl dX6_isInRange_26 ?_
        refine lv_aload_n hx hb dX6_isInRange_29 rfl (lv_at hl 0 rfl) ?_
        refine x_get S hK h_ws 0 (by decide) rfl rfl rfl in6 3 (by decide) (xm 3 rfl) (x := .int (wv 0 3)) rfl dX6_isInRange_30 ?_
        refine lv_icmp_ge (tgt := 83) hx hb dX6_isInRange_33 (by decide) (fun c_4 => ?_) (fun c_4 => ?_)
        · have hf := (if_pos c_4).symm.trans hf
          refine lv_iconst (v := 0) hx hb dX6_isInRange_83 (by decide) ?_
          have q0 := Option.some.inj hf
          subst r0
          subst hQ
          refine x_zret (post := (fun H H1 => H1 = H)) S hr hlocks (by decide) rfl ?_ hL dX6_isInRange_84
          exact rfl
        · have hf := (if_neg c_4).symm.trans hf
          refine lv_aload_n hx hb dX6_isInRange_36 rfl (lv_at hl 0 rfl) ?_
          refine x_get S hK h_ws 0 (by decide) rfl rfl rfl in6 3 (by decide) (xm 3 rfl) (x := .int (wv 0 3)) rfl dX6_isInRange_37 ?_
          refine lv_bipush (v := 24) hx hb dX6_isInRange_40 (by decide) ?_
          refine lv_icmp_gt (tgt := 83) hx hb dX6_isInRange_42 (by decide) (fun c_5 => ?_) (fun c_5 => ?_)
          · have hf := (if_pos c_5).symm.trans hf
            refine lv_iconst (v := 0) hx hb dX6_isInRange_83 (by decide) ?_
            have q0 := Option.some.inj hf
            subst r0
            subst hQ
            refine x_zret (post := (fun H H1 => H1 = H)) S hr hlocks (by decide) rfl ?_ hL dX6_isInRange_84
            exact rfl
          · have hf := (if_neg c_5).symm.trans hf
            refine lv_aload_n hx hb dX6_isInRange_45 rfl (lv_at hl 0 rfl) ?_
            refine x_get S hK h_ws 0 (by decide) rfl rfl rfl in6 5 (by decide) (xm 4 rfl) (x := .int (wv 0 5)) rfl dX6_isInRange_46 ?_
            refine lv_iconst (v := 1) hx hb dX6_isInRange_49 (by decide) ?_
            refine lv_icmp_lt (tgt := 83) hx hb dX6_isInRange_50 (by decide) (fun c_6 => ?_) (fun c_6 => ?_)
            · have hf := (if_pos c_6).symm.trans hf
              refine lv_iconst (v := 0) hx hb dX6_isInRange_83 (by decide) ?_
              have q0 := Option.some.inj hf
              subst r0
              subst hQ
              refine x_zret (post := (fun H H1 => H1 = H)) S hr hlocks (by decide) rfl ?_ hL dX6_isInRange_84
              exact rfl
            · have hf := (if_neg c_6).symm.trans hf
              refine lv_aload_n hx hb dX6_isInRange_53 rfl (lv_at hl 0 rfl) ?_
              refine x_get S hK h_ws 0 (by decide) rfl rfl rfl in6 5 (by decide) (xm 4 rfl) (x := .int (wv 0 5)) rfl dX6_isInRange_54 ?_
              refine lv_bipush (v := 20) hx hb dX6_isInRange_57 (by decide) ?_
              refine lv_icmp_gt (tgt := 83) hx hb dX6_isInRange_59 (by decide) (fun c_7 => ?_) (fun c_7 => ?_)
              · have hf := (if_pos c_7).symm.trans hf
                refine lv_iconst (v := 0) hx hb dX6_isInRange_83 (by decide) ?_
                have q0 := Option.some.inj hf
                subst r0
                subst hQ
                refine x_zret (post := (fun H H1 => H1 = H)) S hr hlocks (by decide) rfl ?_ hL dX6_isInRange_84
                exact rfl
              · have hf := (if_neg c_7).symm.trans hf
                refine lv_aload_n hx hb dX6_isInRange_62 rfl (lv_at hl 0 rfl) ?_
                refine x_get S hK h_ws 0 (by decide) rfl rfl rfl in6 6 (by decide) (xm 5 rfl) (x := .int (wv 0 6)) rfl dX6_isInRange_63 ?_
                refine lv_iconst (v := 1) hx hb dX6_isInRange_66 (by decide) ?_
                refine lv_icmp_lt (tgt := 83) hx hb dX6_isInRange_67 (by decide) (fun c_8 => ?_) (fun c_8 => ?_)
                · have hf := (if_pos c_8).symm.trans hf
                  refine lv_iconst (v := 0) hx hb dX6_isInRange_83 (by decide) ?_
                  have q0 := Option.some.inj hf
                  subst r0
                  subst hQ
                  refine x_zret (post := (fun H H1 => H1 = H)) S hr hlocks (by decide) rfl ?_ hL dX6_isInRange_84
                  exact rfl
                · have hf := (if_neg c_8).symm.trans hf
                  refine lv_aload_n hx hb dX6_isInRange_70 rfl (lv_at hl 0 rfl) ?_
                  refine x_get S hK h_ws 0 (by decide) rfl rfl rfl in6 6 (by decide) (xm 5 rfl) (x := .int (wv 0 6)) rfl dX6_isInRange_71 ?_
                  refine lv_bipush (v := 60) hx hb dX6_isInRange_74 (by decide) ?_
                  refine lv_icmp_gt (tgt := 83) hx hb dX6_isInRange_76 (by decide) (fun c_9 => ?_) (fun c_9 => ?_)
                  · have hf := (if_pos c_9).symm.trans hf
                    refine lv_iconst (v := 0) hx hb dX6_isInRange_83 (by decide) ?_
                    have q0 := Option.some.inj hf
                    subst r0
                    subst hQ
                    refine x_zret (post := (fun H H1 => H1 = H)) S hr hlocks (by decide) rfl ?_ hL dX6_isInRange_84
                    exact rfl
                  · have hf := (if_neg c_9).symm.trans hf
                    refine lv_iconst (v := 1) hx hb dX6_isInRange_79 (by decide) ?_
                    refine lv_goto (tgt := 84) hx hb dX6_isInRange_80 (by decide) ?_
                    have q0 := Option.some.inj hf
                    subst r0
                    subst hQ
                    refine x_zret (post := (fun H H1 => H1 = H)) S hr hlocks (by decide) rfl ?_ hL dX6_isInRange_84
                    exact rfl
set_option maxRecDepth 100000 in
set_option maxHeartbeats 4000000 in
theorem c_X6_lastDay (l : Launch) (G : xG) (z : Nat) (w : Nat) (wv : xV) (r0 : Int32)  (hf : f_X6_lastDay wv = some r0) : xM l yX6_lastDay wsX6_lastDay 0 0 G z [.ref w] (fun H => PX G w 1 wsE wv H) (some (.int r0)) (fun H H1 => H1 = H) := by
  refine xM.of (cc := cX6_lastDay) (maxL := 1) (ret := (some .int)) (by decide +kernel) rfl (Nat.le_of_ble_eq_true rfl) ?_
  intro p e s m args below meth c ls Q hQ S hr hlocks hK hP hl
  obtain ⟨hx, hb, hml, hown, hts⟩ := id S
  have h_ws := hP
  have hL : ∀ q ∈ ([] : List Loc), z ≤ q.base := fun q h => absurd h List.not_mem_nil
  have hl : lv_has ls 1 [(0, .ref w)] := hl
  have in6 : ∀ w ∈ u_ws RX6 TX6 7, w ∈ wsX6_lastDay := fun _ h => List.mem_cons_of_mem _ (List.mem_append_right _ h)
  unfold f_X6_lastDay at hf
  refine lv_aload_n hx hb dX6_lastDay_0 rfl (lv_at hl 0 rfl) ?_
  refine x_get S hK h_ws 0 (by decide) rfl rfl rfl in6 4 (by decide) (xm 1 rfl) (x := .int (wv 0 4)) rfl dX6_lastDay_1 ?_
  refine lv_aload_n hx hb dX6_lastDay_4 rfl (lv_at hl 0 rfl) ?_
  refine x_get S hK h_ws 0 (by decide) rfl rfl rfl in6 5 (by decide) (xm 2 rfl) (x := .int (wv 0 5)) rfl dX6_lastDay_5 ?_
  refine lv_iconst (v := 1) hx hb dX6_lastDay_8 (by decide) ?_
  refine lv_isub hx hb dX6_lastDay_9 ?_
  refine lv_aload_n hx hb dX6_lastDay_10 rfl (lv_at hl 0 rfl) ?_
  refine x_get S hK h_ws 0 (by decide) rfl rfl rfl in6 6 (by decide) (xm 3 rfl) (x := .int (wv 0 6)) rfl dX6_lastDay_11 ?_
  refine lv_imul hx hb dX6_lastDay_14 ?_
  refine lv_iadd hx hb dX6_lastDay_15 ?_
  have q0 := Option.some.inj hf
  subst r0
  subst hQ
  refine x_iret (post := (fun H H1 => H1 = H)) S hr hlocks rfl ?_ hL dX6_lastDay_16
  exact rfl
set_option maxRecDepth 100000 in
set_option maxHeartbeats 4000000 in
theorem c_X6_takeHours (l : Launch) (G : xG) (z : Nat) (w : Nat) (wv : xV) (p1 : Int32) (wv' : xV) (hz_ws : z ≤ w) (hf : f_X6_takeHours wv p1 = some wv') : xM l yX6_takeHours wsX6_takeHours 0 0 G z [.ref w, .int p1] (fun H => PX G w 1 wsE wv H) none (fun H H1 => PX G w 1 wsE wv' H1 ∧ XF (fun q => (w ≤ q ∧ q < w + 1)) H H1) := by
  refine xM.of (cc := cX6_takeHours) (maxL := 2) (ret := none) (by decide +kernel) rfl (Nat.le_of_ble_eq_true rfl) ?_
  intro p e s m args below meth c ls Q hQ S hr hlocks hK hP hl
  obtain ⟨hx, hb, hml, hown, hts⟩ := id S
  have h_ws := hP
  have hL : ∀ q ∈ ([] : List Loc), z ≤ q.base := fun q h => absurd h List.not_mem_nil
  have hF : XF (fun q => (w ≤ q ∧ q < w + 1)) s.heap s.heap := XF.rf
  have hl : lv_has ls 2 [(0, .ref w), (1, .int p1)] := hl
  have in6 : ∀ w ∈ u_ws RX6 TX6 7, w ∈ wsX6_takeHours := fun _ h => List.mem_cons_of_mem _ (List.mem_append_right _ h)
  unfold f_X6_takeHours at hf
  refine lv_aload_n hx hb dX6_takeHours_0 rfl (lv_at hl 0 rfl) ?_
  refine lv_iload_n hx hb dX6_takeHours_1 rfl (lv_at hl 1 rfl) ?_
  refine lv_if_ge (tgt := 9) hx hb dX6_takeHours_2 (by decide) (fun c_1 => ?_) (fun c_1 => ?_)
  · have hf := (if_pos c_1).symm.trans hf
    refine lv_iload_n hx hb dX6_takeHours_9 rfl (lv_at hl 1 rfl) ?_
    refine lv_bipush (v := 100) hx hb dX6_takeHours_10 (by decide) ?_
    refine lv_idiv hx hb dX6_takeHours_12 (by decide) ?_
    obtain ⟨wv_2, ewv_2, hf⟩ := xl_some hf
    refine x_put S hK h_ws hz_ws hL 0 (by decide) rfl rfl rfl in6 tyX6 tyX6_ok nmX6 2 (by decide) (xm 1 rfl) rfl (vp_nar_int _) rfl (Nat.le_of_ble_eq_true rfl) rfl ewv_2 dX6_takeHours_13 (fun H1 locs hL h_ws hfr => ?_)
    have hF := hF.step hfr (fun q h => by (try dsimp only at h ⊢); omega)
    refine lv_aload_n hx hb dX6_takeHours_16 rfl (lv_at hl 0 rfl) ?_
    refine lv_iload_n hx hb dX6_takeHours_17 rfl (lv_at hl 1 rfl) ?_
    refine lv_if_ge (tgt := 25) hx hb dX6_takeHours_18 (by decide) (fun c_3 => ?_) (fun c_3 => ?_)
    · have hf := (if_pos c_3).symm.trans hf
      refine lv_iload_n hx hb dX6_takeHours_25 rfl (lv_at hl 1 rfl) ?_
      refine lv_bipush (v := 100) hx hb dX6_takeHours_26 (by decide) ?_
      refine lv_irem hx hb dX6_takeHours_28 (by decide) ?_
      obtain ⟨wv_4, ewv_4, hf⟩ := xl_some hf
      refine x_put S hK h_ws hz_ws hL 0 (by decide) rfl rfl rfl in6 tyX6 tyX6_ok nmX6 3 (by decide) (xm 2 rfl) rfl (vp_nar_int _) rfl (Nat.le_of_ble_eq_true rfl) rfl ewv_4 dX6_takeHours_29 (fun H1 locs hL h_ws hfr => ?_)
      have hF := hF.step hfr (fun q h => by (try dsimp only at h ⊢); omega)
      have q0 := Option.some.inj hf
      subst wv'
      subst hQ
      refine x_vret (post := (fun H H1 => PX G w 1 wsE wv_4 H1 ∧ XF (fun q => (w ≤ q ∧ q < w + 1)) H H1)) S hr hlocks rfl ?_ hL dX6_takeHours_32
      exact ⟨h_ws, hF⟩
    · have hf := (if_neg c_3).symm.trans hf
      refine lv_iconst (v := (-1)) hx hb dX6_takeHours_21 (by decide) ?_
      refine lv_goto (tgt := 29) hx hb dX6_takeHours_22 (by decide) ?_
      obtain ⟨wv_5, ewv_5, hf⟩ := xl_some hf
      refine x_put S hK h_ws hz_ws hL 0 (by decide) rfl rfl rfl in6 tyX6 tyX6_ok nmX6 3 (by decide) (xm 2 rfl) rfl (vp_nar_int _) rfl (Nat.le_of_ble_eq_true rfl) rfl ewv_5 dX6_takeHours_29 (fun H1 locs hL h_ws hfr => ?_)
      have hF := hF.step hfr (fun q h => by (try dsimp only at h ⊢); omega)
      have q0 := Option.some.inj hf
      subst wv'
      subst hQ
      refine x_vret (post := (fun H H1 => PX G w 1 wsE wv_5 H1 ∧ XF (fun q => (w ≤ q ∧ q < w + 1)) H H1)) S hr hlocks rfl ?_ hL dX6_takeHours_32
      exact ⟨h_ws, hF⟩
  · have hf := (if_neg c_1).symm.trans hf
    refine lv_iconst (v := (-1)) hx hb dX6_takeHours_5 (by decide) ?_
    refine lv_goto (tgt := 13) hx hb dX6_takeHours_6 (by decide) ?_
    obtain ⟨wv_6, ewv_6, hf⟩ := xl_some hf
    refine x_put S hK h_ws hz_ws hL 0 (by decide) rfl rfl rfl in6 tyX6 tyX6_ok nmX6 2 (by decide) (xm 1 rfl) rfl (vp_nar_int _) rfl (Nat.le_of_ble_eq_true rfl) rfl ewv_6 dX6_takeHours_13 (fun H1 locs hL h_ws hfr => ?_)
    have hF := hF.step hfr (fun q h => by (try dsimp only at h ⊢); omega)
    refine lv_aload_n hx hb dX6_takeHours_16 rfl (lv_at hl 0 rfl) ?_
    refine lv_iload_n hx hb dX6_takeHours_17 rfl (lv_at hl 1 rfl) ?_
    refine lv_if_ge (tgt := 25) hx hb dX6_takeHours_18 (by decide) (fun c_7 => ?_) (fun c_7 => ?_)
    · have hf := (if_pos c_7).symm.trans hf
      refine lv_iload_n hx hb dX6_takeHours_25 rfl (lv_at hl 1 rfl) ?_
      refine lv_bipush (v := 100) hx hb dX6_takeHours_26 (by decide) ?_
      refine lv_irem hx hb dX6_takeHours_28 (by decide) ?_
      obtain ⟨wv_8, ewv_8, hf⟩ := xl_some hf
      refine x_put S hK h_ws hz_ws hL 0 (by decide) rfl rfl rfl in6 tyX6 tyX6_ok nmX6 3 (by decide) (xm 2 rfl) rfl (vp_nar_int _) rfl (Nat.le_of_ble_eq_true rfl) rfl ewv_8 dX6_takeHours_29 (fun H1 locs hL h_ws hfr => ?_)
      have hF := hF.step hfr (fun q h => by (try dsimp only at h ⊢); omega)
      have q0 := Option.some.inj hf
      subst wv'
      subst hQ
      refine x_vret (post := (fun H H1 => PX G w 1 wsE wv_8 H1 ∧ XF (fun q => (w ≤ q ∧ q < w + 1)) H H1)) S hr hlocks rfl ?_ hL dX6_takeHours_32
      exact ⟨h_ws, hF⟩
    · have hf := (if_neg c_7).symm.trans hf
      refine lv_iconst (v := (-1)) hx hb dX6_takeHours_21 (by decide) ?_
      refine lv_goto (tgt := 29) hx hb dX6_takeHours_22 (by decide) ?_
      obtain ⟨wv_9, ewv_9, hf⟩ := xl_some hf
      refine x_put S hK h_ws hz_ws hL 0 (by decide) rfl rfl rfl in6 tyX6 tyX6_ok nmX6 3 (by decide) (xm 2 rfl) rfl (vp_nar_int _) rfl (Nat.le_of_ble_eq_true rfl) rfl ewv_9 dX6_takeHours_29 (fun H1 locs hL h_ws hfr => ?_)
      have hF := hF.step hfr (fun q h => by (try dsimp only at h ⊢); omega)
      have q0 := Option.some.inj hf
      subst wv'
      subst hQ
      refine x_vret (post := (fun H H1 => PX G w 1 wsE wv_9 H1 ∧ XF (fun q => (w ≤ q ∧ q < w + 1)) H H1)) S hr hlocks rfl ?_ hL dX6_takeHours_32
      exact ⟨h_ws, hF⟩
set_option maxRecDepth 100000 in
set_option maxHeartbeats 4000000 in
theorem c_X6_takeSeries (l : Launch) (G : xG) (z : Nat) (w : Nat) (wv : xV) (p1 : Int32) (p2 : Int32) (p3 : Int32) (wv' : xV) (hz_ws : z ≤ w) (hf : f_X6_takeSeries wv p1 p2 p3 = some wv') : xM l yX6_takeSeries wsX6_takeSeries 0 0 G z [.ref w, .int p1, .int p2, .int p3] (fun H => PX G w 1 wsE wv H) none (fun H H1 => PX G w 1 wsE wv' H1 ∧ XF (fun q => (w ≤ q ∧ q < w + 1)) H H1) := by
  refine xM.of (cc := cX6_takeSeries) (maxL := 4) (ret := none) (by decide +kernel) rfl (Nat.le_of_ble_eq_true rfl) ?_
  intro p e s m args below meth c ls Q hQ S hr hlocks hK hP hl
  obtain ⟨hx, hb, hml, hown, hts⟩ := id S
  have h_ws := hP
  have hL : ∀ q ∈ ([] : List Loc), z ≤ q.base := fun q h => absurd h List.not_mem_nil
  have hF : XF (fun q => (w ≤ q ∧ q < w + 1)) s.heap s.heap := XF.rf
  have hl : lv_has ls 4 [(0, .ref w), (1, .int p1), (2, .int p2), (3, .int p3)] := hl
  have in6 : ∀ w ∈ u_ws RX6 TX6 7, w ∈ wsX6_takeSeries := fun _ h => List.mem_cons_of_mem _ (List.mem_append_right _ h)
  unfold f_X6_takeSeries at hf
  refine lv_aload_n hx hb dX6_takeSeries_0 rfl (lv_at hl 0 rfl) ?_
  refine lv_iload_n hx hb dX6_takeSeries_1 rfl (lv_at hl 1 rfl) ?_
  obtain ⟨wv_1, ewv_1, hf⟩ := xl_some hf
  refine x_put S hK h_ws hz_ws hL 0 (by decide) rfl rfl rfl in6 tyX6 tyX6_ok nmX6 4 (by decide) (xm 1 rfl) rfl (vp_nar_int _) rfl (Nat.le_of_ble_eq_true rfl) rfl ewv_1 dX6_takeSeries_2 (fun H1 locs hL h_ws hfr => ?_)
  have hF := hF.step hfr (fun q h => by (try dsimp only at h ⊢); omega)
  refine lv_aload_n hx hb dX6_takeSeries_5 rfl (lv_at hl 0 rfl) ?_
  refine lv_iload_n hx hb dX6_takeSeries_6 rfl (lv_at hl 2 rfl) ?_
  obtain ⟨wv_2, ewv_2, hf⟩ := xl_some hf
  refine x_put S hK h_ws hz_ws hL 0 (by decide) rfl rfl rfl in6 tyX6 tyX6_ok nmX6 5 (by decide) (xm 2 rfl) rfl (vp_nar_int _) rfl (Nat.le_of_ble_eq_true rfl) rfl ewv_2 dX6_takeSeries_7 (fun H1 locs hL h_ws hfr => ?_)
  have hF := hF.step hfr (fun q h => by (try dsimp only at h ⊢); omega)
  refine lv_aload_n hx hb dX6_takeSeries_10 rfl (lv_at hl 0 rfl) ?_
  refine lv_iload_n hx hb dX6_takeSeries_11 rfl (lv_at hl 3 rfl) ?_
  obtain ⟨wv_3, ewv_3, hf⟩ := xl_some hf
  refine x_put S hK h_ws hz_ws hL 0 (by decide) rfl rfl rfl in6 tyX6 tyX6_ok nmX6 6 (by decide) (xm 3 rfl) rfl (vp_nar_int _) rfl (Nat.le_of_ble_eq_true rfl) rfl ewv_3 dX6_takeSeries_12 (fun H1 locs hL h_ws hfr => ?_)
  have hF := hF.step hfr (fun q h => by (try dsimp only at h ⊢); omega)
  have q0 := Option.some.inj hf
  subst wv'
  subst hQ
  refine x_vret (post := (fun H H1 => PX G w 1 wsE wv_3 H1 ∧ XF (fun q => (w ≤ q ∧ q < w + 1)) H H1)) S hr hlocks rfl ?_ hL dX6_takeSeries_15
  exact ⟨h_ws, hF⟩
set_option maxRecDepth 100000 in
set_option maxHeartbeats 4000000 in
theorem c_X7_addHirer (l : Launch) (G : xG) (z : Nat) (a : Nat) (dv : xV) (v : xV) (hv : xV) (kv : Nat → xV) (r0 : Int32) (v' : xV) (hv' : xV) (kv' : Nat → xV) (hz_bk : z ≤ (a + 1)) (hz_hs : z ≤ (a + 38)) (hf : f_X7_addHirer dv v hv kv = some (r0, v', hv', kv')) : xM l yX7_addHirer wsX7_addHirer 4 104 G z [.ref a] (fun H => PX G a 1 (hlE a) dv H ∧ PX G (a + 1) 37 (bkE G (a + 1)) v H ∧ PX G (a + 38) 2 (hsE G (a + 38)) hv H ∧ HU G (a + 38) kv H) (some (.int r0)) (fun H H1 => PX G (a + 1) 37 (bkE G (a + 1)) v' H1 ∧ PX G (a + 38) 2 (hsE G (a + 38)) hv' H1 ∧ HU G (a + 38) kv' H1 ∧ XF (fun q => ((a + 1) ≤ q ∧ q < (a + 1) + 37) ∨ ((a + 38) ≤ q ∧ q < (a + 38) + 2) ∨ ((a + 38) + 2 ≤ q ∧ q < (a + 38) + 150)) H H1) := by
  refine xM.of (cc := cX7_addHirer) (maxL := 1) (ret := (some .int)) (by decide +kernel) rfl (Nat.le_of_ble_eq_true rfl) ?_
  intro p e s m args below meth c ls Q hQ S hr hlocks hK hP hl
  obtain ⟨hx, hb, hml, hown, hts⟩ := id S
  obtain ⟨h_hl, h_bk, h_hs, h_hu⟩ := hP
  have hL : ∀ q ∈ ([] : List Loc), z ≤ q.base := fun q h => absurd h List.not_mem_nil
  have hF : XF (fun q => ((a + 1) ≤ q ∧ q < (a + 1) + 37) ∨ ((a + 38) ≤ q ∧ q < (a + 38) + 2) ∨ ((a + 38) + 2 ≤ q ∧ q < (a + 38) + 150)) s.heap s.heap := XF.rf
  have hl : lv_has ls 1 [(0, .ref a)] := hl
  have in0 : ∀ w ∈ u_ws RX0 TX0 9, w ∈ wsX7_addHirer := fun _ h => List.mem_cons_of_mem _ (List.mem_append_left _ (List.mem_append_left _ (List.mem_append_left _ (List.mem_append_right _ h))))
  have in7 : ∀ w ∈ u_ws RX7 TX7 6, w ∈ wsX7_addHirer := fun _ h => List.mem_cons_of_mem _ (List.mem_append_left _ (List.mem_append_left _ (List.mem_append_left _ (List.mem_append_left _ (List.mem_append_right _ h)))))
  unfold f_X7_addHirer at hf
  refine lv_aload_n hx hb dX7_addHirer_0 rfl (lv_at hl 0 rfl) ?_
  refine x_get S hK h_hl 0 (by decide) rfl rfl rfl in7 0 (by decide) (xm 1 rfl) (x := .ref (a + 1)) rfl dX7_addHirer_1 ?_
  refine x_get S hK h_bk 0 (by decide) rfl rfl rfl in0 1 (by decide) (xm 2 rfl) (x := .int (v 0 1)) rfl dX7_addHirer_4 ?_
  refine lv_bipush (v := 10) hx hb dX7_addHirer_7 (by decide) ?_
  refine lv_icmp_lt (tgt := 15) hx hb dX7_addHirer_9 (by decide) (fun c_1 => ?_) (fun c_1 => ?_)
  · have hf := (if_pos c_1).symm.trans hf
    refine lv_aload_n hx hb dX7_addHirer_15 rfl (lv_at hl 0 rfl) ?_
    refine x_get S hK h_hl 0 (by decide) rfl rfl rfl in7 1 (by decide) (xm 4 rfl) (x := .ref (a + 38)) rfl dX7_addHirer_16 ?_
    refine lv_aload_n hx hb dX7_addHirer_19 rfl (lv_at hl 0 rfl) ?_
    refine x_get S hK h_hl 0 (by decide) rfl rfl rfl in7 0 (by decide) (xm 1 rfl) (x := .ref (a + 1)) rfl dX7_addHirer_20 ?_
    obtain ⟨hv_2, kv_3, e_4, hf⟩ := xb2_some hf
    refine x_callVv (As := [.ref (a + 1)]) (rest := []) S hK (c_X2_save l G z (a + 38) (a + 1) hv kv v hv_2 kv_3 (by omega) (by omega) (by omega) e_4) gX7_addHirer_X2_save rfl 1 (by decide +kernel) rfl ⟨Nat.le_of_ble_eq_true rfl, Nat.le_of_ble_eq_true rfl⟩ h_hs 0 (by decide) rfl rfl rfl ⟨h_hs, h_hu, h_bk⟩ hl.1 rfl (Nat.le_of_ble_eq_true rfl) dX7_addHirer_23 hL ⟨Nat.zero_le _, Nat.zero_le _⟩ (fun H1 locs hL hpost => ?_)
    obtain ⟨n_hs, n_hu, hfr⟩ := hpost
    have h_hs := n_hs
    have h_hu := n_hu
    have h_hl := h_hl.kept hfr (fun q h1 h2 h3 => by (try dsimp only at h3); omega)
    have h_bk := h_bk.kept hfr (fun q h1 h2 h3 => by (try dsimp only at h3); omega)
    have hF := hF.step hfr (fun q h => by (try dsimp only at h ⊢); omega)
    refine lv_aload_n hx hb dX7_addHirer_26 rfl (lv_at hl 0 rfl) ?_
    refine x_get S hK h_hl 0 (by decide) rfl rfl rfl in7 0 (by decide) (xm 1 rfl) (x := .ref (a + 1)) rfl dX7_addHirer_27 ?_
    refine lv_dup hx hb dX7_addHirer_30 rfl ?_
    refine x_get S hK h_bk 0 (by decide) rfl rfl rfl in0 1 (by decide) (xm 2 rfl) (x := .int (v 0 1)) rfl dX7_addHirer_31 ?_
    refine lv_iconst (v := 1) hx hb dX7_addHirer_34 (by decide) ?_
    refine lv_iadd hx hb dX7_addHirer_35 ?_
    obtain ⟨v_5, ev_5, hf⟩ := xl_some hf
    refine x_put S hK h_bk hz_bk hL 0 (by decide) rfl rfl rfl in0 tyX0 tyX0_ok nmX0 1 (by decide) (xm 2 rfl) rfl (vp_nar_int _) rfl (Nat.le_of_ble_eq_true rfl) rfl ev_5 dX7_addHirer_36 (fun H1 locs hL h_bk hfr => ?_)
    have h_hl := h_hl.kept hfr (fun q h1 h2 h3 => by (try dsimp only at h3); omega)
    have h_hs := h_hs.kept hfr (fun q h1 h2 h3 => by (try dsimp only at h3); omega)
    have h_hu := h_hu.kept hfr (fun q h1 h2 h3 => by (try dsimp only at h3); omega)
    have hF := hF.step hfr (fun q h => by (try dsimp only at h ⊢); omega)
    refine lv_aload_n hx hb dX7_addHirer_39 rfl (lv_at hl 0 rfl) ?_
    refine x_get S hK h_hl 0 (by decide) rfl rfl rfl in7 0 (by decide) (xm 1 rfl) (x := .ref (a + 1)) rfl dX7_addHirer_40 ?_
    refine x_get S hK h_bk 0 (by decide) rfl rfl rfl in0 1 (by decide) (xm 2 rfl) (x := .int (v_5 0 1)) rfl dX7_addHirer_43 ?_
    refine lv_iconst (v := 1) hx hb dX7_addHirer_46 (by decide) ?_
    refine lv_isub hx hb dX7_addHirer_47 ?_
    obtain ⟨q0, qq0⟩ := Prod.mk.inj (Option.some.inj hf)
    obtain ⟨q1, qq1⟩ := Prod.mk.inj (qq0)
    obtain ⟨q2, qq2⟩ := Prod.mk.inj (qq1)
    have q3 := qq2
    subst r0
    subst v'
    subst hv'
    subst kv'
    subst hQ
    refine x_iret (post := (fun H H1 => PX G (a + 1) 37 (bkE G (a + 1)) v_5 H1 ∧ PX G (a + 38) 2 (hsE G (a + 38)) hv_2 H1 ∧ HU G (a + 38) kv_3 H1 ∧ XF (fun q => ((a + 1) ≤ q ∧ q < (a + 1) + 37) ∨ ((a + 38) ≤ q ∧ q < (a + 38) + 2) ∨ ((a + 38) + 2 ≤ q ∧ q < (a + 38) + 150)) H H1)) S hr hlocks rfl ?_ hL dX7_addHirer_48
    exact ⟨h_bk, h_hs, h_hu, hF⟩
  · have hf := (if_neg c_1).symm.trans hf
    refine lv_ldc (v := (-2000000003)) hx hb hown (hts _ (xm 3 rfl)) dX7_addHirer_12 ?_
    obtain ⟨q0, qq0⟩ := Prod.mk.inj (Option.some.inj hf)
    obtain ⟨q1, qq1⟩ := Prod.mk.inj (qq0)
    obtain ⟨q2, qq2⟩ := Prod.mk.inj (qq1)
    have q3 := qq2
    subst r0
    subst v'
    subst hv'
    subst kv'
    subst hQ
    refine x_iret (post := (fun H H1 => PX G (a + 1) 37 (bkE G (a + 1)) v H1 ∧ PX G (a + 38) 2 (hsE G (a + 38)) hv H1 ∧ HU G (a + 38) kv H1 ∧ XF (fun q => ((a + 1) ≤ q ∧ q < (a + 1) + 37) ∨ ((a + 38) ≤ q ∧ q < (a + 38) + 2) ∨ ((a + 38) + 2 ≤ q ∧ q < (a + 38) + 150)) H H1)) S hr hlocks rfl ?_ hL dX7_addHirer_14
    exact ⟨h_bk, h_hs, h_hu, hF⟩
set_option maxRecDepth 100000 in
set_option maxHeartbeats 4000000 in
theorem c_X7_areRooms (l : Launch) (G : xG) (z : Nat) (p1 : Int32) (r0 : Int32)  (hf : f_X7_areRooms p1 = some r0) : xM l yX7_areRooms wsX7_areRooms 0 0 G z [.int p1] (fun H => H = H) (some (.int r0)) (fun H H1 => H1 = H) := by
  refine xM.of (cc := cX7_areRooms) (maxL := 1) (ret := (some .boolean)) (by decide +kernel) rfl (Nat.le_of_ble_eq_true rfl) ?_
  intro p e s m args below meth c ls Q hQ S hr hlocks hK hP hl
  obtain ⟨hx, hb, hml, hown, hts⟩ := id S
  have hL : ∀ q ∈ ([] : List Loc), z ≤ q.base := fun q h => absurd h List.not_mem_nil
  have hl : lv_has ls 1 [(0, .int p1)] := hl
  unfold f_X7_areRooms at hf
  refine lv_iload_n hx hb dX7_areRooms_0 rfl (lv_at hl 0 rfl) ?_
  refine lv_iconst (v := 1) hx hb dX7_areRooms_1 (by decide) ?_
  refine lv_icmp_lt (tgt := 15) hx hb dX7_areRooms_2 (by decide) (fun c_1 => ?_) (fun c_1 => ?_)
  · have hf := (if_pos c_1).symm.trans hf
    refine lv_iconst (v := 0) hx hb dX7_areRooms_15 (by decide) ?_
    have q0 := Option.some.inj hf
    subst r0
    subst hQ
    refine x_zret (post := (fun H H1 => H1 = H)) S hr hlocks (by decide) rfl ?_ hL dX7_areRooms_16
    exact rfl
  · have hf := (if_neg c_1).symm.trans hf
    refine lv_iload_n hx hb dX7_areRooms_5 rfl (lv_at hl 0 rfl) ?_
    refine lv_bipush (v := 7) hx hb dX7_areRooms_6 (by decide) ?_
    refine lv_icmp_gt (tgt := 15) hx hb dX7_areRooms_8 (by decide) (fun c_2 => ?_) (fun c_2 => ?_)
    · have hf := (if_pos c_2).symm.trans hf
      refine lv_iconst (v := 0) hx hb dX7_areRooms_15 (by decide) ?_
      have q0 := Option.some.inj hf
      subst r0
      subst hQ
      refine x_zret (post := (fun H H1 => H1 = H)) S hr hlocks (by decide) rfl ?_ hL dX7_areRooms_16
      exact rfl
    · have hf := (if_neg c_2).symm.trans hf
      refine lv_iconst (v := 1) hx hb dX7_areRooms_11 (by decide) ?_
      refine lv_goto (tgt := 16) hx hb dX7_areRooms_12 (by decide) ?_
      have q0 := Option.some.inj hf
      subst r0
      subst hQ
      refine x_zret (post := (fun H H1 => H1 = H)) S hr hlocks (by decide) rfl ?_ hL dX7_areRooms_16
      exact rfl
set_option maxRecDepth 100000 in
set_option maxHeartbeats 4000000 in
theorem c_X7_bringBack (l : Launch) (G : xG) (z : Nat) (a : Nat) (dv : xV) (v : xV) (hv : xV) (kv : Nat → xV) (p1 : Int32) (r0 : Int32) (v' : xV) (hv' : xV) (kv' : Nat → xV) (hz_bk : z ≤ (a + 1)) (hz_hs : z ≤ (a + 38)) (hf : f_X7_bringBack dv v hv kv p1 = some (r0, v', hv', kv')) : xM l yX7_bringBack wsX7_bringBack 4 104 G z [.ref a, .int p1] (fun H => PX G a 1 (hlE a) dv H ∧ PX G (a + 1) 37 (bkE G (a + 1)) v H ∧ PX G (a + 38) 2 (hsE G (a + 38)) hv H ∧ HU G (a + 38) kv H) (some (.int r0)) (fun H H1 => PX G (a + 1) 37 (bkE G (a + 1)) v' H1 ∧ PX G (a + 38) 2 (hsE G (a + 38)) hv' H1 ∧ HU G (a + 38) kv' H1 ∧ XF (fun q => ((a + 1) ≤ q ∧ q < (a + 1) + 37) ∨ ((a + 38) ≤ q ∧ q < (a + 38) + 2) ∨ ((a + 38) + 2 ≤ q ∧ q < (a + 38) + 150)) H H1) := by
  refine xM.of (cc := cX7_bringBack) (maxL := 4) (ret := (some .int)) (by decide +kernel) rfl (Nat.le_of_ble_eq_true rfl) ?_
  intro p e s m args below meth c ls Q hQ S hr hlocks hK hP hl
  obtain ⟨hx, hb, hml, hown, hts⟩ := id S
  obtain ⟨h_hl, h_bk, h_hs, h_hu⟩ := hP
  have hL : ∀ q ∈ ([] : List Loc), z ≤ q.base := fun q h => absurd h List.not_mem_nil
  have hF : XF (fun q => ((a + 1) ≤ q ∧ q < (a + 1) + 37) ∨ ((a + 38) ≤ q ∧ q < (a + 38) + 2) ∨ ((a + 38) + 2 ≤ q ∧ q < (a + 38) + 150)) s.heap s.heap := XF.rf
  have hl : lv_has ls 4 [(0, .ref a), (1, .int p1)] := hl
  have in0 : ∀ w ∈ u_ws RX0 TX0 9, w ∈ wsX7_bringBack := fun _ h => List.mem_cons_of_mem _ (List.mem_append_left _ (List.mem_append_left _ (List.mem_append_right _ h)))
  have in3 : ∀ w ∈ u_ws RX3 TX3 3, w ∈ wsX7_bringBack := fun _ h => List.mem_cons_of_mem _ (List.mem_append_left _ (List.mem_append_left _ (List.mem_append_left _ (List.mem_append_right _ h))))
  have in7 : ∀ w ∈ u_ws RX7 TX7 6, w ∈ wsX7_bringBack := fun _ h => List.mem_cons_of_mem _ (List.mem_append_left _ (List.mem_append_left _ (List.mem_append_left _ (List.mem_append_left _ (List.mem_append_right _ h)))))
  unfold f_X7_bringBack at hf
  refine lv_aload_n hx hb dX7_bringBack_0 rfl (lv_at hl 0 rfl) ?_
  refine x_get S hK h_hl 0 (by decide) rfl rfl rfl in7 0 (by decide) (xm 1 rfl) (x := .ref (a + 1)) rfl dX7_bringBack_1 ?_
  refine lv_iload_n hx hb dX7_bringBack_4 rfl (lv_at hl 1 rfl) ?_
  obtain ⟨o_1, e_2, hf⟩ := xb_some hf
  refine x_callVi (As := [.int p1]) (rest := []) S hK (c_X0_keyAt l G z (a + 1) v p1 o_1 e_2) gX7_bringBack_X0_keyAt rfl 1 (by decide +kernel) rfl ⟨Nat.le_of_ble_eq_true rfl, Nat.le_of_ble_eq_true rfl⟩ h_bk 0 (by decide) rfl rfl rfl h_bk hl.1 rfl (Nat.le_of_ble_eq_true rfl) dX7_bringBack_5 hL ⟨Nat.zero_le _, Nat.zero_le _⟩ (fun H1 locs hL hpost => ?_)
  subst hpost
  obtain _ | i_3 := o_1
  · have hf := (xo_n _ _).symm.trans hf
    show W _ _ _ _ _ _ _ _ _ _ _ _ _ _ _ (F0 _ _ _ (.null :: _))
    refine lv_astore_nN (lv' := [(2, .null), (0, .ref a), (1, .int p1)]) hx hb dX7_bringBack_8 rfl hl (by decide) rfl (fun ls hl => ?_)
    refine lv_aload_nN hx hb dX7_bringBack_9 rfl (lv_at hl 0 rfl) ?_
    refine lv_ifnonnullN hx hb dX7_bringBack_10 ?_
    refine lv_ldc (v := (-2000000001)) hx hb hown (hts _ (xm 2 rfl)) dX7_bringBack_13 ?_
    obtain ⟨q0, qq0⟩ := Prod.mk.inj (Option.some.inj hf)
    obtain ⟨q1, qq1⟩ := Prod.mk.inj (qq0)
    obtain ⟨q2, qq2⟩ := Prod.mk.inj (qq1)
    have q3 := qq2
    subst r0
    subst v'
    subst hv'
    subst kv'
    subst hQ
    refine x_iret (post := (fun H H1 => PX G (a + 1) 37 (bkE G (a + 1)) v H1 ∧ PX G (a + 38) 2 (hsE G (a + 38)) hv H1 ∧ HU G (a + 38) kv H1 ∧ XF (fun q => ((a + 1) ≤ q ∧ q < (a + 1) + 37) ∨ ((a + 38) ≤ q ∧ q < (a + 38) + 2) ∨ ((a + 38) + 2 ≤ q ∧ q < (a + 38) + 150)) H H1)) S hr hlocks rfl ?_ hL dX7_bringBack_15
    exact ⟨h_bk, h_hs, h_hu, hF⟩
  · have hf := (xo_s _ _ _).symm.trans hf
    obtain ⟨hi_i_3, hf⟩ := xg_some hf
    show W _ _ _ _ _ _ _ _ _ _ _ _ _ _ _ (F0 _ _ _ (.ref ((a + 1) + (31 + i_3)) :: _))
    refine lv_astore_n (lv' := [(2, .ref ((a + 1) + (31 + i_3))), (0, .ref a), (1, .int p1)]) hx hb dX7_bringBack_8 rfl hl (by decide) rfl (fun ls hl => ?_)
    refine lv_aload_n hx hb dX7_bringBack_9 rfl (lv_at hl 0 rfl) ?_
    refine lv_ifnonnull (tgt := 16) hx hb dX7_bringBack_10 (by decide) ?_
    refine lv_aload_n hx hb dX7_bringBack_16 rfl (lv_at hl 0 rfl) ?_
    refine x_get S hK h_bk (31 + i_3) (by omega) rfl (bkE_key G (a + 1) i_3 _) rfl in3 1 (by decide) (xm 3 rfl) (x := .int (v (31 + i_3) 1)) rfl dX7_bringBack_17 ?_
    refine lv_iconst (v := (-1)) hx hb dX7_bringBack_20 (by decide) ?_
    refine lv_icmp_ne (tgt := 27) hx hb dX7_bringBack_21 (by decide) (fun c_4 => ?_) (fun c_4 => ?_)
    · have hf := (if_neg c_4).symm.trans hf
      refine lv_aload_n hx hb dX7_bringBack_27 rfl (lv_at hl 1 rfl) ?_
      refine x_get S hK h_hl 0 (by decide) rfl rfl rfl in7 1 (by decide) (xm 5 rfl) (x := .ref (a + 38)) rfl dX7_bringBack_28 ?_
      refine lv_aload_n hx hb dX7_bringBack_31 rfl (lv_at hl 1 rfl) ?_
      refine x_get S hK h_hl 0 (by decide) rfl rfl rfl in7 0 (by decide) (xm 1 rfl) (x := .ref (a + 1)) rfl dX7_bringBack_32 ?_
      obtain ⟨hv_5, kv_6, e_7, hf⟩ := xb2_some hf
      refine x_callVv (As := [.ref (a + 1)]) (rest := []) S hK (c_X2_save l G z (a + 38) (a + 1) hv kv v hv_5 kv_6 (by omega) (by omega) (by omega) e_7) gX7_bringBack_X2_save rfl 1 (by decide +kernel) rfl ⟨Nat.le_of_ble_eq_true rfl, Nat.le_of_ble_eq_true rfl⟩ h_hs 0 (by decide) rfl rfl rfl ⟨h_hs, h_hu, h_bk⟩ hl.1 rfl (Nat.le_of_ble_eq_true rfl) dX7_bringBack_35 hL ⟨Nat.zero_le _, Nat.zero_le _⟩ (fun H1 locs hL hpost => ?_)
      obtain ⟨n_hs, n_hu, hfr⟩ := hpost
      have h_hs := n_hs
      have h_hu := n_hu
      have h_hl := h_hl.kept hfr (fun q h1 h2 h3 => by (try dsimp only at h3); omega)
      have h_bk := h_bk.kept hfr (fun q h1 h2 h3 => by (try dsimp only at h3); omega)
      have hF := hF.step hfr (fun q h => by (try dsimp only at h ⊢); omega)
      refine lv_aload_n hx hb dX7_bringBack_38 rfl (lv_at hl 0 rfl) ?_
      refine lv_aload_n hx hb dX7_bringBack_39 rfl (lv_at hl 1 rfl) ?_
      refine x_get S hK h_hl 0 (by decide) rfl rfl rfl in7 0 (by decide) (xm 1 rfl) (x := .ref (a + 1)) rfl dX7_bringBack_40 ?_
      refine x_get S hK h_bk 0 (by decide) rfl rfl rfl in0 0 (by decide) (xm 6 rfl) (x := .int (v 0 0)) rfl dX7_bringBack_43 ?_
      obtain ⟨r_8, e_9, hf⟩ := xb_some hf
      refine x_callVi (As := [.int (v 0 0)]) (rest := []) S hK (c_X3_daysLate l G z (a + 1) v i_3 (v 0 0) r_8 hi_i_3 e_9) gX7_bringBack_X3_daysLate rfl 1 (by decide +kernel) rfl ⟨Nat.le_of_ble_eq_true rfl, Nat.le_of_ble_eq_true rfl⟩ h_bk (31 + i_3) (by omega) rfl (bkE_key G (a + 1) i_3 _) rfl h_bk hl.1 rfl (Nat.le_of_ble_eq_true rfl) dX7_bringBack_46 hL ⟨Nat.zero_le _, Nat.zero_le _⟩ (fun H1 locs hL hpost => ?_)
      subst hpost
      refine lv_istore_n (lv' := [(3, .int r_8), (2, .ref ((a + 1) + (31 + i_3))), (0, .ref a), (1, .int p1)]) hx hb dX7_bringBack_49 rfl hl (by decide) rfl (fun ls hl => ?_)
      refine lv_aload_n hx hb dX7_bringBack_50 rfl (lv_at hl 1 rfl) ?_
      refine lv_iconst (v := (-1)) hx hb dX7_bringBack_51 (by decide) ?_
      obtain ⟨v_10, ev_10, hf⟩ := xl_some hf
      refine x_put S hK h_bk hz_bk hL (31 + i_3) (by omega) rfl (bkE_key G (a + 1) i_3 _) rfl in3 tyX3 tyX3_ok nmX3 1 (by decide) (xm 3 rfl) rfl (vp_nar_int _) rfl (Nat.le_of_ble_eq_true rfl) (bkE_key G (a + 1) i_3 _) ev_10 dX7_bringBack_52 (fun H1 locs hL h_bk hfr => ?_)
      have h_hl := h_hl.kept hfr (fun q h1 h2 h3 => by (try dsimp only at h3); omega)
      have h_hs := h_hs.kept hfr (fun q h1 h2 h3 => by (try dsimp only at h3); omega)
      have h_hu := h_hu.kept hfr (fun q h1 h2 h3 => by (try dsimp only at h3); omega)
      have hF := hF.step hfr (fun q h => by (try dsimp only at h ⊢); omega)
      refine lv_iload_n hx hb dX7_bringBack_55 rfl (lv_at hl 0 rfl) ?_
      obtain ⟨q0, qq0⟩ := Prod.mk.inj (Option.some.inj hf)
      obtain ⟨q1, qq1⟩ := Prod.mk.inj (qq0)
      obtain ⟨q2, qq2⟩ := Prod.mk.inj (qq1)
      have q3 := qq2
      subst r0
      subst v'
      subst hv'
      subst kv'
      subst hQ
      refine x_iret (post := (fun H H1 => PX G (a + 1) 37 (bkE G (a + 1)) v_10 H1 ∧ PX G (a + 38) 2 (hsE G (a + 38)) hv_5 H1 ∧ HU G (a + 38) kv_6 H1 ∧ XF (fun q => ((a + 1) ≤ q ∧ q < (a + 1) + 37) ∨ ((a + 38) ≤ q ∧ q < (a + 38) + 2) ∨ ((a + 38) + 2 ≤ q ∧ q < (a + 38) + 150)) H H1)) S hr hlocks rfl ?_ hL dX7_bringBack_56
      exact ⟨h_bk, h_hs, h_hu, hF⟩
    · have hf := (if_pos c_4).symm.trans hf
      refine lv_ldc (v := (-2000000002)) hx hb hown (hts _ (xm 4 rfl)) dX7_bringBack_24 ?_
      obtain ⟨q0, qq0⟩ := Prod.mk.inj (Option.some.inj hf)
      obtain ⟨q1, qq1⟩ := Prod.mk.inj (qq0)
      obtain ⟨q2, qq2⟩ := Prod.mk.inj (qq1)
      have q3 := qq2
      subst r0
      subst v'
      subst hv'
      subst kv'
      subst hQ
      refine x_iret (post := (fun H H1 => PX G (a + 1) 37 (bkE G (a + 1)) v H1 ∧ PX G (a + 38) 2 (hsE G (a + 38)) hv H1 ∧ HU G (a + 38) kv H1 ∧ XF (fun q => ((a + 1) ≤ q ∧ q < (a + 1) + 37) ∨ ((a + 38) ≤ q ∧ q < (a + 38) + 2) ∨ ((a + 38) + 2 ≤ q ∧ q < (a + 38) + 150)) H H1)) S hr hlocks rfl ?_ hL dX7_bringBack_26
      exact ⟨h_bk, h_hs, h_hu, hF⟩
set_option maxRecDepth 100000 in
set_option maxHeartbeats 4000000 in
theorem c_X7_cancel (l : Launch) (G : xG) (z : Nat) (a : Nat) (dv : xV) (v : xV) (hv : xV) (kv : Nat → xV) (p1 : Int32) (r0 : Int32) (v' : xV) (hv' : xV) (kv' : Nat → xV) (hz_bk : z ≤ (a + 1)) (hz_hs : z ≤ (a + 38)) (hf : f_X7_cancel dv v hv kv p1 = some (r0, v', hv', kv')) : xM l yX7_cancel wsX7_cancel 4 104 G z [.ref a, .int p1] (fun H => PX G a 1 (hlE a) dv H ∧ PX G (a + 1) 37 (bkE G (a + 1)) v H ∧ PX G (a + 38) 2 (hsE G (a + 38)) hv H ∧ HU G (a + 38) kv H) (some (.int r0)) (fun H H1 => PX G (a + 1) 37 (bkE G (a + 1)) v' H1 ∧ PX G (a + 38) 2 (hsE G (a + 38)) hv' H1 ∧ HU G (a + 38) kv' H1 ∧ XF (fun q => ((a + 1) ≤ q ∧ q < (a + 1) + 37) ∨ ((a + 38) ≤ q ∧ q < (a + 38) + 2) ∨ ((a + 38) + 2 ≤ q ∧ q < (a + 38) + 150)) H H1) := by
  refine xM.of (cc := cX7_cancel) (maxL := 5) (ret := (some .int)) (by decide +kernel) rfl (Nat.le_of_ble_eq_true rfl) ?_
  intro p e s m args below meth c ls Q hQ S hr hlocks hK hP hl
  obtain ⟨hx, hb, hml, hown, hts⟩ := id S
  obtain ⟨h_hl, h_bk, h_hs, h_hu⟩ := hP
  have hL : ∀ q ∈ ([] : List Loc), z ≤ q.base := fun q h => absurd h List.not_mem_nil
  have hF : XF (fun q => ((a + 1) ≤ q ∧ q < (a + 1) + 37) ∨ ((a + 38) ≤ q ∧ q < (a + 38) + 2) ∨ ((a + 38) + 2 ≤ q ∧ q < (a + 38) + 150)) s.heap s.heap := XF.rf
  have hl : lv_has ls 5 [(0, .ref a), (1, .int p1)] := hl
  have in0 : ∀ w ∈ u_ws RX0 TX0 9, w ∈ wsX7_cancel := fun _ h => List.mem_cons_of_mem _ (List.mem_append_left _ (List.mem_append_left _ (List.mem_append_left _ (List.mem_append_right _ h))))
  have in1 : ∀ w ∈ u_ws RX1 TX1 15, w ∈ wsX7_cancel := fun _ h => List.mem_cons_of_mem _ (List.mem_append_left _ (List.mem_append_left _ (List.mem_append_right _ h)))
  have in7 : ∀ w ∈ u_ws RX7 TX7 6, w ∈ wsX7_cancel := fun _ h => List.mem_cons_of_mem _ (List.mem_append_left _ (List.mem_append_left _ (List.mem_append_left _ (List.mem_append_left _ (List.mem_append_right _ h)))))
  unfold f_X7_cancel at hf
  refine lv_aload_n hx hb dX7_cancel_0 rfl (lv_at hl 0 rfl) ?_
  refine x_get S hK h_hl 0 (by decide) rfl rfl rfl in7 0 (by decide) (xm 1 rfl) (x := .ref (a + 1)) rfl dX7_cancel_1 ?_
  refine lv_iload_n hx hb dX7_cancel_4 rfl (lv_at hl 1 rfl) ?_
  obtain ⟨o_1, e_2, hf⟩ := xb_some hf
  refine x_callVi (As := [.int p1]) (rest := []) S hK (c_X0_hireOfSession l G z (a + 1) v p1 o_1 e_2) gX7_cancel_X0_hireOfSession rfl 1 (by decide +kernel) rfl ⟨Nat.le_of_ble_eq_true rfl, Nat.le_of_ble_eq_true rfl⟩ h_bk 0 (by decide) rfl rfl rfl h_bk hl.1 rfl (Nat.le_of_ble_eq_true rfl) dX7_cancel_5 hL ⟨Nat.zero_le _, Nat.zero_le _⟩ (fun H1 locs hL hpost => ?_)
  subst hpost
  obtain _ | i_3 := o_1
  · have hf := (xo_n _ _).symm.trans hf
    show W _ _ _ _ _ _ _ _ _ _ _ _ _ _ _ (F0 _ _ _ (.null :: _))
    refine lv_astore_nN (lv' := [(2, .null), (0, .ref a), (1, .int p1)]) hx hb dX7_cancel_8 rfl hl (by decide) rfl (fun ls hl => ?_)
    refine lv_aload_nN hx hb dX7_cancel_9 rfl (lv_at hl 0 rfl) ?_
    refine lv_ifnonnullN hx hb dX7_cancel_10 ?_
    refine lv_ldc (v := (-2000000001)) hx hb hown (hts _ (xm 2 rfl)) dX7_cancel_13 ?_
    obtain ⟨q0, qq0⟩ := Prod.mk.inj (Option.some.inj hf)
    obtain ⟨q1, qq1⟩ := Prod.mk.inj (qq0)
    obtain ⟨q2, qq2⟩ := Prod.mk.inj (qq1)
    have q3 := qq2
    subst r0
    subst v'
    subst hv'
    subst kv'
    subst hQ
    refine x_iret (post := (fun H H1 => PX G (a + 1) 37 (bkE G (a + 1)) v H1 ∧ PX G (a + 38) 2 (hsE G (a + 38)) hv H1 ∧ HU G (a + 38) kv H1 ∧ XF (fun q => ((a + 1) ≤ q ∧ q < (a + 1) + 37) ∨ ((a + 38) ≤ q ∧ q < (a + 38) + 2) ∨ ((a + 38) + 2 ≤ q ∧ q < (a + 38) + 150)) H H1)) S hr hlocks rfl ?_ hL dX7_cancel_15
    exact ⟨h_bk, h_hs, h_hu, hF⟩
  · have hf := (xo_s _ _ _).symm.trans hf
    obtain ⟨hi_i_3, hf⟩ := xg_some hf
    show W _ _ _ _ _ _ _ _ _ _ _ _ _ _ _ (F0 _ _ _ (.ref ((a + 1) + (6 + 2 * i_3)) :: _))
    refine lv_astore_n (lv' := [(2, .ref ((a + 1) + (6 + 2 * i_3))), (0, .ref a), (1, .int p1)]) hx hb dX7_cancel_8 rfl hl (by decide) rfl (fun ls hl => ?_)
    refine lv_aload_n hx hb dX7_cancel_9 rfl (lv_at hl 0 rfl) ?_
    refine lv_ifnonnull (tgt := 16) hx hb dX7_cancel_10 (by decide) ?_
    refine lv_iload_n hx hb dX7_cancel_16 rfl (lv_at hl 2 rfl) ?_
    refine lv_bipush (v := 20) hx hb dX7_cancel_17 (by decide) ?_
    refine lv_irem hx hb dX7_cancel_19 (by decide) ?_
    obtain ⟨x_4, ex_4, hf⟩ := xl_some hf
    refine x_top ex_4 ?_
    refine lv_istore_n (lv' := [(3, .int x_4), (2, .ref ((a + 1) + (6 + 2 * i_3))), (0, .ref a), (1, .int p1)]) hx hb dX7_cancel_20 rfl hl (by decide) rfl (fun ls hl => ?_)
    refine lv_aload_n hx hb dX7_cancel_21 rfl (lv_at hl 1 rfl) ?_
    refine lv_iload_n hx hb dX7_cancel_22 rfl (lv_at hl 0 rfl) ?_
    obtain ⟨r_5, e_6, hf⟩ := xb_some hf
    refine x_callVi (As := [.int x_4]) (rest := []) S hK (c_X1_stateOf l G z (a + 1) v i_3 x_4 r_5 hi_i_3 e_6) gX7_cancel_X1_stateOf rfl 1 (by decide +kernel) rfl ⟨Nat.le_of_ble_eq_true rfl, Nat.le_of_ble_eq_true rfl⟩ h_bk (6 + 2 * i_3) (by omega) rfl (bkE_hire G (a + 1) i_3 hi_i_3 _) rfl h_bk hl.1 rfl (Nat.le_of_ble_eq_true rfl) dX7_cancel_23 hL ⟨Nat.zero_le _, Nat.zero_le _⟩ (fun H1 locs hL hpost => ?_)
    subst hpost
    refine lv_if_eq (tgt := 32) hx hb dX7_cancel_26 (by decide) (fun c_7 => ?_) (fun c_7 => ?_)
    · have hf := (if_pos c_7).symm.trans hf
      refine lv_aload_n hx hb dX7_cancel_32 rfl (lv_at hl 2 rfl) ?_
      refine x_get S hK h_hl 0 (by decide) rfl rfl rfl in7 1 (by decide) (xm 4 rfl) (x := .ref (a + 38)) rfl dX7_cancel_33 ?_
      refine lv_aload_n hx hb dX7_cancel_36 rfl (lv_at hl 2 rfl) ?_
      refine x_get S hK h_hl 0 (by decide) rfl rfl rfl in7 0 (by decide) (xm 1 rfl) (x := .ref (a + 1)) rfl dX7_cancel_37 ?_
      obtain ⟨hv_8, kv_9, e_10, hf⟩ := xb2_some hf
      refine x_callVv (As := [.ref (a + 1)]) (rest := []) S hK (c_X2_save l G z (a + 38) (a + 1) hv kv v hv_8 kv_9 (by omega) (by omega) (by omega) e_10) gX7_cancel_X2_save rfl 1 (by decide +kernel) rfl ⟨Nat.le_of_ble_eq_true rfl, Nat.le_of_ble_eq_true rfl⟩ h_hs 0 (by decide) rfl rfl rfl ⟨h_hs, h_hu, h_bk⟩ hl.1 rfl (Nat.le_of_ble_eq_true rfl) dX7_cancel_40 hL ⟨Nat.zero_le _, Nat.zero_le _⟩ (fun H1 locs hL hpost => ?_)
      obtain ⟨n_hs, n_hu, hfr⟩ := hpost
      have h_hs := n_hs
      have h_hu := n_hu
      have h_hl := h_hl.kept hfr (fun q h1 h2 h3 => by (try dsimp only at h3); omega)
      have h_bk := h_bk.kept hfr (fun q h1 h2 h3 => by (try dsimp only at h3); omega)
      have hF := hF.step hfr (fun q h => by (try dsimp only at h ⊢); omega)
      refine lv_aload_n hx hb dX7_cancel_43 rfl (lv_at hl 1 rfl) ?_
      refine lv_iload_n hx hb dX7_cancel_44 rfl (lv_at hl 0 rfl) ?_
      refine lv_aload_n hx hb dX7_cancel_45 rfl (lv_at hl 2 rfl) ?_
      refine x_get S hK h_hl 0 (by decide) rfl rfl rfl in7 0 (by decide) (xm 1 rfl) (x := .ref (a + 1)) rfl dX7_cancel_46 ?_
      refine x_get S hK h_bk 0 (by decide) rfl rfl rfl in0 0 (by decide) (xm 5 rfl) (x := .int (v 0 0)) rfl dX7_cancel_49 ?_
      obtain ⟨r_11, e_12, hf⟩ := xb_some hf
      refine x_callVi (As := [.int x_4, .int (v 0 0)]) (rest := []) S hK (c_X1_refundOf l G z (a + 1) v i_3 x_4 (v 0 0) r_11 hi_i_3 e_12) gX7_cancel_X1_refundOf rfl 2 (by decide +kernel) rfl ⟨Nat.le_of_ble_eq_true rfl, Nat.le_of_ble_eq_true rfl⟩ h_bk (6 + 2 * i_3) (by omega) rfl (bkE_hire G (a + 1) i_3 hi_i_3 _) rfl h_bk hl.1 rfl (Nat.le_of_ble_eq_true rfl) dX7_cancel_52 hL ⟨Nat.zero_le _, Nat.zero_le _⟩ (fun H1 locs hL hpost => ?_)
      subst hpost
      refine lv_istore (lv' := [(4, .int r_11), (3, .int x_4), (2, .ref ((a + 1) + (6 + 2 * i_3))), (0, .ref a), (1, .int p1)]) hx hb dX7_cancel_55 hl (by decide) rfl (fun ls hl => ?_)
      refine lv_aload_n hx hb dX7_cancel_57 rfl (lv_at hl 2 rfl) ?_
      refine lv_dup hx hb dX7_cancel_58 rfl ?_
      refine x_get S hK h_bk (6 + 2 * i_3) (by omega) rfl (bkE_hire G (a + 1) i_3 hi_i_3 _) rfl in1 10 (by decide) (xm 6 rfl) (x := .int (v (6 + 2 * i_3) 10)) rfl dX7_cancel_59 ?_
      refine lv_iconst (v := 1) hx hb dX7_cancel_62 (by decide) ?_
      refine lv_iload_n hx hb dX7_cancel_63 rfl (lv_at hl 1 rfl) ?_
      refine lv_ishl hx hb dX7_cancel_64 ?_
      refine lv_ior hx hb dX7_cancel_65 ?_
      obtain ⟨v_13, ev_13, hf⟩ := xl_some hf
      refine x_put S hK h_bk hz_bk hL (6 + 2 * i_3) (by omega) rfl (bkE_hire G (a + 1) i_3 hi_i_3 _) rfl in1 tyX1 tyX1_ok nmX1 10 (by decide) (xm 6 rfl) rfl (vp_nar_int _) rfl (Nat.le_of_ble_eq_true rfl) (bkE_hire G (a + 1) i_3 hi_i_3 _) ev_13 dX7_cancel_66 (fun H1 locs hL h_bk hfr => ?_)
      have h_hl := h_hl.kept hfr (fun q h1 h2 h3 => by (try dsimp only at h3); omega)
      have h_hs := h_hs.kept hfr (fun q h1 h2 h3 => by (try dsimp only at h3); omega)
      have h_hu := h_hu.kept hfr (fun q h1 h2 h3 => by (try dsimp only at h3); omega)
      have hF := hF.step hfr (fun q h => by (try dsimp only at h ⊢); omega)
      refine lv_aload_n hx hb dX7_cancel_69 rfl (lv_at hl 3 rfl) ?_
      refine x_get S hK h_hl 0 (by decide) rfl rfl rfl in7 0 (by decide) (xm 1 rfl) (x := .ref (a + 1)) rfl dX7_cancel_70 ?_
      refine lv_aload_n hx hb dX7_cancel_73 rfl (lv_at hl 2 rfl) ?_
      refine x_get S hK h_bk (6 + 2 * i_3) (by omega) rfl (bkE_hire G (a + 1) i_3 hi_i_3 _) rfl in1 1 (by decide) (xm 7 rfl) (x := .int (v_13 (6 + 2 * i_3) 1)) rfl dX7_cancel_74 ?_
      refine lv_iload hx hb dX7_cancel_77 (lv_at hl 0 rfl) ?_
      refine lv_iconst (v := 1) hx hb dX7_cancel_79 (by decide) ?_
      obtain ⟨v_14, e_15, hf⟩ := xb_some hf
      refine x_callVv (As := [.int (v_13 (6 + 2 * i_3) 1), .int r_11, .int 1]) (rest := []) S hK (c_X0_credit l G z (a + 1) v_13 (v_13 (6 + 2 * i_3) 1) r_11 1 v_14 (by omega) e_15) gX7_cancel_X0_credit rfl 3 (by decide +kernel) rfl ⟨Nat.le_of_ble_eq_true rfl, Nat.le_of_ble_eq_true rfl⟩ h_bk 0 (by decide) rfl rfl rfl h_bk hl.1 rfl (Nat.le_of_ble_eq_true rfl) dX7_cancel_80 hL ⟨Nat.zero_le _, Nat.zero_le _⟩ (fun H1 locs hL hpost => ?_)
      obtain ⟨n_bk, hfr⟩ := hpost
      have h_bk := n_bk
      have h_hl := h_hl.kept hfr (fun q h1 h2 h3 => by (try dsimp only at h3); omega)
      have h_hs := h_hs.kept hfr (fun q h1 h2 h3 => by (try dsimp only at h3); omega)
      have h_hu := h_hu.kept hfr (fun q h1 h2 h3 => by (try dsimp only at h3); omega)
      have hF := hF.step hfr (fun q h => by (try dsimp only at h ⊢); omega)
      refine lv_iload hx hb dX7_cancel_83 (lv_at hl 0 rfl) ?_
      obtain ⟨q0, qq0⟩ := Prod.mk.inj (Option.some.inj hf)
      obtain ⟨q1, qq1⟩ := Prod.mk.inj (qq0)
      obtain ⟨q2, qq2⟩ := Prod.mk.inj (qq1)
      have q3 := qq2
      subst r0
      subst v'
      subst hv'
      subst kv'
      subst hQ
      refine x_iret (post := (fun H H1 => PX G (a + 1) 37 (bkE G (a + 1)) v_14 H1 ∧ PX G (a + 38) 2 (hsE G (a + 38)) hv_8 H1 ∧ HU G (a + 38) kv_9 H1 ∧ XF (fun q => ((a + 1) ≤ q ∧ q < (a + 1) + 37) ∨ ((a + 38) ≤ q ∧ q < (a + 38) + 2) ∨ ((a + 38) + 2 ≤ q ∧ q < (a + 38) + 150)) H H1)) S hr hlocks rfl ?_ hL dX7_cancel_85
      exact ⟨h_bk, h_hs, h_hu, hF⟩
    · have hf := (if_neg c_7).symm.trans hf
      refine lv_ldc (v := (-2000000002)) hx hb hown (hts _ (xm 3 rfl)) dX7_cancel_29 ?_
      obtain ⟨q0, qq0⟩ := Prod.mk.inj (Option.some.inj hf)
      obtain ⟨q1, qq1⟩ := Prod.mk.inj (qq0)
      obtain ⟨q2, qq2⟩ := Prod.mk.inj (qq1)
      have q3 := qq2
      subst r0
      subst v'
      subst hv'
      subst kv'
      subst hQ
      refine x_iret (post := (fun H H1 => PX G (a + 1) 37 (bkE G (a + 1)) v H1 ∧ PX G (a + 38) 2 (hsE G (a + 38)) hv H1 ∧ HU G (a + 38) kv H1 ∧ XF (fun q => ((a + 1) ≤ q ∧ q < (a + 1) + 37) ∨ ((a + 38) ≤ q ∧ q < (a + 38) + 2) ∨ ((a + 38) + 2 ≤ q ∧ q < (a + 38) + 150)) H H1)) S hr hlocks rfl ?_ hL dX7_cancel_31
      exact ⟨h_bk, h_hs, h_hu, hF⟩
set_option maxRecDepth 100000 in
set_option maxHeartbeats 4000000 in
theorem c_X7_clash (l : Launch) (G : xG) (z : Nat) (a : Nat) (dv : xV) (r0 : Int32)  (hf : f_X7_clash dv = some r0) : xM l yX7_clash wsX7_clash 0 0 G z [.ref a] (fun H => PX G a 1 (hlE a) dv H) (some (.int r0)) (fun H H1 => H1 = H) := by
  refine xM.of (cc := cX7_clash) (maxL := 1) (ret := (some .int)) (by decide +kernel) rfl (Nat.le_of_ble_eq_true rfl) ?_
  intro p e s m args below meth c ls Q hQ S hr hlocks hK hP hl
  obtain ⟨hx, hb, hml, hown, hts⟩ := id S
  have h_hl := hP
  have hL : ∀ q ∈ ([] : List Loc), z ≤ q.base := fun q h => absurd h List.not_mem_nil
  have hl : lv_has ls 1 [(0, .ref a)] := hl
  have in7 : ∀ w ∈ u_ws RX7 TX7 6, w ∈ wsX7_clash := fun _ h => List.mem_cons_of_mem _ (List.mem_append_right _ h)
  unfold f_X7_clash at hf
  refine lv_aload_n hx hb dX7_clash_0 rfl (lv_at hl 0 rfl) ?_
  refine x_get S hK h_hl 0 (by decide) rfl rfl rfl in7 5 (by decide) (xm 1 rfl) (x := .int (dv 0 5)) rfl dX7_clash_1 ?_
  refine lv_iconst (v := (-1)) hx hb dX7_clash_4 (by decide) ?_
  refine lv_icmp_ne (tgt := 13) hx hb dX7_clash_5 (by decide) (fun c_1 => ?_) (fun c_1 => ?_)
  · have hf := (if_neg c_1).symm.trans hf
    refine lv_aload_n hx hb dX7_clash_13 rfl (lv_at hl 0 rfl) ?_
    refine x_get S hK h_hl 0 (by decide) rfl rfl rfl in7 5 (by decide) (xm 1 rfl) (x := .int (dv 0 5)) rfl dX7_clash_14 ?_
    have q0 := Option.some.inj hf
    subst r0
    subst hQ
    refine x_iret (post := (fun H H1 => H1 = H)) S hr hlocks rfl ?_ hL dX7_clash_17
    exact rfl
  · have hf := (if_pos c_1).symm.trans hf
    refine lv_ldc (v := (-2000000004)) hx hb hown (hts _ (xm 2 rfl)) dX7_clash_8 ?_
    refine lv_goto (tgt := 17) hx hb dX7_clash_10 (by decide) ?_
    have q0 := Option.some.inj hf
    subst r0
    subst hQ
    refine x_iret (post := (fun H H1 => H1 = H)) S hr hlocks rfl ?_ hL dX7_clash_17
    exact rfl
set_option maxRecDepth 100000 in
set_option maxHeartbeats 4000000 in
theorem c_X7_settingOrAccount (l : Launch) (G : xG) (z : Nat) (a : Nat) (dv : xV) (v : xV) (p1 : Int32) (r0 : Int32)  (hf : f_X7_settingOrAccount dv v p1 = some r0) : xM l yX7_settingOrAccount wsX7_settingOrAccount 0 0 G z [.ref a, .int p1] (fun H => PX G a 1 (hlE a) dv H ∧ PX G (a + 1) 37 (bkE G (a + 1)) v H) (some (.int r0)) (fun H H1 => H1 = H) := by
  refine xM.of (cc := cX7_settingOrAccount) (maxL := 2) (ret := (some .int)) (by decide +kernel) rfl (Nat.le_of_ble_eq_true rfl) ?_
  intro p e s m args below meth c ls Q hQ S hr hlocks hK hP hl
  obtain ⟨hx, hb, hml, hown, hts⟩ := id S
  obtain ⟨h_hl, h_bk⟩ := hP
  have hL : ∀ q ∈ ([] : List Loc), z ≤ q.base := fun q h => absurd h List.not_mem_nil
  have hl : lv_has ls 2 [(0, .ref a), (1, .int p1)] := hl
  have in0 : ∀ w ∈ u_ws RX0 TX0 9, w ∈ wsX7_settingOrAccount := fun _ h => List.mem_cons_of_mem _ (List.mem_append_right _ h)
  have in7 : ∀ w ∈ u_ws RX7 TX7 6, w ∈ wsX7_settingOrAccount := fun _ h => List.mem_cons_of_mem _ (List.mem_append_left _ (List.mem_append_right _ h))
  unfold f_X7_settingOrAccount at hf
  refine lv_iload_n hx hb dX7_settingOrAccount_0 rfl (lv_at hl 1 rfl) ?_
  refine lv_bipush (v := 10) hx hb dX7_settingOrAccount_1 (by decide) ?_
  refine lv_icmp_lt (tgt := 25) hx hb dX7_settingOrAccount_3 (by decide) (fun c_1 => ?_) (fun c_1 => ?_)
  · have hf := (if_pos c_1).symm.trans hf
    refine lv_iload_n hx hb dX7_settingOrAccount_25 rfl (lv_at hl 1 rfl) ?_
    refine lv_bipush (v := 20) hx hb dX7_settingOrAccount_26 (by decide) ?_
    refine lv_icmp_lt (tgt := 50) hx hb dX7_settingOrAccount_28 (by decide) (fun c_2 => ?_) (fun c_2 => ?_)
    · have hf := (if_pos c_2).symm.trans hf
      refine lv_ldc (v := (-2000000001)) hx hb hown (hts _ (xm 4 rfl)) dX7_settingOrAccount_50 ?_
      have q0 := Option.some.inj hf
      subst r0
      subst hQ
      refine x_iret (post := (fun H H1 => H1 = H)) S hr hlocks rfl ?_ hL dX7_settingOrAccount_52
      exact rfl
    · have hf := (if_neg c_2).symm.trans hf
      refine lv_iload_n hx hb dX7_settingOrAccount_31 rfl (lv_at hl 1 rfl) ?_
      refine lv_bipush (v := 29) hx hb dX7_settingOrAccount_32 (by decide) ?_
      refine lv_icmp_ge (tgt := 50) hx hb dX7_settingOrAccount_34 (by decide) (fun c_3 => ?_) (fun c_3 => ?_)
      · have hf := (if_pos c_3).symm.trans hf
        refine lv_ldc (v := (-2000000001)) hx hb hown (hts _ (xm 4 rfl)) dX7_settingOrAccount_50 ?_
        have q0 := Option.some.inj hf
        subst r0
        subst hQ
        refine x_iret (post := (fun H H1 => H1 = H)) S hr hlocks rfl ?_ hL dX7_settingOrAccount_52
        exact rfl
      · have hf := (if_neg c_3).symm.trans hf
        refine lv_aload_n hx hb dX7_settingOrAccount_37 rfl (lv_at hl 0 rfl) ?_
        refine x_get S hK h_hl 0 (by decide) rfl rfl rfl in7 0 (by decide) (xm 1 rfl) (x := .ref (a + 1)) rfl dX7_settingOrAccount_38 ?_
        refine x_get S hK h_bk 0 (by decide) rfl rfl rfl in0 4 (by decide) (xm 3 rfl) (x := .ref ((a + 1) + 2)) rfl dX7_settingOrAccount_41 ?_
        refine lv_iload_n hx hb dX7_settingOrAccount_44 rfl (lv_at hl 1 rfl) ?_
        refine lv_bipush (v := 20) hx hb dX7_settingOrAccount_45 (by decide) ?_
        refine lv_isub hx hb dX7_settingOrAccount_47 ?_
        obtain ⟨g_4, hf⟩ := xg_some hf
        refine x_iald S hK h_bk 2 (by decide) rfl rfl (p1 - 20).toNatClampNeg rfl g_4 dX7_settingOrAccount_48 ?_
        have q0 := Option.some.inj hf
        subst r0
        subst hQ
        refine x_iret (post := (fun H H1 => H1 = H)) S hr hlocks rfl ?_ hL dX7_settingOrAccount_49
        exact rfl
  · have hf := (if_neg c_1).symm.trans hf
    refine lv_iload_n hx hb dX7_settingOrAccount_6 rfl (lv_at hl 1 rfl) ?_
    refine lv_bipush (v := 18) hx hb dX7_settingOrAccount_7 (by decide) ?_
    refine lv_icmp_ge (tgt := 25) hx hb dX7_settingOrAccount_9 (by decide) (fun c_5 => ?_) (fun c_5 => ?_)
    · have hf := (if_pos c_5).symm.trans hf
      refine lv_iload_n hx hb dX7_settingOrAccount_25 rfl (lv_at hl 1 rfl) ?_
      refine lv_bipush (v := 20) hx hb dX7_settingOrAccount_26 (by decide) ?_
      refine lv_icmp_lt (tgt := 50) hx hb dX7_settingOrAccount_28 (by decide) (fun c_6 => ?_) (fun c_6 => ?_)
      · have hf := (if_pos c_6).symm.trans hf
        refine lv_ldc (v := (-2000000001)) hx hb hown (hts _ (xm 4 rfl)) dX7_settingOrAccount_50 ?_
        have q0 := Option.some.inj hf
        subst r0
        subst hQ
        refine x_iret (post := (fun H H1 => H1 = H)) S hr hlocks rfl ?_ hL dX7_settingOrAccount_52
        exact rfl
      · have hf := (if_neg c_6).symm.trans hf
        refine lv_iload_n hx hb dX7_settingOrAccount_31 rfl (lv_at hl 1 rfl) ?_
        refine lv_bipush (v := 29) hx hb dX7_settingOrAccount_32 (by decide) ?_
        refine lv_icmp_ge (tgt := 50) hx hb dX7_settingOrAccount_34 (by decide) (fun c_7 => ?_) (fun c_7 => ?_)
        · have hf := (if_pos c_7).symm.trans hf
          refine lv_ldc (v := (-2000000001)) hx hb hown (hts _ (xm 4 rfl)) dX7_settingOrAccount_50 ?_
          have q0 := Option.some.inj hf
          subst r0
          subst hQ
          refine x_iret (post := (fun H H1 => H1 = H)) S hr hlocks rfl ?_ hL dX7_settingOrAccount_52
          exact rfl
        · have hf := (if_neg c_7).symm.trans hf
          refine lv_aload_n hx hb dX7_settingOrAccount_37 rfl (lv_at hl 0 rfl) ?_
          refine x_get S hK h_hl 0 (by decide) rfl rfl rfl in7 0 (by decide) (xm 1 rfl) (x := .ref (a + 1)) rfl dX7_settingOrAccount_38 ?_
          refine x_get S hK h_bk 0 (by decide) rfl rfl rfl in0 4 (by decide) (xm 3 rfl) (x := .ref ((a + 1) + 2)) rfl dX7_settingOrAccount_41 ?_
          refine lv_iload_n hx hb dX7_settingOrAccount_44 rfl (lv_at hl 1 rfl) ?_
          refine lv_bipush (v := 20) hx hb dX7_settingOrAccount_45 (by decide) ?_
          refine lv_isub hx hb dX7_settingOrAccount_47 ?_
          obtain ⟨g_8, hf⟩ := xg_some hf
          refine x_iald S hK h_bk 2 (by decide) rfl rfl (p1 - 20).toNatClampNeg rfl g_8 dX7_settingOrAccount_48 ?_
          have q0 := Option.some.inj hf
          subst r0
          subst hQ
          refine x_iret (post := (fun H H1 => H1 = H)) S hr hlocks rfl ?_ hL dX7_settingOrAccount_49
          exact rfl
    · have hf := (if_neg c_5).symm.trans hf
      refine lv_aload_n hx hb dX7_settingOrAccount_12 rfl (lv_at hl 0 rfl) ?_
      refine x_get S hK h_hl 0 (by decide) rfl rfl rfl in7 0 (by decide) (xm 1 rfl) (x := .ref (a + 1)) rfl dX7_settingOrAccount_13 ?_
      refine x_get S hK h_bk 0 (by decide) rfl rfl rfl in0 3 (by decide) (xm 2 rfl) (x := .ref ((a + 1) + 1)) rfl dX7_settingOrAccount_16 ?_
      refine lv_iload_n hx hb dX7_settingOrAccount_19 rfl (lv_at hl 1 rfl) ?_
      refine lv_bipush (v := 10) hx hb dX7_settingOrAccount_20 (by decide) ?_
      refine lv_isub hx hb dX7_settingOrAccount_22 ?_
      obtain ⟨g_9, hf⟩ := xg_some hf
      refine x_iald S hK h_bk 1 (by decide) rfl rfl (p1 - 10).toNatClampNeg rfl g_9 dX7_settingOrAccount_23 ?_
      have q0 := Option.some.inj hf
      subst r0
      subst hQ
      refine x_iret (post := (fun H H1 => H1 = H)) S hr hlocks rfl ?_ hL dX7_settingOrAccount_24
      exact rfl
set_option maxRecDepth 100000 in
set_option maxHeartbeats 4000000 in
theorem c_X7_count (l : Launch) (G : xG) (z : Nat) (a : Nat) (dv : xV) (v : xV) (hv : xV) (tv : xV) (p1 : Int32) (r0 : Int32)  (hf : f_X7_count dv v hv tv p1 = some r0) : xM l yX7_count wsX7_count 3 86 G z [.ref a, .int p1] (fun H => PX G a 1 (hlE a) dv H ∧ PX G (a + 1) 37 (bkE G (a + 1)) v H ∧ PX G (a + 38) 2 (hsE G (a + 38)) hv H ∧ PX G (a + 188) 2 (txE G (a + 188)) tv H) (some (.int r0)) (fun H H1 => H1 = H) := by
  refine xM.of (cc := cX7_count) (maxL := 2) (ret := (some .int)) (by decide +kernel) rfl (Nat.le_of_ble_eq_true rfl) ?_
  intro p e s m args below meth c ls Q hQ S hr hlocks hK hP hl
  obtain ⟨hx, hb, hml, hown, hts⟩ := id S
  obtain ⟨h_hl, h_bk, h_hs, h_tx⟩ := hP
  have hL : ∀ q ∈ ([] : List Loc), z ≤ q.base := fun q h => absurd h List.not_mem_nil
  have hl : lv_has ls 2 [(0, .ref a), (1, .int p1)] := hl
  have in0 : ∀ w ∈ u_ws RX0 TX0 9, w ∈ wsX7_count := fun _ h => List.mem_cons_of_mem _ (List.mem_append_left _ (List.mem_append_left _ (List.mem_append_left _ (List.mem_append_left _ (List.mem_append_right _ h)))))
  have in2 : ∀ w ∈ u_ws RX2 TX2 2, w ∈ wsX7_count := fun _ h => List.mem_cons_of_mem _ (List.mem_append_left _ (List.mem_append_left _ (List.mem_append_left _ (List.mem_append_right _ h))))
  have in4 : ∀ w ∈ u_ws RX4 TX4 3, w ∈ wsX7_count := fun _ h => List.mem_cons_of_mem _ (List.mem_append_left _ (List.mem_append_left _ (List.mem_append_right _ h)))
  have in7 : ∀ w ∈ u_ws RX7 TX7 6, w ∈ wsX7_count := fun _ h => List.mem_cons_of_mem _ (List.mem_append_left _ (List.mem_append_left _ (List.mem_append_left _ (List.mem_append_left _ (List.mem_append_left _ (List.mem_append_right _ h))))))
  unfold f_X7_count at hf
  refine lv_iload_n hx hb dX7_count_0 rfl (lv_at hl 1 rfl) ?_
  by_cases c_1 : p1 = 0
  · have hf := (if_pos c_1).symm.trans hf
    refine x_tin (tgt := 52) (off := 51) S 0 c_1 dX7_count_1 (by decide) (by decide) (by decide) (by decide) ?_
    refine lv_aload_n hx hb dX7_count_52 rfl (lv_at hl 0 rfl) ?_
    refine x_get S hK h_hl 0 (by decide) rfl rfl rfl in7 0 (by decide) (xm 1 rfl) (x := .ref (a + 1)) rfl dX7_count_53 ?_
    refine x_get S hK h_bk 0 (by decide) rfl rfl rfl in0 0 (by decide) (xm 2 rfl) (x := .int (v 0 0)) rfl dX7_count_56 ?_
    have q0 := Option.some.inj hf
    subst r0
    subst hQ
    refine x_iret (post := (fun H H1 => H1 = H)) S hr hlocks rfl ?_ hL dX7_count_59
    exact rfl
  have hf := (if_neg c_1).symm.trans hf
  by_cases c_2 : p1 = 1
  · have hf := (if_pos c_2).symm.trans hf
    refine x_tin (tgt := 60) (off := 59) S 1 c_2 dX7_count_1 (by decide) (by decide) (by decide) (by decide) ?_
    refine lv_aload_n hx hb dX7_count_60 rfl (lv_at hl 0 rfl) ?_
    refine x_get S hK h_hl 0 (by decide) rfl rfl rfl in7 0 (by decide) (xm 1 rfl) (x := .ref (a + 1)) rfl dX7_count_61 ?_
    refine x_get S hK h_bk 0 (by decide) rfl rfl rfl in0 1 (by decide) (xm 3 rfl) (x := .int (v 0 1)) rfl dX7_count_64 ?_
    have q0 := Option.some.inj hf
    subst r0
    subst hQ
    refine x_iret (post := (fun H H1 => H1 = H)) S hr hlocks rfl ?_ hL dX7_count_67
    exact rfl
  have hf := (if_neg c_2).symm.trans hf
  by_cases c_3 : p1 = 2
  · have hf := (if_pos c_3).symm.trans hf
    refine x_tin (tgt := 68) (off := 67) S 2 c_3 dX7_count_1 (by decide) (by decide) (by decide) (by decide) ?_
    refine lv_aload_n hx hb dX7_count_68 rfl (lv_at hl 0 rfl) ?_
    refine x_get S hK h_hl 0 (by decide) rfl rfl rfl in7 0 (by decide) (xm 1 rfl) (x := .ref (a + 1)) rfl dX7_count_69 ?_
    refine x_get S hK h_bk 0 (by decide) rfl rfl rfl in0 2 (by decide) (xm 4 rfl) (x := .int (v 0 2)) rfl dX7_count_72 ?_
    have q0 := Option.some.inj hf
    subst r0
    subst hQ
    refine x_iret (post := (fun H H1 => H1 = H)) S hr hlocks rfl ?_ hL dX7_count_75
    exact rfl
  have hf := (if_neg c_3).symm.trans hf
  by_cases c_4 : p1 = 3
  · have hf := (if_pos c_4).symm.trans hf
    refine x_tin (tgt := 76) (off := 75) S 3 c_4 dX7_count_1 (by decide) (by decide) (by decide) (by decide) ?_
    refine lv_aload_n hx hb dX7_count_76 rfl (lv_at hl 0 rfl) ?_
    refine x_get S hK h_hl 0 (by decide) rfl rfl rfl in7 0 (by decide) (xm 1 rfl) (x := .ref (a + 1)) rfl dX7_count_77 ?_
    obtain ⟨r_5, e_6, hf⟩ := xb_some hf
    refine x_callVi (As := []) (rest := []) S hK (c_X0_sessionsNotCancelled l G z (a + 1) v r_5 e_6) gX7_count_X0_sessionsNotCancelled rfl 0 (by decide +kernel) rfl ⟨Nat.le_of_ble_eq_true rfl, Nat.le_of_ble_eq_true rfl⟩ h_bk 0 (by decide) rfl rfl rfl h_bk hl.1 rfl (Nat.le_of_ble_eq_true rfl) dX7_count_80 hL ⟨Nat.zero_le _, Nat.zero_le _⟩ (fun H1 locs hL hpost => ?_)
    subst hpost
    have q0 := Option.some.inj hf
    subst r0
    subst hQ
    refine x_iret (post := (fun H H1 => H1 = H)) S hr hlocks rfl ?_ hL dX7_count_83
    exact rfl
  have hf := (if_neg c_4).symm.trans hf
  by_cases c_7 : p1 = 4
  · have hf := (if_pos c_7).symm.trans hf
    refine x_tin (tgt := 84) (off := 83) S 4 c_7 dX7_count_1 (by decide) (by decide) (by decide) (by decide) ?_
    refine lv_aload_n hx hb dX7_count_84 rfl (lv_at hl 0 rfl) ?_
    refine x_get S hK h_hl 0 (by decide) rfl rfl rfl in7 0 (by decide) (xm 1 rfl) (x := .ref (a + 1)) rfl dX7_count_85 ?_
    refine lv_iconst (v := (-1)) hx hb dX7_count_88 (by decide) ?_
    obtain ⟨r_8, e_9, hf⟩ := xb_some hf
    refine x_callVi (As := [.int (-1)]) (rest := []) S hK (c_X0_keysFor l G z (a + 1) v (-1) r_8 e_9) gX7_count_X0_keysFor rfl 1 (by decide +kernel) rfl ⟨Nat.le_of_ble_eq_true rfl, Nat.le_of_ble_eq_true rfl⟩ h_bk 0 (by decide) rfl rfl rfl h_bk hl.1 rfl (Nat.le_of_ble_eq_true rfl) dX7_count_89 hL ⟨Nat.zero_le _, Nat.zero_le _⟩ (fun H1 locs hL hpost => ?_)
    subst hpost
    have q0 := Option.some.inj hf
    subst r0
    subst hQ
    refine x_iret (post := (fun H H1 => H1 = H)) S hr hlocks rfl ?_ hL dX7_count_92
    exact rfl
  have hf := (if_neg c_7).symm.trans hf
  by_cases c_10 : p1 = 5
  · have hf := (if_pos c_10).symm.trans hf
    refine x_tin (tgt := 93) (off := 92) S 5 c_10 dX7_count_1 (by decide) (by decide) (by decide) (by decide) ?_
    refine lv_aload_n hx hb dX7_count_93 rfl (lv_at hl 0 rfl) ?_
    refine x_get S hK h_hl 0 (by decide) rfl rfl rfl in7 0 (by decide) (xm 1 rfl) (x := .ref (a + 1)) rfl dX7_count_94 ?_
    obtain ⟨r_11, e_12, hf⟩ := xb_some hf
    refine x_callVi (As := []) (rest := []) S hK (c_X0_lateKeys l G z (a + 1) v r_11 e_12) gX7_count_X0_lateKeys rfl 0 (by decide +kernel) rfl ⟨Nat.le_of_ble_eq_true rfl, Nat.le_of_ble_eq_true rfl⟩ h_bk 0 (by decide) rfl rfl rfl h_bk hl.1 rfl (Nat.le_of_ble_eq_true rfl) dX7_count_97 hL ⟨Nat.zero_le _, Nat.zero_le _⟩ (fun H1 locs hL hpost => ?_)
    subst hpost
    have q0 := Option.some.inj hf
    subst r0
    subst hQ
    refine x_iret (post := (fun H H1 => H1 = H)) S hr hlocks rfl ?_ hL dX7_count_100
    exact rfl
  have hf := (if_neg c_10).symm.trans hf
  by_cases c_13 : p1 = 6
  · have hf := (if_pos c_13).symm.trans hf
    refine x_tin (tgt := 101) (off := 100) S 6 c_13 dX7_count_1 (by decide) (by decide) (by decide) (by decide) ?_
    refine lv_aload_n hx hb dX7_count_101 rfl (lv_at hl 0 rfl) ?_
    refine x_get S hK h_hl 0 (by decide) rfl rfl rfl in7 0 (by decide) (xm 1 rfl) (x := .ref (a + 1)) rfl dX7_count_102 ?_
    obtain ⟨r_14, e_15, hf⟩ := xb_some hf
    refine x_callVi (As := []) (rest := []) S hK (c_X0_roomHoursHeld l G z (a + 1) v r_14 e_15) gX7_count_X0_roomHoursHeld rfl 0 (by decide +kernel) rfl ⟨Nat.le_of_ble_eq_true rfl, Nat.le_of_ble_eq_true rfl⟩ h_bk 0 (by decide) rfl rfl rfl h_bk hl.1 rfl (Nat.le_of_ble_eq_true rfl) dX7_count_105 hL ⟨Nat.zero_le _, Nat.zero_le _⟩ (fun H1 locs hL hpost => ?_)
    subst hpost
    have q0 := Option.some.inj hf
    subst r0
    subst hQ
    refine x_iret (post := (fun H H1 => H1 = H)) S hr hlocks rfl ?_ hL dX7_count_108
    exact rfl
  have hf := (if_neg c_13).symm.trans hf
  by_cases c_16 : p1 = 7
  · have hf := (if_pos c_16).symm.trans hf
    refine x_tin (tgt := 109) (off := 108) S 7 c_16 dX7_count_1 (by decide) (by decide) (by decide) (by decide) ?_
    refine lv_aload_n hx hb dX7_count_109 rfl (lv_at hl 0 rfl) ?_
    refine x_get S hK h_hl 0 (by decide) rfl rfl rfl in7 1 (by decide) (xm 5 rfl) (x := .ref (a + 38)) rfl dX7_count_110 ?_
    refine x_get S hK h_hs 0 (by decide) rfl rfl rfl in2 1 (by decide) (xm 6 rfl) (x := .int (hv 0 1)) rfl dX7_count_113 ?_
    have q0 := Option.some.inj hf
    subst r0
    subst hQ
    refine x_iret (post := (fun H H1 => H1 = H)) S hr hlocks rfl ?_ hL dX7_count_116
    exact rfl
  have hf := (if_neg c_16).symm.trans hf
  by_cases c_17 : p1 = 8
  · have hf := (if_pos c_17).symm.trans hf
    refine x_tin (tgt := 117) (off := 116) S 8 c_17 dX7_count_1 (by decide) (by decide) (by decide) (by decide) ?_
    refine lv_aload_n hx hb dX7_count_117 rfl (lv_at hl 0 rfl) ?_
    refine x_get S hK h_hl 0 (by decide) rfl rfl rfl in7 2 (by decide) (xm 7 rfl) (x := .ref (a + 188)) rfl dX7_count_118 ?_
    refine x_get S hK h_tx 0 (by decide) rfl rfl rfl in4 1 (by decide) (xm 8 rfl) (x := .int (tv 0 1)) rfl dX7_count_121 ?_
    have q0 := Option.some.inj hf
    subst r0
    subst hQ
    refine x_iret (post := (fun H H1 => H1 = H)) S hr hlocks rfl ?_ hL dX7_count_124
    exact rfl
  have hf := (if_neg c_17).symm.trans hf
  have tc_1 : p1.toInt ≠ 0 := fun h9 => c_1 (xti (h9.trans (by decide)))
  have tc_2 : p1.toInt ≠ 1 := fun h9 => c_2 (xti (h9.trans (by decide)))
  have tc_3 : p1.toInt ≠ 2 := fun h9 => c_3 (xti (h9.trans (by decide)))
  have tc_4 : p1.toInt ≠ 3 := fun h9 => c_4 (xti (h9.trans (by decide)))
  have tc_7 : p1.toInt ≠ 4 := fun h9 => c_7 (xti (h9.trans (by decide)))
  have tc_10 : p1.toInt ≠ 5 := fun h9 => c_10 (xti (h9.trans (by decide)))
  have tc_13 : p1.toInt ≠ 6 := fun h9 => c_13 (xti (h9.trans (by decide)))
  have tc_16 : p1.toInt ≠ 7 := fun h9 => c_16 (xti (h9.trans (by decide)))
  have tc_17 : p1.toInt ≠ 8 := fun h9 => c_17 (xti (h9.trans (by decide)))
  refine lv_tableOut (tgt := 125) hx hb dX7_count_1 (by omega) (by decide) ?_
  refine lv_aload_n hx hb dX7_count_125 rfl (lv_at hl 0 rfl) ?_
  refine lv_iload_n hx hb dX7_count_126 rfl (lv_at hl 1 rfl) ?_
  obtain ⟨r_18, e_19, hf⟩ := xb_some hf
  refine x_callVi (As := [.int p1]) (rest := []) S hK (c_X7_settingOrAccount l G z a dv v p1 r_18 e_19) gX7_count_X7_settingOrAccount rfl 1 (by decide +kernel) rfl ⟨Nat.le_of_ble_eq_true rfl, Nat.le_of_ble_eq_true rfl⟩ h_hl 0 (by decide) rfl rfl rfl ⟨h_hl, h_bk⟩ hl.1 rfl (Nat.le_of_ble_eq_true rfl) dX7_count_127 hL ⟨Nat.zero_le _, Nat.zero_le _⟩ (fun H1 locs hL hpost => ?_)
  subst hpost
  have q0 := Option.some.inj hf
  subst r0
  subst hQ
  refine x_iret (post := (fun H H1 => H1 = H)) S hr hlocks rfl ?_ hL dX7_count_130
  exact rfl
set_option maxRecDepth 100000 in
set_option maxHeartbeats 4000000 in
theorem c_X7_firstFree (l : Launch) (G : xG) (z : Nat) (a : Nat) (dv : xV) (v : xV) (p1 : Int32) (p2 : Int32) (p3 : Int32) (p4 : Int32) (r0 : Int32)  (hf : f_X7_firstFree dv v p1 p2 p3 p4 = some r0) : xM l yX7_firstFree wsX7_firstFree 3 93 G z [.ref a, .int p1, .int p2, .int p3, .int p4] (fun H => PX G a 1 (hlE a) dv H ∧ PX G (a + 1) 37 (bkE G (a + 1)) v H) (some (.int r0)) (fun H H1 => H1 = H) := by
  refine xM.of (cc := cX7_firstFree) (maxL := 8) (ret := (some .int)) (by decide +kernel) rfl (Nat.le_of_ble_eq_true rfl) ?_
  intro p e s m args below meth c ls Q hQ S hr hlocks hK hP hl
  obtain ⟨hx, hb, hml, hown, hts⟩ := id S
  obtain ⟨h_hl, h_bk⟩ := hP
  have hL : ∀ q ∈ ([] : List Loc), z ≤ q.base := fun q h => absurd h List.not_mem_nil
  have hl : lv_has ls 8 [(0, .ref a), (1, .int p1), (2, .int p2), (3, .int p3), (4, .int p4)] := hl
  have in0 : ∀ w ∈ u_ws RX0 TX0 9, w ∈ wsX7_firstFree := fun _ h => List.mem_cons_of_mem _ (List.mem_append_left _ (List.mem_append_right _ h))
  have in7 : ∀ w ∈ u_ws RX7 TX7 6, w ∈ wsX7_firstFree := fun _ h => List.mem_cons_of_mem _ (List.mem_append_left _ (List.mem_append_left _ (List.mem_append_right _ h)))
  unfold f_X7_firstFree at hf
  refine lv_aload_n hx hb dX7_firstFree_0 rfl (lv_at hl 0 rfl) ?_
  refine x_get S hK h_hl 0 (by decide) rfl rfl rfl in7 0 (by decide) (xm 1 rfl) (x := .ref (a + 1)) rfl dX7_firstFree_1 ?_
  refine lv_iload_n hx hb dX7_firstFree_4 rfl (lv_at hl 1 rfl) ?_
  obtain ⟨r_1, e_2, hf⟩ := xb_some hf
  refine x_callVi (As := [.int p1]) (rest := []) S hK (c_X0_isHirer l G z (a + 1) v p1 r_1 e_2) gX7_firstFree_X0_isHirer rfl 1 (by decide +kernel) rfl ⟨Nat.le_of_ble_eq_true rfl, Nat.le_of_ble_eq_true rfl⟩ h_bk 0 (by decide) rfl rfl rfl h_bk hl.1 rfl (Nat.le_of_ble_eq_true rfl) dX7_firstFree_5 hL ⟨Nat.zero_le _, Nat.zero_le _⟩ (fun H1 locs hL hpost => ?_)
  subst hpost
  refine lv_if_eq (tgt := 42) hx hb dX7_firstFree_8 (by decide) (fun c_3 => ?_) (fun c_3 => ?_)
  · have hf := (if_pos c_3).symm.trans hf
    refine lv_ldc (v := (-2000000001)) hx hb hown (hts _ (xm 2 rfl)) dX7_firstFree_42 ?_
    have q0 := Option.some.inj hf
    subst r0
    subst hQ
    refine x_iret (post := (fun H H1 => H1 = H)) S hr hlocks rfl ?_ hL dX7_firstFree_44
    exact rfl
  · have hf := (if_neg c_3).symm.trans hf
    refine lv_iload_n hx hb dX7_firstFree_11 rfl (lv_at hl 2 rfl) ?_
    obtain ⟨r_4, e_5, hf⟩ := xb_some hf
    refine x_callTi (As := [.int p2]) (rest := []) S hK (c_X7_areRooms l G z p2 r_4 e_5) gX7_firstFree_X7_areRooms rfl 1 (by decide +kernel) rfl ⟨Nat.le_of_ble_eq_true rfl, Nat.le_of_ble_eq_true rfl⟩ rfl hl.1 rfl (Nat.le_of_ble_eq_true rfl) dX7_firstFree_12 hL ⟨Nat.zero_le _, Nat.zero_le _⟩ (fun H1 locs hL hpost => ?_)
    subst hpost
    refine lv_if_eq (tgt := 42) hx hb dX7_firstFree_15 (by decide) (fun c_6 => ?_) (fun c_6 => ?_)
    · have hf := (if_pos c_6).symm.trans hf
      refine lv_ldc (v := (-2000000001)) hx hb hown (hts _ (xm 2 rfl)) dX7_firstFree_42 ?_
      have q0 := Option.some.inj hf
      subst r0
      subst hQ
      refine x_iret (post := (fun H H1 => H1 = H)) S hr hlocks rfl ?_ hL dX7_firstFree_44
      exact rfl
    · have hf := (if_neg c_6).symm.trans hf
      refine lv_iload_n hx hb dX7_firstFree_18 rfl (lv_at hl 3 rfl) ?_
      refine lv_if_lt (tgt := 42) hx hb dX7_firstFree_19 (by decide) (fun c_7 => ?_) (fun c_7 => ?_)
      · have hf := (if_pos c_7).symm.trans hf
        refine lv_ldc (v := (-2000000001)) hx hb hown (hts _ (xm 2 rfl)) dX7_firstFree_42 ?_
        have q0 := Option.some.inj hf
        subst r0
        subst hQ
        refine x_iret (post := (fun H H1 => H1 = H)) S hr hlocks rfl ?_ hL dX7_firstFree_44
        exact rfl
      · have hf := (if_neg c_7).symm.trans hf
        refine lv_iload_n hx hb dX7_firstFree_22 rfl (lv_at hl 3 rfl) ?_
        refine lv_sipush (v := 364) hx hb dX7_firstFree_23 (by decide) ?_
        refine lv_icmp_gt (tgt := 42) hx hb dX7_firstFree_26 (by decide) (fun c_8 => ?_) (fun c_8 => ?_)
        · have hf := (if_pos c_8).symm.trans hf
          refine lv_ldc (v := (-2000000001)) hx hb hown (hts _ (xm 2 rfl)) dX7_firstFree_42 ?_
          have q0 := Option.some.inj hf
          subst r0
          subst hQ
          refine x_iret (post := (fun H H1 => H1 = H)) S hr hlocks rfl ?_ hL dX7_firstFree_44
          exact rfl
        · have hf := (if_neg c_8).symm.trans hf
          refine lv_iload hx hb dX7_firstFree_29 (lv_at hl 4 rfl) ?_
          refine lv_iconst (v := 1) hx hb dX7_firstFree_31 (by decide) ?_
          refine lv_icmp_lt (tgt := 42) hx hb dX7_firstFree_32 (by decide) (fun c_9 => ?_) (fun c_9 => ?_)
          · have hf := (if_pos c_9).symm.trans hf
            refine lv_ldc (v := (-2000000001)) hx hb hown (hts _ (xm 2 rfl)) dX7_firstFree_42 ?_
            have q0 := Option.some.inj hf
            subst r0
            subst hQ
            refine x_iret (post := (fun H H1 => H1 = H)) S hr hlocks rfl ?_ hL dX7_firstFree_44
            exact rfl
          · have hf := (if_neg c_9).symm.trans hf
            refine lv_iload hx hb dX7_firstFree_35 (lv_at hl 4 rfl) ?_
            refine lv_bipush (v := 15) hx hb dX7_firstFree_37 (by decide) ?_
            refine lv_icmp_le (tgt := 45) hx hb dX7_firstFree_39 (by decide) (fun c_10 => ?_) (fun c_10 => ?_)
            · have hf := (if_pos c_10).symm.trans hf
              refine lv_iload_n hx hb dX7_firstFree_45 rfl (lv_at hl 3 rfl) ?_
              refine lv_aload_n hx hb dX7_firstFree_46 rfl (lv_at hl 0 rfl) ?_
              refine x_get S hK h_hl 0 (by decide) rfl rfl rfl in7 0 (by decide) (xm 1 rfl) (x := .ref (a + 1)) rfl dX7_firstFree_47 ?_
              refine x_get S hK h_bk 0 (by decide) rfl rfl rfl in0 0 (by decide) (xm 3 rfl) (x := .int (v 0 0)) rfl dX7_firstFree_50 ?_
              refine x_max S (xm 4 rfl) (xm 5 rfl) (xm 6 rfl) (xm 7 rfl) hl.1 (Nat.le_of_ble_eq_true rfl) (Nat.le_of_ble_eq_true rfl) (Nat.zero_le _) (Nat.zero_le _) dX7_firstFree_53 ?_
              obtain ⟨x_11, ex_11, hf⟩ := xl_some hf
              refine x_top ex_11 ?_
              refine lv_istore (lv' := [(5, .int x_11), (0, .ref a), (1, .int p1), (2, .int p2), (3, .int p3), (4, .int p4)]) hx hb dX7_firstFree_56 hl (by decide) rfl (fun ls hl => ?_)
              have lp_58 : ∀ (K_58 : Int32 → Option Int32), (∀ (x_12 : Int32) (locs : List Loc) (ls : Array Slot), (∀ q ∈ locs, z ≤ q.base) → lv_has ls 8 [] → K_58 x_12 = some r0 → W p l e { frames := 3, cells := 0, slots := 0, locals := 93 } s m args below meth c s.heap locs 0 0 Q (F0 m 139 ls [])) → ∀ (n : Nat) (x_12 : Int32) (locs : List Loc) (ls : Array Slot), (∀ q ∈ locs, z ≤ q.base) → lv_has ls 8 [(0, .ref a), (1, .int p1), (2, .int p2), (4, .int p4), (5, .int x_12)] → L_X7_firstFree_58 K_58 v p1 p2 p4 n x_12 = some r0 → W p l e { frames := 3, cells := 0, slots := 0, locals := 93 } s m args below meth c s.heap locs 0 0 Q (F0 m 58 ls []) := by
                intro K_58 hK_58 n
                induction n with
                | zero =>
                  intro x_12 locs ls hL hl hf
                  cases hf
                | succ n ih_58 =>
                  intro x_12 locs ls hL hl hf
                  unfold L_X7_firstFree_58 at hf
                  refine lv_iload hx hb dX7_firstFree_58 (lv_at hl 4 rfl) ?_
                  refine lv_sipush (v := 364) hx hb dX7_firstFree_60 (by decide) ?_
                  refine lv_icmp_gt (tgt := 139) hx hb dX7_firstFree_63 (by decide) (fun c_13 => ?_) (fun c_13 => ?_)
                  · have hf := (if_pos c_13).symm.trans hf
                    exact hK_58 x_12 _ _ hL (lv_sub hl [] rfl) hf
                  · have hf := (if_neg c_13).symm.trans hf
                    refine lv_aload_n hx hb dX7_firstFree_66 rfl (lv_at hl 0 rfl) ?_
                    refine x_get S hK h_hl 0 (by decide) rfl rfl rfl in7 0 (by decide) (xm 1 rfl) (x := .ref (a + 1)) rfl dX7_firstFree_67 ?_
                    refine lv_iload hx hb dX7_firstFree_70 (lv_at hl 4 rfl) ?_
                    refine lv_iload_n hx hb dX7_firstFree_72 rfl (lv_at hl 2 rfl) ?_
                    refine lv_iload_n hx hb dX7_firstFree_73 rfl (lv_at hl 1 rfl) ?_
                    refine lv_aload_n hx hb dX7_firstFree_74 rfl (lv_at hl 0 rfl) ?_
                    refine x_get S hK h_hl 0 (by decide) rfl rfl rfl in7 0 (by decide) (xm 1 rfl) (x := .ref (a + 1)) rfl dX7_firstFree_75 ?_
                    refine x_get S hK h_bk 0 (by decide) rfl rfl rfl in0 3 (by decide) (xm 8 rfl) (x := .ref ((a + 1) + 1)) rfl dX7_firstFree_78 ?_
                    refine lv_iconst (v := 4) hx hb dX7_firstFree_81 (by decide) ?_
                    refine x_iald S hK h_bk 1 (by decide) rfl rfl 4 (by decide) (by decide) dX7_firstFree_82 ?_
                    obtain ⟨r_14, e_15, hf⟩ := xb_some hf
                    refine x_callVi (As := [.int x_12, .int p2, .int p1, .int (v 1 4)]) (rest := []) S hK (c_X0_blockedHours l G z (a + 1) v x_12 p2 p1 (v 1 4) r_14 e_15) gX7_firstFree_X0_blockedHours rfl 4 (by decide +kernel) rfl ⟨Nat.le_of_ble_eq_true rfl, Nat.le_of_ble_eq_true rfl⟩ h_bk 0 (by decide) rfl rfl rfl h_bk hl.1 rfl (Nat.le_of_ble_eq_true rfl) dX7_firstFree_83 hL ⟨Nat.zero_le _, Nat.zero_le _⟩ (fun H1 locs hL hpost => ?_)
                    subst hpost
                    refine lv_istore (lv' := [(6, .int r_14), (0, .ref a), (1, .int p1), (2, .int p2), (4, .int p4), (5, .int x_12)]) hx hb dX7_firstFree_86 hl (by decide) rfl (fun ls hl => ?_)
                    refine lv_bipush (v := 8) hx hb dX7_firstFree_88 (by decide) ?_
                    refine lv_istore (lv' := [(7, .int 8), (6, .int r_14), (0, .ref a), (1, .int p1), (2, .int p2), (4, .int p4), (5, .int x_12)]) hx hb dX7_firstFree_90 hl (by decide) rfl (fun ls hl => ?_)
                    have lp_92 : ∀ (K_92 : Int32 → Option Int32), (∀ (x_16 : Int32) (locs : List Loc) (ls : Array Slot), (∀ q ∈ locs, z ≤ q.base) → lv_has ls 8 [(0, .ref a), (1, .int p1), (2, .int p2), (4, .int p4), (5, .int x_12)] → K_92 x_16 = some r0 → W p l e { frames := 3, cells := 0, slots := 0, locals := 93 } s m args below meth c s.heap locs 0 0 Q (F0 m 133 ls [])) → ∀ (n : Nat) (x_16 : Int32) (locs : List Loc) (ls : Array Slot), (∀ q ∈ locs, z ≤ q.base) → lv_has ls 8 [(0, .ref a), (1, .int p1), (2, .int p2), (4, .int p4), (5, .int x_12), (6, .int r_14), (7, .int x_16)] → L_X7_firstFree_92 K_92 p4 x_12 r_14 n x_16 = some r0 → W p l e { frames := 3, cells := 0, slots := 0, locals := 93 } s m args below meth c s.heap locs 0 0 Q (F0 m 92 ls []) := by
                      intro K_92 hK_92 n
                      induction n with
                      | zero =>
                        intro x_16 locs ls hL hl hf
                        cases hf
                      | succ n ih_92 =>
                        intro x_16 locs ls hL hl hf
                        unfold L_X7_firstFree_92 at hf
                        refine lv_iload hx hb dX7_firstFree_92 (lv_at hl 6 rfl) ?_
                        refine lv_iload hx hb dX7_firstFree_94 (lv_at hl 3 rfl) ?_
                        refine lv_iadd hx hb dX7_firstFree_96 ?_
                        refine lv_bipush (v := 23) hx hb dX7_firstFree_97 (by decide) ?_
                        refine lv_icmp_gt (tgt := 133) hx hb dX7_firstFree_99 (by decide) (fun c_17 => ?_) (fun c_17 => ?_)
                        · have hf := (if_pos c_17).symm.trans hf
                          exact hK_92 x_16 _ _ hL (lv_sub hl [0, 1, 2, 3, 4] rfl) hf
                        · have hf := (if_neg c_17).symm.trans hf
                          refine lv_iload hx hb dX7_firstFree_102 (lv_at hl 5 rfl) ?_
                          refine lv_iload hx hb dX7_firstFree_104 (lv_at hl 6 rfl) ?_
                          refine lv_iload hx hb dX7_firstFree_106 (lv_at hl 6 rfl) ?_
                          refine lv_iload hx hb dX7_firstFree_108 (lv_at hl 3 rfl) ?_
                          refine lv_iadd hx hb dX7_firstFree_110 ?_
                          obtain ⟨r_18, e_19, hf⟩ := xb_some hf
                          refine x_callTi (As := [.int x_16, .int (x_16 + p4)]) (rest := [.int r_14]) S hK (c_X7_hoursMask l G z x_16 (x_16 + p4) r_18 e_19) gX7_firstFree_X7_hoursMask rfl 2 (by decide +kernel) rfl ⟨Nat.le_of_ble_eq_true rfl, Nat.le_of_ble_eq_true rfl⟩ rfl hl.1 rfl (Nat.le_of_ble_eq_true rfl) dX7_firstFree_111 hL ⟨Nat.zero_le _, Nat.zero_le _⟩ (fun H1 locs hL hpost => ?_)
                          subst hpost
                          refine lv_iand hx hb dX7_firstFree_114 ?_
                          refine lv_if_ne (tgt := 127) hx hb dX7_firstFree_115 (by decide) (fun c_20 => ?_) (fun c_20 => ?_)
                          · have hf := (if_neg c_20).symm.trans hf
                            obtain ⟨x_21, ex_21, hf⟩ := xl_some hf
                            refine lv_iinc (v := x_21) (lv' := [(7, .int x_21), (0, .ref a), (1, .int p1), (2, .int p2), (4, .int p4), (5, .int x_12), (6, .int r_14)]) hx hb dX7_firstFree_127 hl (k := 6) rfl (by rw [ex_21]; rfl) (by decide) rfl (fun ls hl => ?_)
                            refine lv_goto (tgt := 92) hx hb dX7_firstFree_130 (by decide) ?_
                            exact ih_92 x_21 _ _ hL (lv_sub hl [1, 2, 3, 4, 5, 6, 0] rfl) hf
                          · have hf := (if_pos c_20).symm.trans hf
                            refine lv_bipush (v := 100) hx hb dX7_firstFree_118 (by decide) ?_
                            refine lv_iload hx hb dX7_firstFree_120 (lv_at hl 4 rfl) ?_
                            refine lv_imul hx hb dX7_firstFree_122 ?_
                            refine lv_iload hx hb dX7_firstFree_123 (lv_at hl 6 rfl) ?_
                            refine lv_iadd hx hb dX7_firstFree_125 ?_
                            have q0 := Option.some.inj hf
                            subst r0
                            subst hQ
                            refine x_iret (post := (fun H H1 => H1 = H)) S hr hlocks rfl ?_ hL dX7_firstFree_126
                            exact rfl
                    refine lp_92 _ (fun x_22 locs ls hL hl hf => ?_) 100000 8 _ _ hL (lv_sub hl [2, 3, 4, 5, 6, 1, 0] rfl) hf
                    obtain ⟨x_23, ex_23, hf⟩ := xl_some hf
                    refine lv_iinc (v := x_23) (lv' := [(5, .int x_23), (0, .ref a), (1, .int p1), (2, .int p2), (4, .int p4)]) hx hb dX7_firstFree_133 hl (k := 4) rfl (by rw [ex_23]; rfl) (by decide) rfl (fun ls hl => ?_)
                    refine lv_goto (tgt := 58) hx hb dX7_firstFree_136 (by decide) ?_
                    exact ih_58 x_23 _ _ hL (lv_sub hl [1, 2, 3, 4, 0] rfl) hf
              refine lp_58 _ (fun x_24 locs ls hL hl hf => ?_) 100000 x_11 _ _ hL (lv_sub hl [1, 2, 3, 5, 0] rfl) hf
              refine lv_ldc (v := (-2000000004)) hx hb hown (hts _ (xm 9 rfl)) dX7_firstFree_139 ?_
              have q0 := Option.some.inj hf
              subst r0
              subst hQ
              refine x_iret (post := (fun H H1 => H1 = H)) S hr hlocks rfl ?_ hL dX7_firstFree_141
              exact rfl
            · have hf := (if_neg c_10).symm.trans hf
              refine lv_ldc (v := (-2000000001)) hx hb hown (hts _ (xm 2 rfl)) dX7_firstFree_42 ?_
              have q0 := Option.some.inj hf
              subst r0
              subst hQ
              refine x_iret (post := (fun H H1 => H1 = H)) S hr hlocks rfl ?_ hL dX7_firstFree_44
              exact rfl
set_option maxRecDepth 100000 in
set_option maxHeartbeats 4000000 in
theorem c_X7_hire (l : Launch) (G : xG) (z : Nat) (a : Nat) (dv : xV) (v : xV) (hv : xV) (kv : Nat → xV) (wv : xV) (p1 : Int32) (p2 : Int32) (p3 : Int32) (p4 : Int32) (p5 : Int32) (p6 : Int32) (r0 : Int32) (dv' : xV) (v' : xV) (hv' : xV) (kv' : Nat → xV) (wv' : xV) (hz_hl : z ≤ a) (hz_bk : z ≤ (a + 1)) (hz_hs : z ≤ (a + 38)) (hz_ws : z ≤ (a + 229)) (hf : f_X7_hire dv v hv kv wv p1 p2 p3 p4 p5 p6 = some (r0, dv', v', hv', kv', wv')) : xM l yX7_hire wsX7_hire 4 111 G z [.ref a, .int p1, .int p2, .int p3, .int p4, .int p5, .int p6] (fun H => PX G a 1 (hlE a) dv H ∧ PX G (a + 1) 37 (bkE G (a + 1)) v H ∧ PX G (a + 38) 2 (hsE G (a + 38)) hv H ∧ HU G (a + 38) kv H ∧ PX G (a + 229) 1 wsE wv H) (some (.int r0)) (fun H H1 => PX G a 1 (hlE a) dv' H1 ∧ PX G (a + 1) 37 (bkE G (a + 1)) v' H1 ∧ PX G (a + 38) 2 (hsE G (a + 38)) hv' H1 ∧ HU G (a + 38) kv' H1 ∧ PX G (a + 229) 1 wsE wv' H1 ∧ XF (fun q => (a ≤ q ∧ q < a + 1) ∨ ((a + 1) ≤ q ∧ q < (a + 1) + 37) ∨ ((a + 38) ≤ q ∧ q < (a + 38) + 2) ∨ ((a + 38) + 2 ≤ q ∧ q < (a + 38) + 150) ∨ ((a + 229) ≤ q ∧ q < (a + 229) + 1)) H H1) := by
  refine xM.of (cc := cX7_hire) (maxL := 8) (ret := (some .int)) (by decide +kernel) rfl (Nat.le_of_ble_eq_true rfl) ?_
  intro p e s m args below meth c ls Q hQ S hr hlocks hK hP hl
  obtain ⟨hx, hb, hml, hown, hts⟩ := id S
  obtain ⟨h_hl, h_bk, h_hs, h_hu, h_ws⟩ := hP
  have hL : ∀ q ∈ ([] : List Loc), z ≤ q.base := fun q h => absurd h List.not_mem_nil
  have hF : XF (fun q => (a ≤ q ∧ q < a + 1) ∨ ((a + 1) ≤ q ∧ q < (a + 1) + 37) ∨ ((a + 38) ≤ q ∧ q < (a + 38) + 2) ∨ ((a + 38) + 2 ≤ q ∧ q < (a + 38) + 150) ∨ ((a + 229) ≤ q ∧ q < (a + 229) + 1)) s.heap s.heap := XF.rf
  have hl : lv_has ls 8 [(0, .ref a), (1, .int p1), (2, .int p2), (3, .int p3), (4, .int p4), (5, .int p5), (6, .int p6)] := hl
  have in0 : ∀ w ∈ u_ws RX0 TX0 9, w ∈ wsX7_hire := fun _ h => List.mem_cons_of_mem _ (List.mem_append_left _ (List.mem_append_left _ (List.mem_append_left _ (List.mem_append_right _ h))))
  have in6 : ∀ w ∈ u_ws RX6 TX6 7, w ∈ wsX7_hire := fun _ h => List.mem_cons_of_mem _ (List.mem_append_left _ (List.mem_append_left _ (List.mem_append_left _ (List.mem_append_left _ (List.mem_append_right _ h)))))
  have in7 : ∀ w ∈ u_ws RX7 TX7 6, w ∈ wsX7_hire := fun _ h => List.mem_cons_of_mem _ (List.mem_append_left _ (List.mem_append_left _ (List.mem_append_left _ (List.mem_append_left _ (List.mem_append_left _ (List.mem_append_right _ h))))))
  unfold f_X7_hire at hf
  refine lv_aload_n hx hb dX7_hire_0 rfl (lv_at hl 0 rfl) ?_
  refine x_get S hK h_hl 0 (by decide) rfl rfl rfl in7 4 (by decide) (xm 1 rfl) (x := .ref (a + 229)) rfl dX7_hire_1 ?_
  refine lv_iload_n hx hb dX7_hire_4 rfl (lv_at hl 1 rfl) ?_
  obtain ⟨wv_1, ewv_1, hf⟩ := xl_some hf
  refine x_put S hK h_ws hz_ws hL 0 (by decide) rfl rfl rfl in6 tyX6 tyX6_ok nmX6 0 (by decide) (xm 2 rfl) rfl (vp_nar_int _) rfl (Nat.le_of_ble_eq_true rfl) rfl ewv_1 dX7_hire_5 (fun H1 locs hL h_ws hfr => ?_)
  have h_hl := h_hl.kept hfr (fun q h1 h2 h3 => by (try dsimp only at h3); omega)
  have h_bk := h_bk.kept hfr (fun q h1 h2 h3 => by (try dsimp only at h3); omega)
  have h_hs := h_hs.kept hfr (fun q h1 h2 h3 => by (try dsimp only at h3); omega)
  have h_hu := h_hu.kept hfr (fun q h1 h2 h3 => by (try dsimp only at h3); omega)
  have hF := hF.step hfr (fun q h => by (try dsimp only at h ⊢); omega)
  refine lv_aload_n hx hb dX7_hire_8 rfl (lv_at hl 0 rfl) ?_
  refine x_get S hK h_hl 0 (by decide) rfl rfl rfl in7 4 (by decide) (xm 1 rfl) (x := .ref (a + 229)) rfl dX7_hire_9 ?_
  refine lv_iload_n hx hb dX7_hire_12 rfl (lv_at hl 2 rfl) ?_
  obtain ⟨wv_2, ewv_2, hf⟩ := xl_some hf
  refine x_put S hK h_ws hz_ws hL 0 (by decide) rfl rfl rfl in6 tyX6 tyX6_ok nmX6 1 (by decide) (xm 3 rfl) rfl (vp_nar_int _) rfl (Nat.le_of_ble_eq_true rfl) rfl ewv_2 dX7_hire_13 (fun H1 locs hL h_ws hfr => ?_)
  have h_hl := h_hl.kept hfr (fun q h1 h2 h3 => by (try dsimp only at h3); omega)
  have h_bk := h_bk.kept hfr (fun q h1 h2 h3 => by (try dsimp only at h3); omega)
  have h_hs := h_hs.kept hfr (fun q h1 h2 h3 => by (try dsimp only at h3); omega)
  have h_hu := h_hu.kept hfr (fun q h1 h2 h3 => by (try dsimp only at h3); omega)
  have hF := hF.step hfr (fun q h => by (try dsimp only at h ⊢); omega)
  refine lv_aload_n hx hb dX7_hire_16 rfl (lv_at hl 0 rfl) ?_
  refine x_get S hK h_hl 0 (by decide) rfl rfl rfl in7 4 (by decide) (xm 1 rfl) (x := .ref (a + 229)) rfl dX7_hire_17 ?_
  refine lv_iload hx hb dX7_hire_20 (lv_at hl 4 rfl) ?_
  obtain ⟨wv_3, e_4, hf⟩ := xb_some hf
  refine x_callVv (As := [.int p4]) (rest := []) S hK (c_X6_takeHours l G z (a + 229) wv_2 p4 wv_3 (by omega) e_4) gX7_hire_X6_takeHours rfl 1 (by decide +kernel) rfl ⟨Nat.le_of_ble_eq_true rfl, Nat.le_of_ble_eq_true rfl⟩ h_ws 0 (by decide) rfl rfl rfl h_ws hl.1 rfl (Nat.le_of_ble_eq_true rfl) dX7_hire_22 hL ⟨Nat.zero_le _, Nat.zero_le _⟩ (fun H1 locs hL hpost => ?_)
  obtain ⟨n_ws, hfr⟩ := hpost
  have h_ws := n_ws
  have h_hl := h_hl.kept hfr (fun q h1 h2 h3 => by (try dsimp only at h3); omega)
  have h_bk := h_bk.kept hfr (fun q h1 h2 h3 => by (try dsimp only at h3); omega)
  have h_hs := h_hs.kept hfr (fun q h1 h2 h3 => by (try dsimp only at h3); omega)
  have h_hu := h_hu.kept hfr (fun q h1 h2 h3 => by (try dsimp only at h3); omega)
  have hF := hF.step hfr (fun q h => by (try dsimp only at h ⊢); omega)
  refine lv_aload_n hx hb dX7_hire_25 rfl (lv_at hl 0 rfl) ?_
  refine x_get S hK h_hl 0 (by decide) rfl rfl rfl in7 4 (by decide) (xm 1 rfl) (x := .ref (a + 229)) rfl dX7_hire_26 ?_
  refine lv_iload_n hx hb dX7_hire_29 rfl (lv_at hl 3 rfl) ?_
  refine lv_iload hx hb dX7_hire_30 (lv_at hl 5 rfl) ?_
  refine lv_iload hx hb dX7_hire_32 (lv_at hl 6 rfl) ?_
  obtain ⟨wv_5, e_6, hf⟩ := xb_some hf
  refine x_callVv (As := [.int p3, .int p5, .int p6]) (rest := []) S hK (c_X6_takeSeries l G z (a + 229) wv_3 p3 p5 p6 wv_5 (by omega) e_6) gX7_hire_X6_takeSeries rfl 3 (by decide +kernel) rfl ⟨Nat.le_of_ble_eq_true rfl, Nat.le_of_ble_eq_true rfl⟩ h_ws 0 (by decide) rfl rfl rfl h_ws hl.1 rfl (Nat.le_of_ble_eq_true rfl) dX7_hire_34 hL ⟨Nat.zero_le _, Nat.zero_le _⟩ (fun H1 locs hL hpost => ?_)
  obtain ⟨n_ws, hfr⟩ := hpost
  have h_ws := n_ws
  have h_hl := h_hl.kept hfr (fun q h1 h2 h3 => by (try dsimp only at h3); omega)
  have h_bk := h_bk.kept hfr (fun q h1 h2 h3 => by (try dsimp only at h3); omega)
  have h_hs := h_hs.kept hfr (fun q h1 h2 h3 => by (try dsimp only at h3); omega)
  have h_hu := h_hu.kept hfr (fun q h1 h2 h3 => by (try dsimp only at h3); omega)
  have hF := hF.step hfr (fun q h => by (try dsimp only at h ⊢); omega)
  refine lv_aload_n hx hb dX7_hire_37 rfl (lv_at hl 0 rfl) ?_
  refine x_get S hK h_hl 0 (by decide) rfl rfl rfl in7 0 (by decide) (xm 4 rfl) (x := .ref (a + 1)) rfl dX7_hire_38 ?_
  refine lv_iload_n hx hb dX7_hire_41 rfl (lv_at hl 1 rfl) ?_
  obtain ⟨r_7, e_8, hf⟩ := xb_some hf
  refine x_callVi (As := [.int p1]) (rest := []) S hK (c_X0_isHirer l G z (a + 1) v p1 r_7 e_8) gX7_hire_X0_isHirer rfl 1 (by decide +kernel) rfl ⟨Nat.le_of_ble_eq_true rfl, Nat.le_of_ble_eq_true rfl⟩ h_bk 0 (by decide) rfl rfl rfl h_bk hl.1 rfl (Nat.le_of_ble_eq_true rfl) dX7_hire_42 hL ⟨Nat.zero_le _, Nat.zero_le _⟩ (fun H1 locs hL hpost => ?_)
  subst hpost
  refine lv_if_eq (tgt := 72) hx hb dX7_hire_45 (by decide) (fun c_9 => ?_) (fun c_9 => ?_)
  · have hf := (if_pos c_9).symm.trans hf
    refine lv_ldc (v := (-2000000001)) hx hb hown (hts _ (xm 6 rfl)) dX7_hire_72 ?_
    obtain ⟨q0, qq0⟩ := Prod.mk.inj (Option.some.inj hf)
    obtain ⟨q1, qq1⟩ := Prod.mk.inj (qq0)
    obtain ⟨q2, qq2⟩ := Prod.mk.inj (qq1)
    obtain ⟨q3, qq3⟩ := Prod.mk.inj (qq2)
    obtain ⟨q4, qq4⟩ := Prod.mk.inj (qq3)
    have q5 := qq4
    subst r0
    subst dv'
    subst v'
    subst hv'
    subst kv'
    subst wv'
    subst hQ
    refine x_iret (post := (fun H H1 => PX G a 1 (hlE a) dv H1 ∧ PX G (a + 1) 37 (bkE G (a + 1)) v H1 ∧ PX G (a + 38) 2 (hsE G (a + 38)) hv H1 ∧ HU G (a + 38) kv H1 ∧ PX G (a + 229) 1 wsE wv_5 H1 ∧ XF (fun q => (a ≤ q ∧ q < a + 1) ∨ ((a + 1) ≤ q ∧ q < (a + 1) + 37) ∨ ((a + 38) ≤ q ∧ q < (a + 38) + 2) ∨ ((a + 38) + 2 ≤ q ∧ q < (a + 38) + 150) ∨ ((a + 229) ≤ q ∧ q < (a + 229) + 1)) H H1)) S hr hlocks rfl ?_ hL dX7_hire_74
    exact ⟨h_hl, h_bk, h_hs, h_hu, h_ws, hF⟩
  · have hf := (if_neg c_9).symm.trans hf
    refine lv_iload_n hx hb dX7_hire_48 rfl (lv_at hl 2 rfl) ?_
    obtain ⟨r_10, e_11, hf⟩ := xb_some hf
    refine x_callTi (As := [.int p2]) (rest := []) S hK (c_X7_areRooms l G z p2 r_10 e_11) gX7_hire_X7_areRooms rfl 1 (by decide +kernel) rfl ⟨Nat.le_of_ble_eq_true rfl, Nat.le_of_ble_eq_true rfl⟩ rfl hl.1 rfl (Nat.le_of_ble_eq_true rfl) dX7_hire_49 hL ⟨Nat.zero_le _, Nat.zero_le _⟩ (fun H1 locs hL hpost => ?_)
    subst hpost
    refine lv_if_eq (tgt := 72) hx hb dX7_hire_52 (by decide) (fun c_12 => ?_) (fun c_12 => ?_)
    · have hf := (if_pos c_12).symm.trans hf
      refine lv_ldc (v := (-2000000001)) hx hb hown (hts _ (xm 6 rfl)) dX7_hire_72 ?_
      obtain ⟨q0, qq0⟩ := Prod.mk.inj (Option.some.inj hf)
      obtain ⟨q1, qq1⟩ := Prod.mk.inj (qq0)
      obtain ⟨q2, qq2⟩ := Prod.mk.inj (qq1)
      obtain ⟨q3, qq3⟩ := Prod.mk.inj (qq2)
      obtain ⟨q4, qq4⟩ := Prod.mk.inj (qq3)
      have q5 := qq4
      subst r0
      subst dv'
      subst v'
      subst hv'
      subst kv'
      subst wv'
      subst hQ
      refine x_iret (post := (fun H H1 => PX G a 1 (hlE a) dv H1 ∧ PX G (a + 1) 37 (bkE G (a + 1)) v H1 ∧ PX G (a + 38) 2 (hsE G (a + 38)) hv H1 ∧ HU G (a + 38) kv H1 ∧ PX G (a + 229) 1 wsE wv_5 H1 ∧ XF (fun q => (a ≤ q ∧ q < a + 1) ∨ ((a + 1) ≤ q ∧ q < (a + 1) + 37) ∨ ((a + 38) ≤ q ∧ q < (a + 38) + 2) ∨ ((a + 38) + 2 ≤ q ∧ q < (a + 38) + 150) ∨ ((a + 229) ≤ q ∧ q < (a + 229) + 1)) H H1)) S hr hlocks rfl ?_ hL dX7_hire_74
      exact ⟨h_hl, h_bk, h_hs, h_hu, h_ws, hF⟩
    · have hf := (if_neg c_12).symm.trans hf
      refine lv_aload_n hx hb dX7_hire_55 rfl (lv_at hl 0 rfl) ?_
      refine x_get S hK h_hl 0 (by decide) rfl rfl rfl in7 4 (by decide) (xm 1 rfl) (x := .ref (a + 229)) rfl dX7_hire_56 ?_
      refine lv_aload_n hx hb dX7_hire_59 rfl (lv_at hl 0 rfl) ?_
      refine x_get S hK h_hl 0 (by decide) rfl rfl rfl in7 0 (by decide) (xm 4 rfl) (x := .ref (a + 1)) rfl dX7_hire_60 ?_
      refine x_get S hK h_bk 0 (by decide) rfl rfl rfl in0 0 (by decide) (xm 5 rfl) (x := .int (v 0 0)) rfl dX7_hire_63 ?_
      obtain ⟨r_13, e_14, hf⟩ := xb_some hf
      refine x_callVi (As := [.int (v 0 0)]) (rest := []) S hK (c_X6_isInRange l G z (a + 229) wv_5 (v 0 0) r_13 e_14) gX7_hire_X6_isInRange rfl 1 (by decide +kernel) rfl ⟨Nat.le_of_ble_eq_true rfl, Nat.le_of_ble_eq_true rfl⟩ h_ws 0 (by decide) rfl rfl rfl h_ws hl.1 rfl (Nat.le_of_ble_eq_true rfl) dX7_hire_66 hL ⟨Nat.zero_le _, Nat.zero_le _⟩ (fun H1 locs hL hpost => ?_)
      subst hpost
      refine lv_if_ne (tgt := 75) hx hb dX7_hire_69 (by decide) (fun c_15 => ?_) (fun c_15 => ?_)
      · have hf := (if_neg c_15).symm.trans hf
        refine lv_aload_n hx hb dX7_hire_75 rfl (lv_at hl 0 rfl) ?_
        refine x_get S hK h_hl 0 (by decide) rfl rfl rfl in7 4 (by decide) (xm 1 rfl) (x := .ref (a + 229)) rfl dX7_hire_76 ?_
        obtain ⟨r_16, e_17, hf⟩ := xb_some hf
        refine x_callVi (As := []) (rest := []) S hK (c_X6_lastDay l G z (a + 229) wv_5 r_16 e_17) gX7_hire_X6_lastDay rfl 0 (by decide +kernel) rfl ⟨Nat.le_of_ble_eq_true rfl, Nat.le_of_ble_eq_true rfl⟩ h_ws 0 (by decide) rfl rfl rfl h_ws hl.1 rfl (Nat.le_of_ble_eq_true rfl) dX7_hire_79 hL ⟨Nat.zero_le _, Nat.zero_le _⟩ (fun H1 locs hL hpost => ?_)
        subst hpost
        refine lv_sipush (v := 364) hx hb dX7_hire_82 (by decide) ?_
        refine lv_icmp_le (tgt := 91) hx hb dX7_hire_85 (by decide) (fun c_18 => ?_) (fun c_18 => ?_)
        · have hf := (if_pos c_18).symm.trans hf
          refine lv_aload_n hx hb dX7_hire_91 rfl (lv_at hl 0 rfl) ?_
          refine x_get S hK h_hl 0 (by decide) rfl rfl rfl in7 0 (by decide) (xm 4 rfl) (x := .ref (a + 1)) rfl dX7_hire_92 ?_
          refine lv_aload_n hx hb dX7_hire_95 rfl (lv_at hl 0 rfl) ?_
          refine x_get S hK h_hl 0 (by decide) rfl rfl rfl in7 4 (by decide) (xm 1 rfl) (x := .ref (a + 229)) rfl dX7_hire_96 ?_
          obtain ⟨r_19, e_20, hf⟩ := xb_some hf
          refine x_callVi (As := [.ref (a + 229)]) (rest := []) S hK (c_X0_clashOf l G z (a + 1) (a + 229) v wv_5 r_19 e_20) gX7_hire_X0_clashOf rfl 1 (by decide +kernel) rfl ⟨Nat.le_of_ble_eq_true rfl, Nat.le_of_ble_eq_true rfl⟩ h_bk 0 (by decide) rfl rfl rfl ⟨h_bk, h_ws⟩ hl.1 rfl (Nat.le_of_ble_eq_true rfl) dX7_hire_99 hL ⟨Nat.zero_le _, Nat.zero_le _⟩ (fun H1 locs hL hpost => ?_)
          subst hpost
          refine lv_istore (lv' := [(7, .int r_19), (0, .ref a), (1, .int p1), (2, .int p2), (3, .int p3), (4, .int p4), (5, .int p5), (6, .int p6)]) hx hb dX7_hire_102 hl (by decide) rfl (fun ls hl => ?_)
          refine lv_iload hx hb dX7_hire_104 (lv_at hl 0 rfl) ?_
          refine lv_iconst (v := (-1)) hx hb dX7_hire_106 (by decide) ?_
          refine lv_icmp_eq (tgt := 119) hx hb dX7_hire_107 (by decide) (fun c_21 => ?_) (fun c_21 => ?_)
          · have hf := (if_pos c_21).symm.trans hf
            refine lv_aload_n hx hb dX7_hire_119 rfl (lv_at hl 1 rfl) ?_
            refine x_get S hK h_hl 0 (by decide) rfl rfl rfl in7 0 (by decide) (xm 4 rfl) (x := .ref (a + 1)) rfl dX7_hire_120 ?_
            obtain ⟨r_22, e_23, hf⟩ := xb_some hf
            refine x_callVi (As := []) (rest := []) S hK (c_X0_isFull l G z (a + 1) v r_22 e_23) gX7_hire_X0_isFull rfl 0 (by decide +kernel) rfl ⟨Nat.le_of_ble_eq_true rfl, Nat.le_of_ble_eq_true rfl⟩ h_bk 0 (by decide) rfl rfl rfl h_bk hl.1 rfl (Nat.le_of_ble_eq_true rfl) dX7_hire_123 hL ⟨Nat.zero_le _, Nat.zero_le _⟩ (fun H1 locs hL hpost => ?_)
            subst hpost
            refine lv_if_eq (tgt := 132) hx hb dX7_hire_126 (by decide) (fun c_24 => ?_) (fun c_24 => ?_)
            · have hf := (if_pos c_24).symm.trans hf
              refine lv_aload_n hx hb dX7_hire_132 rfl (lv_at hl 1 rfl) ?_
              refine x_get S hK h_hl 0 (by decide) rfl rfl rfl in7 1 (by decide) (xm 10 rfl) (x := .ref (a + 38)) rfl dX7_hire_133 ?_
              refine lv_aload_n hx hb dX7_hire_136 rfl (lv_at hl 1 rfl) ?_
              refine x_get S hK h_hl 0 (by decide) rfl rfl rfl in7 0 (by decide) (xm 4 rfl) (x := .ref (a + 1)) rfl dX7_hire_137 ?_
              obtain ⟨hv_25, kv_26, e_27, hf⟩ := xb2_some hf
              refine x_callVv (As := [.ref (a + 1)]) (rest := []) S hK (c_X2_save l G z (a + 38) (a + 1) hv kv v hv_25 kv_26 (by omega) (by omega) (by omega) e_27) gX7_hire_X2_save rfl 1 (by decide +kernel) rfl ⟨Nat.le_of_ble_eq_true rfl, Nat.le_of_ble_eq_true rfl⟩ h_hs 0 (by decide) rfl rfl rfl ⟨h_hs, h_hu, h_bk⟩ hl.1 rfl (Nat.le_of_ble_eq_true rfl) dX7_hire_140 hL ⟨Nat.zero_le _, Nat.zero_le _⟩ (fun H1 locs hL hpost => ?_)
              obtain ⟨n_hs, n_hu, hfr⟩ := hpost
              have h_hs := n_hs
              have h_hu := n_hu
              have h_hl := h_hl.kept hfr (fun q h1 h2 h3 => by (try dsimp only at h3); omega)
              have h_bk := h_bk.kept hfr (fun q h1 h2 h3 => by (try dsimp only at h3); omega)
              have h_ws := h_ws.kept hfr (fun q h1 h2 h3 => by (try dsimp only at h3); omega)
              have hF := hF.step hfr (fun q h => by (try dsimp only at h ⊢); omega)
              refine lv_aload_n hx hb dX7_hire_143 rfl (lv_at hl 1 rfl) ?_
              refine x_get S hK h_hl 0 (by decide) rfl rfl rfl in7 0 (by decide) (xm 4 rfl) (x := .ref (a + 1)) rfl dX7_hire_144 ?_
              refine lv_aload_n hx hb dX7_hire_147 rfl (lv_at hl 1 rfl) ?_
              refine x_get S hK h_hl 0 (by decide) rfl rfl rfl in7 4 (by decide) (xm 1 rfl) (x := .ref (a + 229)) rfl dX7_hire_148 ?_
              obtain ⟨r_28, v_29, e_30, hf⟩ := xb2_some hf
              refine x_callVi (As := [.ref (a + 229)]) (rest := []) S hK (c_X0_make l G z (a + 1) (a + 229) v wv_5 r_28 v_29 (by omega) (by omega) e_30) gX7_hire_X0_make rfl 1 (by decide +kernel) rfl ⟨Nat.le_of_ble_eq_true rfl, Nat.le_of_ble_eq_true rfl⟩ h_bk 0 (by decide) rfl rfl rfl ⟨h_bk, h_ws⟩ hl.1 rfl (Nat.le_of_ble_eq_true rfl) dX7_hire_151 hL ⟨Nat.zero_le _, Nat.zero_le _⟩ (fun H1 locs hL hpost => ?_)
              obtain ⟨n_bk, hfr⟩ := hpost
              have h_bk := n_bk
              have h_hl := h_hl.kept hfr (fun q h1 h2 h3 => by (try dsimp only at h3); omega)
              have h_hs := h_hs.kept hfr (fun q h1 h2 h3 => by (try dsimp only at h3); omega)
              have h_hu := h_hu.kept hfr (fun q h1 h2 h3 => by (try dsimp only at h3); omega)
              have h_ws := h_ws.kept hfr (fun q h1 h2 h3 => by (try dsimp only at h3); omega)
              have hF := hF.step hfr (fun q h => by (try dsimp only at h ⊢); omega)
              obtain ⟨q0, qq0⟩ := Prod.mk.inj (Option.some.inj hf)
              obtain ⟨q1, qq1⟩ := Prod.mk.inj (qq0)
              obtain ⟨q2, qq2⟩ := Prod.mk.inj (qq1)
              obtain ⟨q3, qq3⟩ := Prod.mk.inj (qq2)
              obtain ⟨q4, qq4⟩ := Prod.mk.inj (qq3)
              have q5 := qq4
              subst r0
              subst dv'
              subst v'
              subst hv'
              subst kv'
              subst wv'
              subst hQ
              refine x_iret (post := (fun H H1 => PX G a 1 (hlE a) dv H1 ∧ PX G (a + 1) 37 (bkE G (a + 1)) v_29 H1 ∧ PX G (a + 38) 2 (hsE G (a + 38)) hv_25 H1 ∧ HU G (a + 38) kv_26 H1 ∧ PX G (a + 229) 1 wsE wv_5 H1 ∧ XF (fun q => (a ≤ q ∧ q < a + 1) ∨ ((a + 1) ≤ q ∧ q < (a + 1) + 37) ∨ ((a + 38) ≤ q ∧ q < (a + 38) + 2) ∨ ((a + 38) + 2 ≤ q ∧ q < (a + 38) + 150) ∨ ((a + 229) ≤ q ∧ q < (a + 229) + 1)) H H1)) S hr hlocks rfl ?_ hL dX7_hire_154
              exact ⟨h_hl, h_bk, h_hs, h_hu, h_ws, hF⟩
            · have hf := (if_neg c_24).symm.trans hf
              refine lv_ldc (v := (-2000000003)) hx hb hown (hts _ (xm 9 rfl)) dX7_hire_129 ?_
              obtain ⟨q0, qq0⟩ := Prod.mk.inj (Option.some.inj hf)
              obtain ⟨q1, qq1⟩ := Prod.mk.inj (qq0)
              obtain ⟨q2, qq2⟩ := Prod.mk.inj (qq1)
              obtain ⟨q3, qq3⟩ := Prod.mk.inj (qq2)
              obtain ⟨q4, qq4⟩ := Prod.mk.inj (qq3)
              have q5 := qq4
              subst r0
              subst dv'
              subst v'
              subst hv'
              subst kv'
              subst wv'
              subst hQ
              refine x_iret (post := (fun H H1 => PX G a 1 (hlE a) dv H1 ∧ PX G (a + 1) 37 (bkE G (a + 1)) v H1 ∧ PX G (a + 38) 2 (hsE G (a + 38)) hv H1 ∧ HU G (a + 38) kv H1 ∧ PX G (a + 229) 1 wsE wv_5 H1 ∧ XF (fun q => (a ≤ q ∧ q < a + 1) ∨ ((a + 1) ≤ q ∧ q < (a + 1) + 37) ∨ ((a + 38) ≤ q ∧ q < (a + 38) + 2) ∨ ((a + 38) + 2 ≤ q ∧ q < (a + 38) + 150) ∨ ((a + 229) ≤ q ∧ q < (a + 229) + 1)) H H1)) S hr hlocks rfl ?_ hL dX7_hire_131
              exact ⟨h_hl, h_bk, h_hs, h_hu, h_ws, hF⟩
          · have hf := (if_neg c_21).symm.trans hf
            refine lv_aload_n hx hb dX7_hire_110 rfl (lv_at hl 1 rfl) ?_
            refine lv_iload hx hb dX7_hire_111 (lv_at hl 0 rfl) ?_
            obtain ⟨dv_31, edv_31, hf⟩ := xl_some hf
            refine x_put S hK h_hl hz_hl hL 0 (by decide) rfl rfl rfl in7 tyX7 tyX7_ok nmX7 5 (by decide) (xm 8 rfl) rfl (vp_nar_int _) rfl (Nat.le_of_ble_eq_true rfl) rfl edv_31 dX7_hire_113 (fun H1 locs hL h_hl hfr => ?_)
            have h_bk := h_bk.kept hfr (fun q h1 h2 h3 => by (try dsimp only at h3); omega)
            have h_hs := h_hs.kept hfr (fun q h1 h2 h3 => by (try dsimp only at h3); omega)
            have h_hu := h_hu.kept hfr (fun q h1 h2 h3 => by (try dsimp only at h3); omega)
            have h_ws := h_ws.kept hfr (fun q h1 h2 h3 => by (try dsimp only at h3); omega)
            have hF := hF.step hfr (fun q h => by (try dsimp only at h ⊢); omega)
            refine lv_ldc (v := (-2000000002)) hx hb hown (hts _ (xm 7 rfl)) dX7_hire_116 ?_
            obtain ⟨q0, qq0⟩ := Prod.mk.inj (Option.some.inj hf)
            obtain ⟨q1, qq1⟩ := Prod.mk.inj (qq0)
            obtain ⟨q2, qq2⟩ := Prod.mk.inj (qq1)
            obtain ⟨q3, qq3⟩ := Prod.mk.inj (qq2)
            obtain ⟨q4, qq4⟩ := Prod.mk.inj (qq3)
            have q5 := qq4
            subst r0
            subst dv'
            subst v'
            subst hv'
            subst kv'
            subst wv'
            subst hQ
            refine x_iret (post := (fun H H1 => PX G a 1 (hlE a) dv_31 H1 ∧ PX G (a + 1) 37 (bkE G (a + 1)) v H1 ∧ PX G (a + 38) 2 (hsE G (a + 38)) hv H1 ∧ HU G (a + 38) kv H1 ∧ PX G (a + 229) 1 wsE wv_5 H1 ∧ XF (fun q => (a ≤ q ∧ q < a + 1) ∨ ((a + 1) ≤ q ∧ q < (a + 1) + 37) ∨ ((a + 38) ≤ q ∧ q < (a + 38) + 2) ∨ ((a + 38) + 2 ≤ q ∧ q < (a + 38) + 150) ∨ ((a + 229) ≤ q ∧ q < (a + 229) + 1)) H H1)) S hr hlocks rfl ?_ hL dX7_hire_118
            exact ⟨h_hl, h_bk, h_hs, h_hu, h_ws, hF⟩
        · have hf := (if_neg c_18).symm.trans hf
          refine lv_ldc (v := (-2000000002)) hx hb hown (hts _ (xm 7 rfl)) dX7_hire_88 ?_
          obtain ⟨q0, qq0⟩ := Prod.mk.inj (Option.some.inj hf)
          obtain ⟨q1, qq1⟩ := Prod.mk.inj (qq0)
          obtain ⟨q2, qq2⟩ := Prod.mk.inj (qq1)
          obtain ⟨q3, qq3⟩ := Prod.mk.inj (qq2)
          obtain ⟨q4, qq4⟩ := Prod.mk.inj (qq3)
          have q5 := qq4
          subst r0
          subst dv'
          subst v'
          subst hv'
          subst kv'
          subst wv'
          subst hQ
          refine x_iret (post := (fun H H1 => PX G a 1 (hlE a) dv H1 ∧ PX G (a + 1) 37 (bkE G (a + 1)) v H1 ∧ PX G (a + 38) 2 (hsE G (a + 38)) hv H1 ∧ HU G (a + 38) kv H1 ∧ PX G (a + 229) 1 wsE wv_5 H1 ∧ XF (fun q => (a ≤ q ∧ q < a + 1) ∨ ((a + 1) ≤ q ∧ q < (a + 1) + 37) ∨ ((a + 38) ≤ q ∧ q < (a + 38) + 2) ∨ ((a + 38) + 2 ≤ q ∧ q < (a + 38) + 150) ∨ ((a + 229) ≤ q ∧ q < (a + 229) + 1)) H H1)) S hr hlocks rfl ?_ hL dX7_hire_90
          exact ⟨h_hl, h_bk, h_hs, h_hu, h_ws, hF⟩
      · have hf := (if_pos c_15).symm.trans hf
        refine lv_ldc (v := (-2000000001)) hx hb hown (hts _ (xm 6 rfl)) dX7_hire_72 ?_
        obtain ⟨q0, qq0⟩ := Prod.mk.inj (Option.some.inj hf)
        obtain ⟨q1, qq1⟩ := Prod.mk.inj (qq0)
        obtain ⟨q2, qq2⟩ := Prod.mk.inj (qq1)
        obtain ⟨q3, qq3⟩ := Prod.mk.inj (qq2)
        obtain ⟨q4, qq4⟩ := Prod.mk.inj (qq3)
        have q5 := qq4
        subst r0
        subst dv'
        subst v'
        subst hv'
        subst kv'
        subst wv'
        subst hQ
        refine x_iret (post := (fun H H1 => PX G a 1 (hlE a) dv H1 ∧ PX G (a + 1) 37 (bkE G (a + 1)) v H1 ∧ PX G (a + 38) 2 (hsE G (a + 38)) hv H1 ∧ HU G (a + 38) kv H1 ∧ PX G (a + 229) 1 wsE wv_5 H1 ∧ XF (fun q => (a ≤ q ∧ q < a + 1) ∨ ((a + 1) ≤ q ∧ q < (a + 1) + 37) ∨ ((a + 38) ≤ q ∧ q < (a + 38) + 2) ∨ ((a + 38) + 2 ≤ q ∧ q < (a + 38) + 150) ∨ ((a + 229) ≤ q ∧ q < (a + 229) + 1)) H H1)) S hr hlocks rfl ?_ hL dX7_hire_74
        exact ⟨h_hl, h_bk, h_hs, h_hu, h_ws, hF⟩
