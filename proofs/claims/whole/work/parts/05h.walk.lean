/-! ===== the methods, walked (written by program) ===== -/
set_option maxRecDepth 100000 in
set_option maxHeartbeats 4000000 in
theorem c_X8_takesBack (l : Launch) (G : xG) (z : Nat) (o : Nat) (M : xV) (M' : xV) (hz_md : z ≤ o) (hf : f_X8_takesBack M = some M') : xM l yX8_takesBack wsX8_takesBack 0 0 G z [.ref o] (fun H => PX G o 5 (mdE G o) M H) none (fun H H1 => PX G o 5 (mdE G o) M' H1 ∧ XF (fun q => (o ≤ q ∧ q < o + 5)) H H1) := by
  refine xM.of (cc := cX8_takesBack) (maxL := 2) (ret := none) (by decide +kernel) rfl (Nat.le_of_ble_eq_true rfl) ?_
  intro p e s m args below meth c ls Q hQ S hr hlocks hK hP hl
  obtain ⟨hx, hb, hml, hown, hts⟩ := id S
  have h_md := hP
  have hL : ∀ q ∈ ([] : List Loc), z ≤ q.base := fun q h => absurd h List.not_mem_nil
  have hF : XF (fun q => (o ≤ q ∧ q < o + 5)) s.heap s.heap := XF.rf
  have hl : lv_has ls 2 [(0, .ref o)] := hl
  have in8 : ∀ w ∈ u_ws RX8 TX8 18, w ∈ wsX8_takesBack := fun _ h => List.mem_cons_of_mem _ (List.mem_append_right _ h)
  unfold f_X8_takesBack at hf
  refine lv_iconst (v := 0) hx hb dX8_takesBack_0 (by decide) ?_
  refine lv_istore_n (lv' := [(1, .int 0), (0, .ref o)]) hx hb dX8_takesBack_1 rfl hl (by decide) rfl (fun ls hl => ?_)
  have lp_2 : ∀ (K_2 : Int32 → xV → Option xV), (∀ (x_1 : Int32) (M_2 : xV) (H : Heap) (locs : List Loc) (ls : Array Slot), (∀ q ∈ locs, z ≤ q.base) → PX G o 5 (mdE G o) M_2 H → XF (fun q => (o ≤ q ∧ q < o + 5)) s.heap H → lv_has ls 2 [] → K_2 x_1 M_2 = some M' → W p l e { frames := 0, cells := 0, slots := 0, locals := 0 } s m args below meth c H locs 0 0 Q (F0 m 27 ls [])) → ∀ (n : Nat) (x_1 : Int32) (M_2 : xV) (H : Heap) (locs : List Loc) (ls : Array Slot), (∀ q ∈ locs, z ≤ q.base) → PX G o 5 (mdE G o) M_2 H → XF (fun q => (o ≤ q ∧ q < o + 5)) s.heap H → lv_has ls 2 [(0, .ref o), (1, .int x_1)] → L_X8_takesBack_2 K_2 n x_1 M_2 = some M' → W p l e { frames := 0, cells := 0, slots := 0, locals := 0 } s m args below meth c H locs 0 0 Q (F0 m 2 ls []) := by
    intro K_2 hK_2 n
    induction n with
    | zero =>
      intro x_1 M_2 H locs ls hL h_md hF hl hf
      cases hf
    | succ n ih_2 =>
      intro x_1 M_2 H locs ls hL h_md hF hl hf
      unfold L_X8_takesBack_2 at hf
      refine lv_iload_n hx hb dX8_takesBack_2 rfl (lv_at hl 1 rfl) ?_
      refine lv_sipush (v := 820) hx hb dX8_takesBack_3 (by decide) ?_
      refine lv_icmp_ge (tgt := 27) hx hb dX8_takesBack_6 (by decide) (fun c_3 => ?_) (fun c_3 => ?_)
      · have hf := (if_pos c_3).symm.trans hf
        exact hK_2 x_1 M_2 _ _ _ hL h_md hF (lv_sub hl [] rfl) hf
      · have hf := (if_neg c_3).symm.trans hf
        refine lv_aload_n hx hb dX8_takesBack_9 rfl (lv_at hl 0 rfl) ?_
        refine x_get S hK h_md 0 (by decide) rfl rfl rfl in8 0 (by decide) (xm 1 rfl) (x := .ref (o + 1)) rfl dX8_takesBack_10 ?_
        refine lv_iload_n hx hb dX8_takesBack_13 rfl (lv_at hl 1 rfl) ?_
        refine lv_aload_n hx hb dX8_takesBack_14 rfl (lv_at hl 0 rfl) ?_
        refine x_get S hK h_md 0 (by decide) rfl rfl rfl in8 2 (by decide) (xm 2 rfl) (x := .ref (o + 3)) rfl dX8_takesBack_15 ?_
        refine lv_iload_n hx hb dX8_takesBack_18 rfl (lv_at hl 1 rfl) ?_
        obtain ⟨g_4, hf⟩ := xg_some hf
        refine x_iald S hK h_md 3 (by decide) rfl rfl x_1.toNatClampNeg rfl g_4 dX8_takesBack_19 ?_
        obtain ⟨g_5, hf⟩ := xg_some hf
        obtain ⟨M_6, eM_6, hf⟩ := xl_some hf
        refine x_iast S hK h_md hz_md hL 1 (by decide) rfl rfl x_1.toNatClampNeg rfl g_5 rfl eM_6 dX8_takesBack_20 (fun H1 locs hL h_md hfr => ?_)
        have hF := hF.step hfr (fun q h => by (try dsimp only at h ⊢); omega)
        obtain ⟨x_7, ex_7, hf⟩ := xl_some hf
        refine lv_iinc (v := x_7) (lv' := [(1, .int x_7), (0, .ref o)]) hx hb dX8_takesBack_21 hl (k := 1) rfl (by rw [ex_7]; rfl) (by decide) rfl (fun ls hl => ?_)
        refine lv_goto (tgt := 2) hx hb dX8_takesBack_24 (by decide) ?_
        exact ih_2 x_7 M_6 _ _ _ hL h_md hF (lv_sub hl [1, 0] rfl) hf
  refine lp_2 _ (fun x_8 M_9 H locs ls hL h_md hF hl hf => ?_) 100000 0 M _ _ _ hL h_md hF (lv_sub hl [1, 0] rfl) hf
  have q0 := Option.some.inj hf
  subst M'
  subst hQ
  refine x_vret (post := (fun H H1 => PX G o 5 (mdE G o) M_9 H1 ∧ XF (fun q => (o ≤ q ∧ q < o + 5)) H H1)) S hr hlocks rfl ?_ hL dX8_takesBack_27
  exact ⟨h_md, hF⟩
set_option maxRecDepth 100000 in
set_option maxHeartbeats 4000000 in
theorem c_X8_enter (l : Launch) (G : xG) (z : Nat) (o : Nat) (M : xV) (r0 : Int32) (M' : xV) (hz_md : z ≤ o) (hf : f_X8_enter M = some (r0, M')) : xM l yX8_enter wsX8_enter 8 195 G z [.ref o] (fun H => PX G o 5 (mdE G o) M H) (some (.int r0)) (fun H H1 => PX G o 5 (mdE G o) M' H1 ∧ XF (fun q => (o ≤ q ∧ q < o + 5)) H H1) := by
  refine xM.of (cc := cX8_enter) (maxL := 3) (ret := (some .int)) (by decide +kernel) rfl (Nat.le_of_ble_eq_true rfl) ?_
  intro p e s m args below meth c ls Q hQ S hr hlocks hK hP hl
  obtain ⟨hx, hb, hml, hown, hts⟩ := id S
  have h_md := hP
  have hL : ∀ q ∈ ([] : List Loc), z ≤ q.base := fun q h => absurd h List.not_mem_nil
  have hF : XF (fun q => (o ≤ q ∧ q < o + 5)) s.heap s.heap := XF.rf
  have hl : lv_has ls 3 [(0, .ref o)] := hl
  have in8 : ∀ w ∈ u_ws RX8 TX8 18, w ∈ wsX8_enter := fun _ h => List.mem_cons_of_mem _ (List.mem_append_right _ h)
  unfold f_X8_enter at hf
  refine lv_aload_n hx hb dX8_enter_0 rfl (lv_at hl 0 rfl) ?_
  obtain ⟨M_1, e_2, hf⟩ := xb_some hf
  refine x_callVv (As := []) (rest := []) S hK (c_X8_laysAside l G z o M M_1 (by omega) e_2) gX8_enter_X8_laysAside rfl 0 (by decide +kernel) rfl ⟨Nat.le_of_ble_eq_true rfl, Nat.le_of_ble_eq_true rfl⟩ h_md 0 (by decide) rfl rfl rfl h_md hl.1 rfl (Nat.le_of_ble_eq_true rfl) dX8_enter_1 hL ⟨Nat.zero_le _, Nat.zero_le _⟩ (fun H1 locs hL hpost => ?_)
  obtain ⟨n_md, hfr⟩ := hpost
  have h_md := n_md
  have hF := hF.step hfr (fun q h => by (try dsimp only at h ⊢); omega)
  refine lv_aload_n hx hb dX8_enter_4 rfl (lv_at hl 0 rfl) ?_
  obtain ⟨r_3, M_4, e_5, hf⟩ := xb2_some hf
  refine x_callVi (As := []) (rest := []) S hK (c_X8_makesAll l G z o M_1 r_3 M_4 (by omega) e_5) gX8_enter_X8_makesAll rfl 0 (by decide +kernel) rfl ⟨Nat.le_of_ble_eq_true rfl, Nat.le_of_ble_eq_true rfl⟩ h_md 0 (by decide) rfl rfl rfl h_md hl.1 rfl (Nat.le_of_ble_eq_true rfl) dX8_enter_5 hL ⟨Nat.zero_le _, Nat.zero_le _⟩ (fun H1 locs hL hpost => ?_)
  obtain ⟨n_md, hfr⟩ := hpost
  have h_md := n_md
  have hF := hF.step hfr (fun q h => by (try dsimp only at h ⊢); omega)
  refine lv_istore_n (lv' := [(1, .int r_3), (0, .ref o)]) hx hb dX8_enter_8 rfl hl (by decide) rfl (fun ls hl => ?_)
  refine lv_aload_n hx hb dX8_enter_9 rfl (lv_at hl 1 rfl) ?_
  obtain ⟨M_6, e_7, hf⟩ := xb_some hf
  refine x_callVv (As := []) (rest := []) S hK (c_X8_takesBack l G z o M_4 M_6 (by omega) e_7) gX8_enter_X8_takesBack rfl 0 (by decide +kernel) rfl ⟨Nat.le_of_ble_eq_true rfl, Nat.le_of_ble_eq_true rfl⟩ h_md 0 (by decide) rfl rfl rfl h_md hl.1 rfl (Nat.le_of_ble_eq_true rfl) dX8_enter_10 hL ⟨Nat.zero_le _, Nat.zero_le _⟩ (fun H1 locs hL hpost => ?_)
  obtain ⟨n_md, hfr⟩ := hpost
  have h_md := n_md
  have hF := hF.step hfr (fun q h => by (try dsimp only at h ⊢); omega)
  refine lv_iload_n hx hb dX8_enter_13 rfl (lv_at hl 0 rfl) ?_
  refine lv_iconst (v := (-1)) hx hb dX8_enter_14 (by decide) ?_
  refine lv_icmp_eq (tgt := 44) hx hb dX8_enter_15 (by decide) (fun c_8 => ?_) (fun c_8 => ?_)
  · have hf := (if_pos c_8).symm.trans hf
    refine lv_aload_n hx hb dX8_enter_44 rfl (lv_at hl 1 rfl) ?_
    obtain ⟨M_9, e_10, hf⟩ := xb_some hf
    refine x_callVv (As := []) (rest := []) S hK (c_X8_save l G z o M_6 M_9 (by omega) e_10) gX8_enter_X8_save rfl 0 (by decide +kernel) rfl ⟨Nat.le_of_ble_eq_true rfl, Nat.le_of_ble_eq_true rfl⟩ h_md 0 (by decide) rfl rfl rfl h_md hl.1 rfl (Nat.le_of_ble_eq_true rfl) dX8_enter_45 hL ⟨Nat.zero_le _, Nat.zero_le _⟩ (fun H1 locs hL hpost => ?_)
    obtain ⟨n_md, hfr⟩ := hpost
    have h_md := n_md
    have hF := hF.step hfr (fun q h => by (try dsimp only at h ⊢); omega)
    refine lv_aload_n hx hb dX8_enter_48 rfl (lv_at hl 1 rfl) ?_
    obtain ⟨r_11, M_12, e_13, hf⟩ := xb2_some hf
    refine x_callVi (As := []) (rest := []) S hK (c_X8_makesAll l G z o M_9 r_11 M_12 (by omega) e_13) gX8_enter_X8_makesAll rfl 0 (by decide +kernel) rfl ⟨Nat.le_of_ble_eq_true rfl, Nat.le_of_ble_eq_true rfl⟩ h_md 0 (by decide) rfl rfl rfl h_md hl.1 rfl (Nat.le_of_ble_eq_true rfl) dX8_enter_49 hL ⟨Nat.zero_le _, Nat.zero_le _⟩ (fun H1 locs hL hpost => ?_)
    obtain ⟨n_md, hfr⟩ := hpost
    have h_md := n_md
    have hF := hF.step hfr (fun q h => by (try dsimp only at h ⊢); omega)
    refine lv_istore_n (lv' := [(2, .int r_11), (1, .int r_3), (0, .ref o)]) hx hb dX8_enter_52 rfl hl (by decide) rfl (fun ls hl => ?_)
    refine lv_iload_n hx hb dX8_enter_53 rfl (lv_at hl 0 rfl) ?_
    refine lv_iconst (v := (-1)) hx hb dX8_enter_54 (by decide) ?_
    refine lv_icmp_ne (tgt := 65) hx hb dX8_enter_55 (by decide) (fun c_14 => ?_) (fun c_14 => ?_)
    · have hf := (if_neg c_14).symm.trans hf
      refine lv_iconst (v := 0) hx hb dX8_enter_65 (by decide) ?_
      obtain ⟨q0, qq0⟩ := Prod.mk.inj (Option.some.inj hf)
      have q1 := qq0
      subst r0
      subst M'
      subst hQ
      refine x_iret (post := (fun H H1 => PX G o 5 (mdE G o) M_12 H1 ∧ XF (fun q => (o ≤ q ∧ q < o + 5)) H H1)) S hr hlocks rfl ?_ hL dX8_enter_66
      exact ⟨h_md, hF⟩
    · have hf := (if_pos c_14).symm.trans hf
      refine lv_aload_n hx hb dX8_enter_58 rfl (lv_at hl 2 rfl) ?_
      refine x_get S hK h_md 0 (by decide) rfl rfl rfl in8 17 (by decide) (xm 5 rfl) (x := .int (M_12 0 17)) rfl dX8_enter_59 ?_
      refine lv_goto (tgt := 66) hx hb dX8_enter_62 (by decide) ?_
      obtain ⟨q0, qq0⟩ := Prod.mk.inj (Option.some.inj hf)
      have q1 := qq0
      subst r0
      subst M'
      subst hQ
      refine x_iret (post := (fun H H1 => PX G o 5 (mdE G o) M_12 H1 ∧ XF (fun q => (o ≤ q ∧ q < o + 5)) H H1)) S hr hlocks rfl ?_ hL dX8_enter_66
      exact ⟨h_md, hF⟩
  · have hf := (if_neg c_8).symm.trans hf
    refine lv_aload_n hx hb dX8_enter_18 rfl (lv_at hl 1 rfl) ?_
    refine lv_aload_n hx hb dX8_enter_19 rfl (lv_at hl 1 rfl) ?_
    refine x_get S hK h_md 0 (by decide) rfl rfl rfl in8 15 (by decide) (xm 1 rfl) (x := .int (M_6 0 15)) rfl dX8_enter_20 ?_
    refine lv_iconst (v := 4) hx hb dX8_enter_23 (by decide) ?_
    refine lv_icmp_ne (tgt := 34) hx hb dX8_enter_24 (by decide) (fun c_15 => ?_) (fun c_15 => ?_)
    · have hf := (if_neg c_15).symm.trans hf
      refine lv_aload_n hx hb dX8_enter_34 rfl (lv_at hl 1 rfl) ?_
      refine x_get S hK h_md 0 (by decide) rfl rfl rfl in8 4 (by decide) (xm 3 rfl) (x := .int (M_6 0 4)) rfl dX8_enter_35 ?_
      obtain ⟨M_16, eM_16, hf⟩ := xl_some hf
      refine x_put S hK h_md hz_md hL 0 (by decide) rfl rfl rfl in8 tyX8 tyX8_ok nmX8 4 (by decide) (xm 3 rfl) rfl (vp_nar_int _) rfl (Nat.le_of_ble_eq_true rfl) rfl eM_16 dX8_enter_38 (fun H1 locs hL h_md hfr => ?_)
      have hF := hF.step hfr (fun q h => by (try dsimp only at h ⊢); omega)
      refine lv_ldc (v := (-2000000002)) hx hb hown (hts _ (xm 4 rfl)) dX8_enter_41 ?_
      obtain ⟨q0, qq0⟩ := Prod.mk.inj (Option.some.inj hf)
      have q1 := qq0
      subst r0
      subst M'
      subst hQ
      refine x_iret (post := (fun H H1 => PX G o 5 (mdE G o) M_16 H1 ∧ XF (fun q => (o ≤ q ∧ q < o + 5)) H H1)) S hr hlocks rfl ?_ hL dX8_enter_43
      exact ⟨h_md, hF⟩
    · have hf := (if_pos c_15).symm.trans hf
      refine lv_aload_n hx hb dX8_enter_27 rfl (lv_at hl 1 rfl) ?_
      refine x_get S hK h_md 0 (by decide) rfl rfl rfl in8 16 (by decide) (xm 2 rfl) (x := .int (M_6 0 16)) rfl dX8_enter_28 ?_
      refine lv_goto (tgt := 38) hx hb dX8_enter_31 (by decide) ?_
      obtain ⟨M_17, eM_17, hf⟩ := xl_some hf
      refine x_put S hK h_md hz_md hL 0 (by decide) rfl rfl rfl in8 tyX8 tyX8_ok nmX8 4 (by decide) (xm 3 rfl) rfl (vp_nar_int _) rfl (Nat.le_of_ble_eq_true rfl) rfl eM_17 dX8_enter_38 (fun H1 locs hL h_md hfr => ?_)
      have hF := hF.step hfr (fun q h => by (try dsimp only at h ⊢); omega)
      refine lv_ldc (v := (-2000000002)) hx hb hown (hts _ (xm 4 rfl)) dX8_enter_41 ?_
      obtain ⟨q0, qq0⟩ := Prod.mk.inj (Option.some.inj hf)
      have q1 := qq0
      subst r0
      subst M'
      subst hQ
      refine x_iret (post := (fun H H1 => PX G o 5 (mdE G o) M_17 H1 ∧ XF (fun q => (o ≤ q ∧ q < o + 5)) H H1)) S hr hlocks rfl ?_ hL dX8_enter_43
      exact ⟨h_md, hF⟩
set_option maxRecDepth 100000 in
set_option maxHeartbeats 4000000 in
theorem c_X8_fault (l : Launch) (G : xG) (z : Nat) (o : Nat) (M : xV) (p1 : Int32) (p2 : Int32) (p3 : Int32) (r0 : Int32)  (hf : f_X8_fault M p1 p2 p3 = some r0) : xM l yX8_fault wsX8_fault 2 46 G z [.ref o, .int p1, .int p2, .int p3] (fun H => PX G o 5 (mdE G o) M H) (some (.int r0)) (fun H H1 => H1 = H) := by
  refine xM.of (cc := cX8_fault) (maxL := 4) (ret := (some .int)) (by decide +kernel) rfl (Nat.le_of_ble_eq_true rfl) ?_
  intro p e s m args below meth c ls Q hQ S hr hlocks hK hP hl
  obtain ⟨hx, hb, hml, hown, hts⟩ := id S
  have h_md := hP
  have hL : ∀ q ∈ ([] : List Loc), z ≤ q.base := fun q h => absurd h List.not_mem_nil
  have hl : lv_has ls 4 [(0, .ref o), (1, .int p1), (2, .int p2), (3, .int p3)] := hl
  unfold f_X8_fault at hf
  refine lv_aload_n hx hb dX8_fault_0 rfl (lv_at hl 0 rfl) ?_
  refine lv_iload_n hx hb dX8_fault_1 rfl (lv_at hl 1 rfl) ?_
  obtain ⟨r_1, e_2, hf⟩ := xb_some hf
  refine x_callVi (As := [.int p1]) (rest := []) S hK (c_X8_isHire l G z o M p1 r_1 e_2) gX8_fault_X8_isHire rfl 1 (by decide +kernel) rfl ⟨Nat.le_of_ble_eq_true rfl, Nat.le_of_ble_eq_true rfl⟩ h_md 0 (by decide) rfl rfl rfl h_md hl.1 rfl (Nat.le_of_ble_eq_true rfl) dX8_fault_2 hL ⟨Nat.zero_le _, Nat.zero_le _⟩ (fun H1 locs hL hpost => ?_)
  subst hpost
  refine lv_if_eq (tgt := 24) hx hb dX8_fault_5 (by decide) (fun c_3 => ?_) (fun c_3 => ?_)
  · have hf := (if_pos c_3).symm.trans hf
    refine lv_ldc (v := (-2000000001)) hx hb hown (hts _ (xm 2 rfl)) dX8_fault_24 ?_
    have q0 := Option.some.inj hf
    subst r0
    subst hQ
    refine x_iret (post := (fun H H1 => H1 = H)) S hr hlocks rfl ?_ hL dX8_fault_26
    exact rfl
  · have hf := (if_neg c_3).symm.trans hf
    refine lv_iload_n hx hb dX8_fault_8 rfl (lv_at hl 2 rfl) ?_
    refine lv_if_lt (tgt := 24) hx hb dX8_fault_9 (by decide) (fun c_4 => ?_) (fun c_4 => ?_)
    · have hf := (if_pos c_4).symm.trans hf
      refine lv_ldc (v := (-2000000001)) hx hb hown (hts _ (xm 2 rfl)) dX8_fault_24 ?_
      have q0 := Option.some.inj hf
      subst r0
      subst hQ
      refine x_iret (post := (fun H H1 => H1 = H)) S hr hlocks rfl ?_ hL dX8_fault_26
      exact rfl
    · have hf := (if_neg c_4).symm.trans hf
      refine lv_iload_n hx hb dX8_fault_12 rfl (lv_at hl 3 rfl) ?_
      refine lv_i2l (v := p3.toInt64) hx hb dX8_fault_13 rfl ?_
      refine lv_lconst (v := 0) hx hb dX8_fault_14 (by decide) ?_
      refine lv_ldc2 (v := 3) hx hb hown (hts _ (xm 1 rfl)) dX8_fault_15 ?_
      obtain ⟨r_5, e_6, hf⟩ := xb_some hf
      refine x_callTi (As := [.long (p3.toInt64), .long 0, .long 3]) (rest := []) S hK (c_X8_in l G z (p3.toInt64) 0 3 r_5 e_6) gX8_fault_X8_in rfl 3 (by decide +kernel) rfl ⟨Nat.le_of_ble_eq_true rfl, Nat.le_of_ble_eq_true rfl⟩ rfl hl.1 rfl (Nat.le_of_ble_eq_true rfl) dX8_fault_18 hL ⟨Nat.zero_le _, Nat.zero_le _⟩ (fun H1 locs hL hpost => ?_)
      subst hpost
      refine lv_if_ne (tgt := 27) hx hb dX8_fault_21 (by decide) (fun c_7 => ?_) (fun c_7 => ?_)
      · have hf := (if_neg c_7).symm.trans hf
        refine lv_iload_n hx hb dX8_fault_27 rfl (lv_at hl 2 rfl) ?_
        refine lv_aload_n hx hb dX8_fault_28 rfl (lv_at hl 0 rfl) ?_
        refine lv_iload_n hx hb dX8_fault_29 rfl (lv_at hl 1 rfl) ?_
        refine lv_bipush (v := 11) hx hb dX8_fault_30 (by decide) ?_
        obtain ⟨r_8, e_9, hf⟩ := xb_some hf
        refine x_callVi (As := [.int p1, .int 11]) (rest := [.int p2]) S hK (c_X8_of l G z o M p1 11 r_8 e_9) gX8_fault_X8_of rfl 2 (by decide +kernel) rfl ⟨Nat.le_of_ble_eq_true rfl, Nat.le_of_ble_eq_true rfl⟩ h_md 0 (by decide) rfl rfl rfl h_md hl.1 rfl (Nat.le_of_ble_eq_true rfl) dX8_fault_32 hL ⟨Nat.zero_le _, Nat.zero_le _⟩ (fun H1 locs hL hpost => ?_)
        subst hpost
        refine lv_icmp_ge (tgt := 54) hx hb dX8_fault_35 (by decide) (fun c_10 => ?_) (fun c_10 => ?_)
        · have hf := (if_pos c_10).symm.trans hf
          refine lv_ldc (v := (-2000000004)) hx hb hown (hts _ (xm 3 rfl)) dX8_fault_54 ?_
          have q0 := Option.some.inj hf
          subst r0
          subst hQ
          refine x_iret (post := (fun H H1 => H1 = H)) S hr hlocks rfl ?_ hL dX8_fault_56
          exact rfl
        · have hf := (if_neg c_10).symm.trans hf
          refine lv_aload_n hx hb dX8_fault_38 rfl (lv_at hl 0 rfl) ?_
          refine lv_iload_n hx hb dX8_fault_39 rfl (lv_at hl 1 rfl) ?_
          refine lv_bipush (v := 32) hx hb dX8_fault_40 (by decide) ?_
          refine lv_iconst (v := 4) hx hb dX8_fault_42 (by decide) ?_
          refine lv_iload_n hx hb dX8_fault_43 rfl (lv_at hl 2 rfl) ?_
          refine lv_imul hx hb dX8_fault_44 ?_
          refine lv_iadd hx hb dX8_fault_45 ?_
          refine lv_iload_n hx hb dX8_fault_46 rfl (lv_at hl 3 rfl) ?_
          refine lv_iadd hx hb dX8_fault_47 ?_
          obtain ⟨r_11, e_12, hf⟩ := xb_some hf
          refine x_callVi (As := [.int p1, .int ((32 + (4 * p2)) + p3)]) (rest := []) S hK (c_X8_of l G z o M p1 ((32 + (4 * p2)) + p3) r_11 e_12) gX8_fault_X8_of rfl 2 (by decide +kernel) rfl ⟨Nat.le_of_ble_eq_true rfl, Nat.le_of_ble_eq_true rfl⟩ h_md 0 (by decide) rfl rfl rfl h_md hl.1 rfl (Nat.le_of_ble_eq_true rfl) dX8_fault_48 hL ⟨Nat.zero_le _, Nat.zero_le _⟩ (fun H1 locs hL hpost => ?_)
          subst hpost
          refine lv_goto (tgt := 56) hx hb dX8_fault_51 (by decide) ?_
          have q0 := Option.some.inj hf
          subst r0
          subst hQ
          refine x_iret (post := (fun H H1 => H1 = H)) S hr hlocks rfl ?_ hL dX8_fault_56
          exact rfl
      · have hf := (if_pos c_7).symm.trans hf
        refine lv_ldc (v := (-2000000001)) hx hb hown (hts _ (xm 2 rfl)) dX8_fault_24 ?_
        have q0 := Option.some.inj hf
        subst r0
        subst hQ
        refine x_iret (post := (fun H H1 => H1 = H)) S hr hlocks rfl ?_ hL dX8_fault_26
        exact rfl
set_option maxRecDepth 100000 in
set_option maxHeartbeats 4000000 in
theorem c_X8_firstFree (l : Launch) (G : xG) (z : Nat) (o : Nat) (M : xV) (p1 : Int32) (p2 : Int32) (p3 : Int32) (p4 : Int32) (r0 : Int32)  (hf : f_X8_firstFree M p1 p2 p3 p4 = some r0) : xM l yX8_firstFree wsX8_firstFree 5 123 G z [.ref o, .int p1, .int p2, .int p3, .int p4] (fun H => PX G o 5 (mdE G o) M H) (some (.int r0)) (fun H H1 => H1 = H) := by
  refine xM.of (cc := cX8_firstFree) (maxL := 7) (ret := (some .int)) (by decide +kernel) rfl (Nat.le_of_ble_eq_true rfl) ?_
  intro p e s m args below meth c ls Q hQ S hr hlocks hK hP hl
  obtain ⟨hx, hb, hml, hown, hts⟩ := id S
  have h_md := hP
  have hL : ∀ q ∈ ([] : List Loc), z ≤ q.base := fun q h => absurd h List.not_mem_nil
  have hl : lv_has ls 7 [(0, .ref o), (1, .int p1), (2, .int p2), (3, .int p3), (4, .int p4)] := hl
  have in8 : ∀ w ∈ u_ws RX8 TX8 18, w ∈ wsX8_firstFree := fun _ h => List.mem_cons_of_mem _ (List.mem_append_right _ h)
  unfold f_X8_firstFree at hf
  refine lv_aload_n hx hb dX8_firstFree_0 rfl (lv_at hl 0 rfl) ?_
  refine lv_iload_n hx hb dX8_firstFree_1 rfl (lv_at hl 1 rfl) ?_
  obtain ⟨r_1, e_2, hf⟩ := xb_some hf
  refine x_callVi (As := [.int p1]) (rest := []) S hK (c_X8_isHirer l G z o M p1 r_1 e_2) gX8_firstFree_X8_isHirer rfl 1 (by decide +kernel) rfl ⟨Nat.le_of_ble_eq_true rfl, Nat.le_of_ble_eq_true rfl⟩ h_md 0 (by decide) rfl rfl rfl h_md hl.1 rfl (Nat.le_of_ble_eq_true rfl) dX8_firstFree_2 hL ⟨Nat.zero_le _, Nat.zero_le _⟩ (fun H1 locs hL hpost => ?_)
  subst hpost
  refine lv_if_eq (tgt := 45) hx hb dX8_firstFree_5 (by decide) (fun c_3 => ?_) (fun c_3 => ?_)
  · have hf := (if_pos c_3).symm.trans hf
    refine lv_ldc (v := (-2000000001)) hx hb hown (hts _ (xm 4 rfl)) dX8_firstFree_45 ?_
    have q0 := Option.some.inj hf
    subst r0
    subst hQ
    refine x_iret (post := (fun H H1 => H1 = H)) S hr hlocks rfl ?_ hL dX8_firstFree_47
    exact rfl
  · have hf := (if_neg c_3).symm.trans hf
    refine lv_iload_n hx hb dX8_firstFree_8 rfl (lv_at hl 2 rfl) ?_
    refine lv_i2l (v := p2.toInt64) hx hb dX8_firstFree_9 rfl ?_
    refine lv_lconst (v := 1) hx hb dX8_firstFree_10 (by decide) ?_
    refine lv_ldc2 (v := 7) hx hb hown (hts _ (xm 1 rfl)) dX8_firstFree_11 ?_
    obtain ⟨r_4, e_5, hf⟩ := xb_some hf
    refine x_callTi (As := [.long (p2.toInt64), .long 1, .long 7]) (rest := []) S hK (c_X8_in l G z (p2.toInt64) 1 7 r_4 e_5) gX8_firstFree_X8_in rfl 3 (by decide +kernel) rfl ⟨Nat.le_of_ble_eq_true rfl, Nat.le_of_ble_eq_true rfl⟩ rfl hl.1 rfl (Nat.le_of_ble_eq_true rfl) dX8_firstFree_14 hL ⟨Nat.zero_le _, Nat.zero_le _⟩ (fun H1 locs hL hpost => ?_)
    subst hpost
    refine lv_if_eq (tgt := 45) hx hb dX8_firstFree_17 (by decide) (fun c_6 => ?_) (fun c_6 => ?_)
    · have hf := (if_pos c_6).symm.trans hf
      refine lv_ldc (v := (-2000000001)) hx hb hown (hts _ (xm 4 rfl)) dX8_firstFree_45 ?_
      have q0 := Option.some.inj hf
      subst r0
      subst hQ
      refine x_iret (post := (fun H H1 => H1 = H)) S hr hlocks rfl ?_ hL dX8_firstFree_47
      exact rfl
    · have hf := (if_neg c_6).symm.trans hf
      refine lv_iload_n hx hb dX8_firstFree_20 rfl (lv_at hl 3 rfl) ?_
      refine lv_i2l (v := p3.toInt64) hx hb dX8_firstFree_21 rfl ?_
      refine lv_lconst (v := 0) hx hb dX8_firstFree_22 (by decide) ?_
      refine lv_ldc2 (v := 364) hx hb hown (hts _ (xm 2 rfl)) dX8_firstFree_23 ?_
      obtain ⟨r_7, e_8, hf⟩ := xb_some hf
      refine x_callTi (As := [.long (p3.toInt64), .long 0, .long 364]) (rest := []) S hK (c_X8_in l G z (p3.toInt64) 0 364 r_7 e_8) gX8_firstFree_X8_in rfl 3 (by decide +kernel) rfl ⟨Nat.le_of_ble_eq_true rfl, Nat.le_of_ble_eq_true rfl⟩ rfl hl.1 rfl (Nat.le_of_ble_eq_true rfl) dX8_firstFree_26 hL ⟨Nat.zero_le _, Nat.zero_le _⟩ (fun H1 locs hL hpost => ?_)
      subst hpost
      refine lv_if_eq (tgt := 45) hx hb dX8_firstFree_29 (by decide) (fun c_9 => ?_) (fun c_9 => ?_)
      · have hf := (if_pos c_9).symm.trans hf
        refine lv_ldc (v := (-2000000001)) hx hb hown (hts _ (xm 4 rfl)) dX8_firstFree_45 ?_
        have q0 := Option.some.inj hf
        subst r0
        subst hQ
        refine x_iret (post := (fun H H1 => H1 = H)) S hr hlocks rfl ?_ hL dX8_firstFree_47
        exact rfl
      · have hf := (if_neg c_9).symm.trans hf
        refine lv_iload hx hb dX8_firstFree_32 (lv_at hl 4 rfl) ?_
        refine lv_i2l (v := p4.toInt64) hx hb dX8_firstFree_34 rfl ?_
        refine lv_lconst (v := 1) hx hb dX8_firstFree_35 (by decide) ?_
        refine lv_ldc2 (v := 15) hx hb hown (hts _ (xm 3 rfl)) dX8_firstFree_36 ?_
        obtain ⟨r_10, e_11, hf⟩ := xb_some hf
        refine x_callTi (As := [.long (p4.toInt64), .long 1, .long 15]) (rest := []) S hK (c_X8_in l G z (p4.toInt64) 1 15 r_10 e_11) gX8_firstFree_X8_in rfl 3 (by decide +kernel) rfl ⟨Nat.le_of_ble_eq_true rfl, Nat.le_of_ble_eq_true rfl⟩ rfl hl.1 rfl (Nat.le_of_ble_eq_true rfl) dX8_firstFree_39 hL ⟨Nat.zero_le _, Nat.zero_le _⟩ (fun H1 locs hL hpost => ?_)
        subst hpost
        refine lv_if_ne (tgt := 48) hx hb dX8_firstFree_42 (by decide) (fun c_12 => ?_) (fun c_12 => ?_)
        · have hf := (if_neg c_12).symm.trans hf
          refine lv_iload_n hx hb dX8_firstFree_48 rfl (lv_at hl 3 rfl) ?_
          refine lv_aload_n hx hb dX8_firstFree_49 rfl (lv_at hl 0 rfl) ?_
          refine x_get S hK h_md 0 (by decide) rfl rfl rfl in8 0 (by decide) (xm 5 rfl) (x := .ref (o + 1)) rfl dX8_firstFree_50 ?_
          refine lv_iconst (v := 0) hx hb dX8_firstFree_53 (by decide) ?_
          refine x_iald S hK h_md 1 (by decide) rfl rfl 0 (by decide) (by decide) dX8_firstFree_54 ?_
          refine lv_icmp_le (tgt := 62) hx hb dX8_firstFree_55 (by decide) (fun c_13 => ?_) (fun c_13 => ?_)
          · have hf := (if_pos c_13).symm.trans hf
            refine lv_aload_n hx hb dX8_firstFree_62 rfl (lv_at hl 0 rfl) ?_
            refine x_get S hK h_md 0 (by decide) rfl rfl rfl in8 0 (by decide) (xm 5 rfl) (x := .ref (o + 1)) rfl dX8_firstFree_63 ?_
            refine lv_iconst (v := 0) hx hb dX8_firstFree_66 (by decide) ?_
            refine x_iald S hK h_md 1 (by decide) rfl rfl 0 (by decide) (by decide) dX8_firstFree_67 ?_
            obtain ⟨x_14, ex_14, hf⟩ := xl_some hf
            refine x_top ex_14 ?_
            refine lv_istore (lv' := [(5, .int x_14), (0, .ref o), (1, .int p1), (2, .int p2), (3, .int p3), (4, .int p4)]) hx hb dX8_firstFree_68 hl (by decide) rfl (fun ls hl => ?_)
            have lp_70 : ∀ (K_70 : Int32 → Option Int32), (∀ (x_15 : Int32) (locs : List Loc) (ls : Array Slot), (∀ q ∈ locs, z ≤ q.base) → lv_has ls 7 [] → K_70 x_15 = some r0 → W p l e { frames := 5, cells := 0, slots := 0, locals := 123 } s m args below meth c s.heap locs 0 0 Q (F0 m 132 ls [])) → ∀ (n : Nat) (x_15 : Int32) (locs : List Loc) (ls : Array Slot), (∀ q ∈ locs, z ≤ q.base) → lv_has ls 7 [(0, .ref o), (1, .int p1), (2, .int p2), (4, .int p4), (5, .int x_15)] → L_X8_firstFree_70 K_70 M p1 p2 p4 n x_15 = some r0 → W p l e { frames := 5, cells := 0, slots := 0, locals := 123 } s m args below meth c s.heap locs 0 0 Q (F0 m 70 ls []) := by
              intro K_70 hK_70 n
              induction n with
              | zero =>
                intro x_15 locs ls hL hl hf
                cases hf
              | succ n ih_70 =>
                intro x_15 locs ls hL hl hf
                unfold L_X8_firstFree_70 at hf
                refine lv_iload hx hb dX8_firstFree_70 (lv_at hl 4 rfl) ?_
                refine lv_sipush (v := 364) hx hb dX8_firstFree_72 (by decide) ?_
                refine lv_icmp_gt (tgt := 132) hx hb dX8_firstFree_75 (by decide) (fun c_16 => ?_) (fun c_16 => ?_)
                · have hf := (if_pos c_16).symm.trans hf
                  exact hK_70 x_15 _ _ hL (lv_sub hl [] rfl) hf
                · have hf := (if_neg c_16).symm.trans hf
                  refine lv_bipush (v := 8) hx hb dX8_firstFree_78 (by decide) ?_
                  refine lv_istore (lv' := [(6, .int 8), (0, .ref o), (1, .int p1), (2, .int p2), (4, .int p4), (5, .int x_15)]) hx hb dX8_firstFree_80 hl (by decide) rfl (fun ls hl => ?_)
                  have lp_82 : ∀ (K_82 : Int32 → Option Int32), (∀ (x_17 : Int32) (locs : List Loc) (ls : Array Slot), (∀ q ∈ locs, z ≤ q.base) → lv_has ls 7 [(0, .ref o), (1, .int p1), (2, .int p2), (4, .int p4), (5, .int x_15)] → K_82 x_17 = some r0 → W p l e { frames := 5, cells := 0, slots := 0, locals := 123 } s m args below meth c s.heap locs 0 0 Q (F0 m 126 ls [])) → ∀ (n : Nat) (x_17 : Int32) (locs : List Loc) (ls : Array Slot), (∀ q ∈ locs, z ≤ q.base) → lv_has ls 7 [(0, .ref o), (1, .int p1), (2, .int p2), (4, .int p4), (5, .int x_15), (6, .int x_17)] → L_X8_firstFree_82 K_82 M p1 p2 p4 x_15 n x_17 = some r0 → W p l e { frames := 5, cells := 0, slots := 0, locals := 123 } s m args below meth c s.heap locs 0 0 Q (F0 m 82 ls []) := by
                    intro K_82 hK_82 n
                    induction n with
                    | zero =>
                      intro x_17 locs ls hL hl hf
                      cases hf
                    | succ n ih_82 =>
                      intro x_17 locs ls hL hl hf
                      unfold L_X8_firstFree_82 at hf
                      refine lv_iload hx hb dX8_firstFree_82 (lv_at hl 5 rfl) ?_
                      refine lv_iload hx hb dX8_firstFree_84 (lv_at hl 3 rfl) ?_
                      refine lv_iadd hx hb dX8_firstFree_86 ?_
                      refine lv_bipush (v := 23) hx hb dX8_firstFree_87 (by decide) ?_
                      refine lv_icmp_gt (tgt := 126) hx hb dX8_firstFree_89 (by decide) (fun c_18 => ?_) (fun c_18 => ?_)
                      · have hf := (if_pos c_18).symm.trans hf
                        exact hK_82 x_17 _ _ hL (lv_sub hl [0, 1, 2, 3, 4] rfl) hf
                      · have hf := (if_neg c_18).symm.trans hf
                        refine lv_aload_n hx hb dX8_firstFree_92 rfl (lv_at hl 0 rfl) ?_
                        refine lv_iload_n hx hb dX8_firstFree_93 rfl (lv_at hl 1 rfl) ?_
                        refine lv_iload_n hx hb dX8_firstFree_94 rfl (lv_at hl 2 rfl) ?_
                        refine lv_iload hx hb dX8_firstFree_95 (lv_at hl 4 rfl) ?_
                        refine lv_iload hx hb dX8_firstFree_97 (lv_at hl 5 rfl) ?_
                        refine lv_iload hx hb dX8_firstFree_99 (lv_at hl 5 rfl) ?_
                        refine lv_iload hx hb dX8_firstFree_101 (lv_at hl 3 rfl) ?_
                        refine lv_iadd hx hb dX8_firstFree_103 ?_
                        obtain ⟨r_19, e_20, hf⟩ := xb_some hf
                        refine x_callVi (As := [.int p1, .int p2, .int x_15, .int x_17, .int (x_17 + p4)]) (rest := []) S hK (c_X8_clashOn l G z o M p1 p2 x_15 x_17 (x_17 + p4) r_19 e_20) gX8_firstFree_X8_clashOn rfl 5 (by decide +kernel) rfl ⟨Nat.le_of_ble_eq_true rfl, Nat.le_of_ble_eq_true rfl⟩ h_md 0 (by decide) rfl rfl rfl h_md hl.1 rfl (Nat.le_of_ble_eq_true rfl) dX8_firstFree_104 hL ⟨Nat.zero_le _, Nat.zero_le _⟩ (fun H1 locs hL hpost => ?_)
                        subst hpost
                        refine lv_iconst (v := (-1)) hx hb dX8_firstFree_107 (by decide) ?_
                        refine lv_icmp_ne (tgt := 120) hx hb dX8_firstFree_108 (by decide) (fun c_21 => ?_) (fun c_21 => ?_)
                        · have hf := (if_neg c_21).symm.trans hf
                          obtain ⟨x_22, ex_22, hf⟩ := xl_some hf
                          refine lv_iinc (v := x_22) (lv' := [(6, .int x_22), (0, .ref o), (1, .int p1), (2, .int p2), (4, .int p4), (5, .int x_15)]) hx hb dX8_firstFree_120 hl (k := 5) rfl (by rw [ex_22]; rfl) (by decide) rfl (fun ls hl => ?_)
                          refine lv_goto (tgt := 82) hx hb dX8_firstFree_123 (by decide) ?_
                          exact ih_82 x_22 _ _ hL (lv_sub hl [1, 2, 3, 4, 5, 0] rfl) hf
                        · have hf := (if_pos c_21).symm.trans hf
                          refine lv_bipush (v := 100) hx hb dX8_firstFree_111 (by decide) ?_
                          refine lv_iload hx hb dX8_firstFree_113 (lv_at hl 4 rfl) ?_
                          refine lv_imul hx hb dX8_firstFree_115 ?_
                          refine lv_iload hx hb dX8_firstFree_116 (lv_at hl 5 rfl) ?_
                          refine lv_iadd hx hb dX8_firstFree_118 ?_
                          have q0 := Option.some.inj hf
                          subst r0
                          subst hQ
                          refine x_iret (post := (fun H H1 => H1 = H)) S hr hlocks rfl ?_ hL dX8_firstFree_119
                          exact rfl
                  refine lp_82 _ (fun x_23 locs ls hL hl hf => ?_) 100000 8 _ _ hL (lv_sub hl [1, 2, 3, 4, 5, 0] rfl) hf
                  obtain ⟨x_24, ex_24, hf⟩ := xl_some hf
                  refine lv_iinc (v := x_24) (lv' := [(5, .int x_24), (0, .ref o), (1, .int p1), (2, .int p2), (4, .int p4)]) hx hb dX8_firstFree_126 hl (k := 4) rfl (by rw [ex_24]; rfl) (by decide) rfl (fun ls hl => ?_)
                  refine lv_goto (tgt := 70) hx hb dX8_firstFree_129 (by decide) ?_
                  exact ih_70 x_24 _ _ hL (lv_sub hl [1, 2, 3, 4, 0] rfl) hf
            refine lp_70 _ (fun x_25 locs ls hL hl hf => ?_) 100000 x_14 _ _ hL (lv_sub hl [1, 2, 3, 5, 0] rfl) hf
            refine lv_ldc (v := (-2000000004)) hx hb hown (hts _ (xm 6 rfl)) dX8_firstFree_132 ?_
            have q0 := Option.some.inj hf
            subst r0
            subst hQ
            refine x_iret (post := (fun H H1 => H1 = H)) S hr hlocks rfl ?_ hL dX8_firstFree_134
            exact rfl
          · have hf := (if_neg c_13).symm.trans hf
            refine lv_iload_n hx hb dX8_firstFree_58 rfl (lv_at hl 3 rfl) ?_
            refine lv_goto (tgt := 68) hx hb dX8_firstFree_59 (by decide) ?_
            refine lv_istore (lv' := [(5, .int p3), (0, .ref o), (1, .int p1), (2, .int p2), (3, .int p3), (4, .int p4)]) hx hb dX8_firstFree_68 hl (by decide) rfl (fun ls hl => ?_)
            have lp_70 : ∀ (K_70 : Int32 → Option Int32), (∀ (x_26 : Int32) (locs : List Loc) (ls : Array Slot), (∀ q ∈ locs, z ≤ q.base) → lv_has ls 7 [] → K_70 x_26 = some r0 → W p l e { frames := 5, cells := 0, slots := 0, locals := 123 } s m args below meth c s.heap locs 0 0 Q (F0 m 132 ls [])) → ∀ (n : Nat) (x_26 : Int32) (locs : List Loc) (ls : Array Slot), (∀ q ∈ locs, z ≤ q.base) → lv_has ls 7 [(0, .ref o), (1, .int p1), (2, .int p2), (4, .int p4), (5, .int x_26)] → L_X8_firstFree_70a K_70 M p1 p2 p4 n x_26 = some r0 → W p l e { frames := 5, cells := 0, slots := 0, locals := 123 } s m args below meth c s.heap locs 0 0 Q (F0 m 70 ls []) := by
              intro K_70 hK_70 n
              induction n with
              | zero =>
                intro x_26 locs ls hL hl hf
                cases hf
              | succ n ih_70 =>
                intro x_26 locs ls hL hl hf
                unfold L_X8_firstFree_70a at hf
                refine lv_iload hx hb dX8_firstFree_70 (lv_at hl 4 rfl) ?_
                refine lv_sipush (v := 364) hx hb dX8_firstFree_72 (by decide) ?_
                refine lv_icmp_gt (tgt := 132) hx hb dX8_firstFree_75 (by decide) (fun c_27 => ?_) (fun c_27 => ?_)
                · have hf := (if_pos c_27).symm.trans hf
                  exact hK_70 x_26 _ _ hL (lv_sub hl [] rfl) hf
                · have hf := (if_neg c_27).symm.trans hf
                  refine lv_bipush (v := 8) hx hb dX8_firstFree_78 (by decide) ?_
                  refine lv_istore (lv' := [(6, .int 8), (0, .ref o), (1, .int p1), (2, .int p2), (4, .int p4), (5, .int x_26)]) hx hb dX8_firstFree_80 hl (by decide) rfl (fun ls hl => ?_)
                  have lp_82 : ∀ (K_82 : Int32 → Option Int32), (∀ (x_28 : Int32) (locs : List Loc) (ls : Array Slot), (∀ q ∈ locs, z ≤ q.base) → lv_has ls 7 [(0, .ref o), (1, .int p1), (2, .int p2), (4, .int p4), (5, .int x_26)] → K_82 x_28 = some r0 → W p l e { frames := 5, cells := 0, slots := 0, locals := 123 } s m args below meth c s.heap locs 0 0 Q (F0 m 126 ls [])) → ∀ (n : Nat) (x_28 : Int32) (locs : List Loc) (ls : Array Slot), (∀ q ∈ locs, z ≤ q.base) → lv_has ls 7 [(0, .ref o), (1, .int p1), (2, .int p2), (4, .int p4), (5, .int x_26), (6, .int x_28)] → L_X8_firstFree_82a K_82 M p1 p2 p4 x_26 n x_28 = some r0 → W p l e { frames := 5, cells := 0, slots := 0, locals := 123 } s m args below meth c s.heap locs 0 0 Q (F0 m 82 ls []) := by
                    intro K_82 hK_82 n
                    induction n with
                    | zero =>
                      intro x_28 locs ls hL hl hf
                      cases hf
                    | succ n ih_82 =>
                      intro x_28 locs ls hL hl hf
                      unfold L_X8_firstFree_82a at hf
                      refine lv_iload hx hb dX8_firstFree_82 (lv_at hl 5 rfl) ?_
                      refine lv_iload hx hb dX8_firstFree_84 (lv_at hl 3 rfl) ?_
                      refine lv_iadd hx hb dX8_firstFree_86 ?_
                      refine lv_bipush (v := 23) hx hb dX8_firstFree_87 (by decide) ?_
                      refine lv_icmp_gt (tgt := 126) hx hb dX8_firstFree_89 (by decide) (fun c_29 => ?_) (fun c_29 => ?_)
                      · have hf := (if_pos c_29).symm.trans hf
                        exact hK_82 x_28 _ _ hL (lv_sub hl [0, 1, 2, 3, 4] rfl) hf
                      · have hf := (if_neg c_29).symm.trans hf
                        refine lv_aload_n hx hb dX8_firstFree_92 rfl (lv_at hl 0 rfl) ?_
                        refine lv_iload_n hx hb dX8_firstFree_93 rfl (lv_at hl 1 rfl) ?_
                        refine lv_iload_n hx hb dX8_firstFree_94 rfl (lv_at hl 2 rfl) ?_
                        refine lv_iload hx hb dX8_firstFree_95 (lv_at hl 4 rfl) ?_
                        refine lv_iload hx hb dX8_firstFree_97 (lv_at hl 5 rfl) ?_
                        refine lv_iload hx hb dX8_firstFree_99 (lv_at hl 5 rfl) ?_
                        refine lv_iload hx hb dX8_firstFree_101 (lv_at hl 3 rfl) ?_
                        refine lv_iadd hx hb dX8_firstFree_103 ?_
                        obtain ⟨r_30, e_31, hf⟩ := xb_some hf
                        refine x_callVi (As := [.int p1, .int p2, .int x_26, .int x_28, .int (x_28 + p4)]) (rest := []) S hK (c_X8_clashOn l G z o M p1 p2 x_26 x_28 (x_28 + p4) r_30 e_31) gX8_firstFree_X8_clashOn rfl 5 (by decide +kernel) rfl ⟨Nat.le_of_ble_eq_true rfl, Nat.le_of_ble_eq_true rfl⟩ h_md 0 (by decide) rfl rfl rfl h_md hl.1 rfl (Nat.le_of_ble_eq_true rfl) dX8_firstFree_104 hL ⟨Nat.zero_le _, Nat.zero_le _⟩ (fun H1 locs hL hpost => ?_)
                        subst hpost
                        refine lv_iconst (v := (-1)) hx hb dX8_firstFree_107 (by decide) ?_
                        refine lv_icmp_ne (tgt := 120) hx hb dX8_firstFree_108 (by decide) (fun c_32 => ?_) (fun c_32 => ?_)
                        · have hf := (if_neg c_32).symm.trans hf
                          obtain ⟨x_33, ex_33, hf⟩ := xl_some hf
                          refine lv_iinc (v := x_33) (lv' := [(6, .int x_33), (0, .ref o), (1, .int p1), (2, .int p2), (4, .int p4), (5, .int x_26)]) hx hb dX8_firstFree_120 hl (k := 5) rfl (by rw [ex_33]; rfl) (by decide) rfl (fun ls hl => ?_)
                          refine lv_goto (tgt := 82) hx hb dX8_firstFree_123 (by decide) ?_
                          exact ih_82 x_33 _ _ hL (lv_sub hl [1, 2, 3, 4, 5, 0] rfl) hf
                        · have hf := (if_pos c_32).symm.trans hf
                          refine lv_bipush (v := 100) hx hb dX8_firstFree_111 (by decide) ?_
                          refine lv_iload hx hb dX8_firstFree_113 (lv_at hl 4 rfl) ?_
                          refine lv_imul hx hb dX8_firstFree_115 ?_
                          refine lv_iload hx hb dX8_firstFree_116 (lv_at hl 5 rfl) ?_
                          refine lv_iadd hx hb dX8_firstFree_118 ?_
                          have q0 := Option.some.inj hf
                          subst r0
                          subst hQ
                          refine x_iret (post := (fun H H1 => H1 = H)) S hr hlocks rfl ?_ hL dX8_firstFree_119
                          exact rfl
                  refine lp_82 _ (fun x_34 locs ls hL hl hf => ?_) 100000 8 _ _ hL (lv_sub hl [1, 2, 3, 4, 5, 0] rfl) hf
                  obtain ⟨x_35, ex_35, hf⟩ := xl_some hf
                  refine lv_iinc (v := x_35) (lv' := [(5, .int x_35), (0, .ref o), (1, .int p1), (2, .int p2), (4, .int p4)]) hx hb dX8_firstFree_126 hl (k := 4) rfl (by rw [ex_35]; rfl) (by decide) rfl (fun ls hl => ?_)
                  refine lv_goto (tgt := 70) hx hb dX8_firstFree_129 (by decide) ?_
                  exact ih_70 x_35 _ _ hL (lv_sub hl [1, 2, 3, 4, 0] rfl) hf
            refine lp_70 _ (fun x_36 locs ls hL hl hf => ?_) 100000 p3 _ _ hL (lv_sub hl [1, 2, 3, 5, 0] rfl) hf
            refine lv_ldc (v := (-2000000004)) hx hb hown (hts _ (xm 6 rfl)) dX8_firstFree_132 ?_
            have q0 := Option.some.inj hf
            subst r0
            subst hQ
            refine x_iret (post := (fun H H1 => H1 = H)) S hr hlocks rfl ?_ hL dX8_firstFree_134
            exact rfl
        · have hf := (if_pos c_12).symm.trans hf
          refine lv_ldc (v := (-2000000001)) hx hb hown (hts _ (xm 4 rfl)) dX8_firstFree_45 ?_
          have q0 := Option.some.inj hf
          subst r0
          subst hQ
          refine x_iret (post := (fun H H1 => H1 = H)) S hr hlocks rfl ?_ hL dX8_firstFree_47
          exact rfl
set_option maxRecDepth 100000 in
set_option maxHeartbeats 4000000 in
theorem c_X8_isSeries (l : Launch) (G : xG) (z : Nat) (o : Nat) (M : xV) (p1 : Int32) (p2 : Int32) (p3 : Int32) (p4 : Int32) (r0 : Int32)  (hf : f_X8_isSeries M p1 p2 p3 p4 = some r0) : xM l yX8_isSeries wsX8_isSeries 1 25 G z [.ref o, .int p1, .int p2, .int p3, .int p4] (fun H => PX G o 5 (mdE G o) M H) (some (.int r0)) (fun H H1 => H1 = H) := by
  refine xM.of (cc := cX8_isSeries) (maxL := 5) (ret := (some .boolean)) (by decide +kernel) rfl (Nat.le_of_ble_eq_true rfl) ?_
  intro p e s m args below meth c ls Q hQ S hr hlocks hK hP hl
  obtain ⟨hx, hb, hml, hown, hts⟩ := id S
  have h_md := hP
  have hL : ∀ q ∈ ([] : List Loc), z ≤ q.base := fun q h => absurd h List.not_mem_nil
  have hl : lv_has ls 5 [(0, .ref o), (1, .int p1), (2, .int p2), (3, .int p3), (4, .int p4)] := hl
  have in8 : ∀ w ∈ u_ws RX8 TX8 18, w ∈ wsX8_isSeries := fun _ h => List.mem_cons_of_mem _ (List.mem_append_right _ h)
  unfold f_X8_isSeries at hf
  refine lv_iload_n hx hb dX8_isSeries_0 rfl (lv_at hl 1 rfl) ?_
  refine lv_i2l (v := p1.toInt64) hx hb dX8_isSeries_1 rfl ?_
  refine lv_aload_n hx hb dX8_isSeries_2 rfl (lv_at hl 0 rfl) ?_
  refine x_get S hK h_md 0 (by decide) rfl rfl rfl in8 0 (by decide) (xm 1 rfl) (x := .ref (o + 1)) rfl dX8_isSeries_3 ?_
  refine lv_iconst (v := 0) hx hb dX8_isSeries_6 (by decide) ?_
  refine x_iald S hK h_md 1 (by decide) rfl rfl 0 (by decide) (by decide) dX8_isSeries_7 ?_
  refine lv_i2l (v := (M 1 0).toInt64) hx hb dX8_isSeries_8 rfl ?_
  refine lv_ldc2 (v := 364) hx hb hown (hts _ (xm 2 rfl)) dX8_isSeries_9 ?_
  obtain ⟨r_1, e_2, hf⟩ := xb_some hf
  refine x_callTi (As := [.long (p1.toInt64), .long ((M 1 0).toInt64), .long 364]) (rest := []) S hK (c_X8_in l G z (p1.toInt64) ((M 1 0).toInt64) 364 r_1 e_2) gX8_isSeries_X8_in rfl 3 (by decide +kernel) rfl ⟨Nat.le_of_ble_eq_true rfl, Nat.le_of_ble_eq_true rfl⟩ rfl hl.1 rfl (Nat.le_of_ble_eq_true rfl) dX8_isSeries_12 hL ⟨Nat.zero_le _, Nat.zero_le _⟩ (fun H1 locs hL hpost => ?_)
  subst hpost
  refine lv_if_eq (tgt := 54) hx hb dX8_isSeries_15 (by decide) (fun c_3 => ?_) (fun c_3 => ?_)
  · have hf := (if_pos c_3).symm.trans hf
    refine lv_iconst (v := 0) hx hb dX8_isSeries_54 (by decide) ?_
    have q0 := Option.some.inj hf
    subst r0
    subst hQ
    refine x_zret (post := (fun H H1 => H1 = H)) S hr hlocks (by decide) rfl ?_ hL dX8_isSeries_55
    exact rfl
  · have hf := (if_neg c_3).symm.trans hf
    refine lv_iload_n hx hb dX8_isSeries_18 rfl (lv_at hl 2 rfl) ?_
    obtain ⟨r_4, e_5, hf⟩ := xb_some hf
    refine x_callTi (As := [.int p2]) (rest := []) S hK (c_X8_areHours l G z p2 r_4 e_5) gX8_isSeries_X8_areHours rfl 1 (by decide +kernel) rfl ⟨Nat.le_of_ble_eq_true rfl, Nat.le_of_ble_eq_true rfl⟩ rfl hl.1 rfl (Nat.le_of_ble_eq_true rfl) dX8_isSeries_19 hL ⟨Nat.zero_le _, Nat.zero_le _⟩ (fun H1 locs hL hpost => ?_)
    subst hpost
    refine lv_if_eq (tgt := 54) hx hb dX8_isSeries_22 (by decide) (fun c_6 => ?_) (fun c_6 => ?_)
    · have hf := (if_pos c_6).symm.trans hf
      refine lv_iconst (v := 0) hx hb dX8_isSeries_54 (by decide) ?_
      have q0 := Option.some.inj hf
      subst r0
      subst hQ
      refine x_zret (post := (fun H H1 => H1 = H)) S hr hlocks (by decide) rfl ?_ hL dX8_isSeries_55
      exact rfl
    · have hf := (if_neg c_6).symm.trans hf
      refine lv_iload_n hx hb dX8_isSeries_25 rfl (lv_at hl 3 rfl) ?_
      refine lv_i2l (v := p3.toInt64) hx hb dX8_isSeries_26 rfl ?_
      refine lv_lconst (v := 1) hx hb dX8_isSeries_27 (by decide) ?_
      refine lv_ldc2 (v := 20) hx hb hown (hts _ (xm 3 rfl)) dX8_isSeries_28 ?_
      obtain ⟨r_7, e_8, hf⟩ := xb_some hf
      refine x_callTi (As := [.long (p3.toInt64), .long 1, .long 20]) (rest := []) S hK (c_X8_in l G z (p3.toInt64) 1 20 r_7 e_8) gX8_isSeries_X8_in rfl 3 (by decide +kernel) rfl ⟨Nat.le_of_ble_eq_true rfl, Nat.le_of_ble_eq_true rfl⟩ rfl hl.1 rfl (Nat.le_of_ble_eq_true rfl) dX8_isSeries_31 hL ⟨Nat.zero_le _, Nat.zero_le _⟩ (fun H1 locs hL hpost => ?_)
      subst hpost
      refine lv_if_eq (tgt := 54) hx hb dX8_isSeries_34 (by decide) (fun c_9 => ?_) (fun c_9 => ?_)
      · have hf := (if_pos c_9).symm.trans hf
        refine lv_iconst (v := 0) hx hb dX8_isSeries_54 (by decide) ?_
        have q0 := Option.some.inj hf
        subst r0
        subst hQ
        refine x_zret (post := (fun H H1 => H1 = H)) S hr hlocks (by decide) rfl ?_ hL dX8_isSeries_55
        exact rfl
      · have hf := (if_neg c_9).symm.trans hf
        refine lv_iload hx hb dX8_isSeries_37 (lv_at hl 4 rfl) ?_
        refine lv_i2l (v := p4.toInt64) hx hb dX8_isSeries_39 rfl ?_
        refine lv_lconst (v := 1) hx hb dX8_isSeries_40 (by decide) ?_
        refine lv_ldc2 (v := 60) hx hb hown (hts _ (xm 4 rfl)) dX8_isSeries_41 ?_
        obtain ⟨r_10, e_11, hf⟩ := xb_some hf
        refine x_callTi (As := [.long (p4.toInt64), .long 1, .long 60]) (rest := []) S hK (c_X8_in l G z (p4.toInt64) 1 60 r_10 e_11) gX8_isSeries_X8_in rfl 3 (by decide +kernel) rfl ⟨Nat.le_of_ble_eq_true rfl, Nat.le_of_ble_eq_true rfl⟩ rfl hl.1 rfl (Nat.le_of_ble_eq_true rfl) dX8_isSeries_44 hL ⟨Nat.zero_le _, Nat.zero_le _⟩ (fun H1 locs hL hpost => ?_)
        subst hpost
        refine lv_if_eq (tgt := 54) hx hb dX8_isSeries_47 (by decide) (fun c_12 => ?_) (fun c_12 => ?_)
        · have hf := (if_pos c_12).symm.trans hf
          refine lv_iconst (v := 0) hx hb dX8_isSeries_54 (by decide) ?_
          have q0 := Option.some.inj hf
          subst r0
          subst hQ
          refine x_zret (post := (fun H H1 => H1 = H)) S hr hlocks (by decide) rfl ?_ hL dX8_isSeries_55
          exact rfl
        · have hf := (if_neg c_12).symm.trans hf
          refine lv_iconst (v := 1) hx hb dX8_isSeries_50 (by decide) ?_
          refine lv_goto (tgt := 55) hx hb dX8_isSeries_51 (by decide) ?_
          have q0 := Option.some.inj hf
          subst r0
          subst hQ
          refine x_zret (post := (fun H H1 => H1 = H)) S hr hlocks (by decide) rfl ?_ hL dX8_isSeries_55
          exact rfl
set_option maxRecDepth 100000 in
set_option maxHeartbeats 4000000 in
theorem c_X8_hire (l : Launch) (G : xG) (z : Nat) (o : Nat) (M : xV) (p1 : Int32) (p2 : Int32) (p3 : Int32) (p4 : Int32) (p5 : Int32) (p6 : Int32) (r0 : Int32) (M' : xV) (hz_md : z ≤ o) (hf : f_X8_hire M p1 p2 p3 p4 p5 p6 = some (r0, M')) : xM l yX8_hire wsX8_hire 6 152 G z [.ref o, .int p1, .int p2, .int p3, .int p4, .int p5, .int p6] (fun H => PX G o 5 (mdE G o) M H) (some (.int r0)) (fun H H1 => PX G o 5 (mdE G o) M' H1 ∧ XF (fun q => (o ≤ q ∧ q < o + 5)) H H1) := by
  refine xM.of (cc := cX8_hire) (maxL := 8) (ret := (some .int)) (by decide +kernel) rfl (Nat.le_of_ble_eq_true rfl) ?_
  intro p e s m args below meth c ls Q hQ S hr hlocks hK hP hl
  obtain ⟨hx, hb, hml, hown, hts⟩ := id S
  have h_md := hP
  have hL : ∀ q ∈ ([] : List Loc), z ≤ q.base := fun q h => absurd h List.not_mem_nil
  have hF : XF (fun q => (o ≤ q ∧ q < o + 5)) s.heap s.heap := XF.rf
  have hl : lv_has ls 8 [(0, .ref o), (1, .int p1), (2, .int p2), (3, .int p3), (4, .int p4), (5, .int p5), (6, .int p6)] := hl
  have in8 : ∀ w ∈ u_ws RX8 TX8 18, w ∈ wsX8_hire := fun _ h => List.mem_cons_of_mem _ (List.mem_append_right _ h)
  unfold f_X8_hire at hf
  refine lv_aload_n hx hb dX8_hire_0 rfl (lv_at hl 0 rfl) ?_
  refine lv_iload_n hx hb dX8_hire_1 rfl (lv_at hl 1 rfl) ?_
  obtain ⟨r_1, e_2, hf⟩ := xb_some hf
  refine x_callVi (As := [.int p1]) (rest := []) S hK (c_X8_isHirer l G z o M p1 r_1 e_2) gX8_hire_X8_isHirer rfl 1 (by decide +kernel) rfl ⟨Nat.le_of_ble_eq_true rfl, Nat.le_of_ble_eq_true rfl⟩ h_md 0 (by decide) rfl rfl rfl h_md hl.1 rfl (Nat.le_of_ble_eq_true rfl) dX8_hire_2 hL ⟨Nat.zero_le _, Nat.zero_le _⟩ (fun H1 locs hL hpost => ?_)
  subst hpost
  refine lv_if_eq (tgt := 34) hx hb dX8_hire_5 (by decide) (fun c_3 => ?_) (fun c_3 => ?_)
  · have hf := (if_pos c_3).symm.trans hf
    refine lv_ldc (v := (-2000000001)) hx hb hown (hts _ (xm 2 rfl)) dX8_hire_34 ?_
    obtain ⟨q0, qq0⟩ := Prod.mk.inj (Option.some.inj hf)
    have q1 := qq0
    subst r0
    subst M'
    subst hQ
    refine x_iret (post := (fun H H1 => PX G o 5 (mdE G o) M H1 ∧ XF (fun q => (o ≤ q ∧ q < o + 5)) H H1)) S hr hlocks rfl ?_ hL dX8_hire_36
    exact ⟨h_md, hF⟩
  · have hf := (if_neg c_3).symm.trans hf
    refine lv_iload_n hx hb dX8_hire_8 rfl (lv_at hl 2 rfl) ?_
    refine lv_i2l (v := p2.toInt64) hx hb dX8_hire_9 rfl ?_
    refine lv_lconst (v := 1) hx hb dX8_hire_10 (by decide) ?_
    refine lv_ldc2 (v := 7) hx hb hown (hts _ (xm 1 rfl)) dX8_hire_11 ?_
    obtain ⟨r_4, e_5, hf⟩ := xb_some hf
    refine x_callTi (As := [.long (p2.toInt64), .long 1, .long 7]) (rest := []) S hK (c_X8_in l G z (p2.toInt64) 1 7 r_4 e_5) gX8_hire_X8_in rfl 3 (by decide +kernel) rfl ⟨Nat.le_of_ble_eq_true rfl, Nat.le_of_ble_eq_true rfl⟩ rfl hl.1 rfl (Nat.le_of_ble_eq_true rfl) dX8_hire_14 hL ⟨Nat.zero_le _, Nat.zero_le _⟩ (fun H1 locs hL hpost => ?_)
    subst hpost
    refine lv_if_eq (tgt := 34) hx hb dX8_hire_17 (by decide) (fun c_6 => ?_) (fun c_6 => ?_)
    · have hf := (if_pos c_6).symm.trans hf
      refine lv_ldc (v := (-2000000001)) hx hb hown (hts _ (xm 2 rfl)) dX8_hire_34 ?_
      obtain ⟨q0, qq0⟩ := Prod.mk.inj (Option.some.inj hf)
      have q1 := qq0
      subst r0
      subst M'
      subst hQ
      refine x_iret (post := (fun H H1 => PX G o 5 (mdE G o) M H1 ∧ XF (fun q => (o ≤ q ∧ q < o + 5)) H H1)) S hr hlocks rfl ?_ hL dX8_hire_36
      exact ⟨h_md, hF⟩
    · have hf := (if_neg c_6).symm.trans hf
      refine lv_aload_n hx hb dX8_hire_20 rfl (lv_at hl 0 rfl) ?_
      refine lv_iload_n hx hb dX8_hire_21 rfl (lv_at hl 3 rfl) ?_
      refine lv_iload hx hb dX8_hire_22 (lv_at hl 4 rfl) ?_
      refine lv_iload hx hb dX8_hire_24 (lv_at hl 5 rfl) ?_
      refine lv_iload hx hb dX8_hire_26 (lv_at hl 6 rfl) ?_
      obtain ⟨r_7, e_8, hf⟩ := xb_some hf
      refine x_callVi (As := [.int p3, .int p4, .int p5, .int p6]) (rest := []) S hK (c_X8_isSeries l G z o M p3 p4 p5 p6 r_7 e_8) gX8_hire_X8_isSeries rfl 4 (by decide +kernel) rfl ⟨Nat.le_of_ble_eq_true rfl, Nat.le_of_ble_eq_true rfl⟩ h_md 0 (by decide) rfl rfl rfl h_md hl.1 rfl (Nat.le_of_ble_eq_true rfl) dX8_hire_28 hL ⟨Nat.zero_le _, Nat.zero_le _⟩ (fun H1 locs hL hpost => ?_)
      subst hpost
      refine lv_if_ne (tgt := 37) hx hb dX8_hire_31 (by decide) (fun c_9 => ?_) (fun c_9 => ?_)
      · have hf := (if_neg c_9).symm.trans hf
        refine lv_iload_n hx hb dX8_hire_37 rfl (lv_at hl 3 rfl) ?_
        refine lv_iload hx hb dX8_hire_38 (lv_at hl 5 rfl) ?_
        refine lv_iconst (v := 1) hx hb dX8_hire_40 (by decide) ?_
        refine lv_isub hx hb dX8_hire_41 ?_
        refine lv_iload hx hb dX8_hire_42 (lv_at hl 6 rfl) ?_
        refine lv_imul hx hb dX8_hire_44 ?_
        refine lv_iadd hx hb dX8_hire_45 ?_
        refine lv_sipush (v := 364) hx hb dX8_hire_46 (by decide) ?_
        refine lv_icmp_le (tgt := 55) hx hb dX8_hire_49 (by decide) (fun c_10 => ?_) (fun c_10 => ?_)
        · have hf := (if_pos c_10).symm.trans hf
          refine lv_aload_n hx hb dX8_hire_55 rfl (lv_at hl 0 rfl) ?_
          refine lv_iload_n hx hb dX8_hire_56 rfl (lv_at hl 1 rfl) ?_
          refine lv_iload_n hx hb dX8_hire_57 rfl (lv_at hl 2 rfl) ?_
          refine lv_iload_n hx hb dX8_hire_58 rfl (lv_at hl 3 rfl) ?_
          refine lv_iload hx hb dX8_hire_59 (lv_at hl 4 rfl) ?_
          refine lv_bipush (v := 100) hx hb dX8_hire_61 (by decide) ?_
          refine lv_idiv hx hb dX8_hire_63 (by decide) ?_
          refine lv_iload hx hb dX8_hire_64 (lv_at hl 4 rfl) ?_
          refine lv_bipush (v := 100) hx hb dX8_hire_66 (by decide) ?_
          refine lv_irem hx hb dX8_hire_68 (by decide) ?_
          refine lv_iload hx hb dX8_hire_69 (lv_at hl 5 rfl) ?_
          refine lv_iload hx hb dX8_hire_71 (lv_at hl 6 rfl) ?_
          obtain ⟨r_11, e_12, hf⟩ := xb_some hf
          refine x_callVi (As := [.int p1, .int p2, .int p3, .int (p4 / 100), .int (p4 - p4 / 100 * 100), .int p5, .int p6]) (rest := []) S hK (c_X8_clashOfAll l G z o M p1 p2 p3 (p4 / 100) (p4 - p4 / 100 * 100) p5 p6 r_11 e_12) gX8_hire_X8_clashOfAll rfl 7 (by decide +kernel) rfl ⟨Nat.le_of_ble_eq_true rfl, Nat.le_of_ble_eq_true rfl⟩ h_md 0 (by decide) rfl rfl rfl h_md hl.1 rfl (Nat.le_of_ble_eq_true rfl) dX8_hire_73 hL ⟨Nat.zero_le _, Nat.zero_le _⟩ (fun H1 locs hL hpost => ?_)
          subst hpost
          refine lv_istore (lv' := [(7, .int r_11), (0, .ref o), (1, .int p1), (2, .int p2), (3, .int p3), (4, .int p4), (5, .int p5), (6, .int p6)]) hx hb dX8_hire_76 hl (by decide) rfl (fun ls hl => ?_)
          refine lv_iload hx hb dX8_hire_78 (lv_at hl 0 rfl) ?_
          refine lv_iconst (v := (-1)) hx hb dX8_hire_80 (by decide) ?_
          refine lv_icmp_eq (tgt := 93) hx hb dX8_hire_81 (by decide) (fun c_13 => ?_) (fun c_13 => ?_)
          · have hf := (if_pos c_13).symm.trans hf
            refine lv_aload_n hx hb dX8_hire_93 rfl (lv_at hl 1 rfl) ?_
            refine x_get S hK h_md 0 (by decide) rfl rfl rfl in8 0 (by decide) (xm 5 rfl) (x := .ref (o + 1)) rfl dX8_hire_94 ?_
            refine lv_bipush (v := 10) hx hb dX8_hire_97 (by decide) ?_
            refine x_iald S hK h_md 1 (by decide) rfl rfl 10 (by decide) (by decide) dX8_hire_99 ?_
            refine lv_bipush (v := 12) hx hb dX8_hire_100 (by decide) ?_
            refine lv_icmp_ne (tgt := 108) hx hb dX8_hire_102 (by decide) (fun c_14 => ?_) (fun c_14 => ?_)
            · have hf := (if_neg c_14).symm.trans hf
              refine lv_aload_n hx hb dX8_hire_108 rfl (lv_at hl 1 rfl) ?_
              obtain ⟨M_15, e_16, hf⟩ := xb_some hf
              refine x_callVv (As := []) (rest := []) S hK (c_X8_save l G z o M M_15 (by omega) e_16) gX8_hire_X8_save rfl 0 (by decide +kernel) rfl ⟨Nat.le_of_ble_eq_true rfl, Nat.le_of_ble_eq_true rfl⟩ h_md 0 (by decide) rfl rfl rfl h_md hl.1 rfl (Nat.le_of_ble_eq_true rfl) dX8_hire_109 hL ⟨Nat.zero_le _, Nat.zero_le _⟩ (fun H1 locs hL hpost => ?_)
              obtain ⟨n_md, hfr⟩ := hpost
              have h_md := n_md
              have hF := hF.step hfr (fun q h => by (try dsimp only at h ⊢); omega)
              refine lv_aload_n hx hb dX8_hire_112 rfl (lv_at hl 1 rfl) ?_
              refine lv_iload_n hx hb dX8_hire_113 rfl (lv_at hl 2 rfl) ?_
              refine lv_iload_n hx hb dX8_hire_114 rfl (lv_at hl 3 rfl) ?_
              refine lv_iload_n hx hb dX8_hire_115 rfl (lv_at hl 4 rfl) ?_
              refine lv_iload hx hb dX8_hire_116 (lv_at hl 5 rfl) ?_
              refine lv_bipush (v := 100) hx hb dX8_hire_118 (by decide) ?_
              refine lv_idiv hx hb dX8_hire_120 (by decide) ?_
              refine lv_iload hx hb dX8_hire_121 (lv_at hl 5 rfl) ?_
              refine lv_bipush (v := 100) hx hb dX8_hire_123 (by decide) ?_
              refine lv_irem hx hb dX8_hire_125 (by decide) ?_
              refine lv_iload hx hb dX8_hire_126 (lv_at hl 6 rfl) ?_
              refine lv_iload hx hb dX8_hire_128 (lv_at hl 7 rfl) ?_
              obtain ⟨M_17, e_18, hf⟩ := xb_some hf
              refine x_callVv (As := [.int p1, .int p2, .int p3, .int (p4 / 100), .int (p4 - p4 / 100 * 100), .int p5, .int p6]) (rest := []) S hK (c_X8_makes l G z o M_15 p1 p2 p3 (p4 / 100) (p4 - p4 / 100 * 100) p5 p6 M_17 (by omega) e_18) gX8_hire_X8_makes rfl 7 (by decide +kernel) rfl ⟨Nat.le_of_ble_eq_true rfl, Nat.le_of_ble_eq_true rfl⟩ h_md 0 (by decide) rfl rfl rfl h_md hl.1 rfl (Nat.le_of_ble_eq_true rfl) dX8_hire_130 hL ⟨Nat.zero_le _, Nat.zero_le _⟩ (fun H1 locs hL hpost => ?_)
              obtain ⟨n_md, hfr⟩ := hpost
              have h_md := n_md
              have hF := hF.step hfr (fun q h => by (try dsimp only at h ⊢); omega)
              refine lv_aload_n hx hb dX8_hire_133 rfl (lv_at hl 1 rfl) ?_
              refine x_get S hK h_md 0 (by decide) rfl rfl rfl in8 0 (by decide) (xm 5 rfl) (x := .ref (o + 1)) rfl dX8_hire_134 ?_
              refine lv_bipush (v := 10) hx hb dX8_hire_137 (by decide) ?_
              refine x_iald S hK h_md 1 (by decide) rfl rfl 10 (by decide) (by decide) dX8_hire_139 ?_
              refine lv_iconst (v := 1) hx hb dX8_hire_140 (by decide) ?_
              refine lv_isub hx hb dX8_hire_141 ?_
              obtain ⟨q0, qq0⟩ := Prod.mk.inj (Option.some.inj hf)
              have q1 := qq0
              subst r0
              subst M'
              subst hQ
              refine x_iret (post := (fun H H1 => PX G o 5 (mdE G o) M_17 H1 ∧ XF (fun q => (o ≤ q ∧ q < o + 5)) H H1)) S hr hlocks rfl ?_ hL dX8_hire_142
              exact ⟨h_md, hF⟩
            · have hf := (if_pos c_14).symm.trans hf
              refine lv_ldc (v := (-2000000003)) hx hb hown (hts _ (xm 6 rfl)) dX8_hire_105 ?_
              obtain ⟨q0, qq0⟩ := Prod.mk.inj (Option.some.inj hf)
              have q1 := qq0
              subst r0
              subst M'
              subst hQ
              refine x_iret (post := (fun H H1 => PX G o 5 (mdE G o) M H1 ∧ XF (fun q => (o ≤ q ∧ q < o + 5)) H H1)) S hr hlocks rfl ?_ hL dX8_hire_107
              exact ⟨h_md, hF⟩
          · have hf := (if_neg c_13).symm.trans hf
            refine lv_aload_n hx hb dX8_hire_84 rfl (lv_at hl 1 rfl) ?_
            refine lv_iload hx hb dX8_hire_85 (lv_at hl 0 rfl) ?_
            obtain ⟨M_19, eM_19, hf⟩ := xl_some hf
            refine x_put S hK h_md hz_md hL 0 (by decide) rfl rfl rfl in8 tyX8 tyX8_ok nmX8 4 (by decide) (xm 4 rfl) rfl (vp_nar_int _) rfl (Nat.le_of_ble_eq_true rfl) rfl eM_19 dX8_hire_87 (fun H1 locs hL h_md hfr => ?_)
            have hF := hF.step hfr (fun q h => by (try dsimp only at h ⊢); omega)
            refine lv_ldc (v := (-2000000002)) hx hb hown (hts _ (xm 3 rfl)) dX8_hire_90 ?_
            obtain ⟨q0, qq0⟩ := Prod.mk.inj (Option.some.inj hf)
            have q1 := qq0
            subst r0
            subst M'
            subst hQ
            refine x_iret (post := (fun H H1 => PX G o 5 (mdE G o) M_19 H1 ∧ XF (fun q => (o ≤ q ∧ q < o + 5)) H H1)) S hr hlocks rfl ?_ hL dX8_hire_92
            exact ⟨h_md, hF⟩
        · have hf := (if_neg c_10).symm.trans hf
          refine lv_ldc (v := (-2000000002)) hx hb hown (hts _ (xm 3 rfl)) dX8_hire_52 ?_
          obtain ⟨q0, qq0⟩ := Prod.mk.inj (Option.some.inj hf)
          have q1 := qq0
          subst r0
          subst M'
          subst hQ
          refine x_iret (post := (fun H H1 => PX G o 5 (mdE G o) M H1 ∧ XF (fun q => (o ≤ q ∧ q < o + 5)) H H1)) S hr hlocks rfl ?_ hL dX8_hire_54
          exact ⟨h_md, hF⟩
      · have hf := (if_pos c_9).symm.trans hf
        refine lv_ldc (v := (-2000000001)) hx hb hown (hts _ (xm 2 rfl)) dX8_hire_34 ?_
        obtain ⟨q0, qq0⟩ := Prod.mk.inj (Option.some.inj hf)
        have q1 := qq0
        subst r0
        subst M'
        subst hQ
        refine x_iret (post := (fun H H1 => PX G o 5 (mdE G o) M H1 ∧ XF (fun q => (o ≤ q ∧ q < o + 5)) H H1)) S hr hlocks rfl ?_ hL dX8_hire_36
        exact ⟨h_md, hF⟩
set_option maxRecDepth 100000 in
set_option maxHeartbeats 4000000 in
theorem c_X8_hireInfo (l : Launch) (G : xG) (z : Nat) (o : Nat) (M : xV) (p1 : Int32) (p2 : Int32) (r0 : Int32)  (hf : f_X8_hireInfo M p1 p2 = some r0) : xM l yX8_hireInfo wsX8_hireInfo 3 67 G z [.ref o, .int p1, .int p2] (fun H => PX G o 5 (mdE G o) M H) (some (.int r0)) (fun H H1 => H1 = H) := by
  refine xM.of (cc := cX8_hireInfo) (maxL := 3) (ret := (some .int)) (by decide +kernel) rfl (Nat.le_of_ble_eq_true rfl) ?_
  intro p e s m args below meth c ls Q hQ S hr hlocks hK hP hl
  obtain ⟨hx, hb, hml, hown, hts⟩ := id S
  have h_md := hP
  have hL : ∀ q ∈ ([] : List Loc), z ≤ q.base := fun q h => absurd h List.not_mem_nil
  have hl : lv_has ls 3 [(0, .ref o), (1, .int p1), (2, .int p2)] := hl
  unfold f_X8_hireInfo at hf
  refine lv_aload_n hx hb dX8_hireInfo_0 rfl (lv_at hl 0 rfl) ?_
  refine lv_iload_n hx hb dX8_hireInfo_1 rfl (lv_at hl 1 rfl) ?_
  obtain ⟨r_1, e_2, hf⟩ := xb_some hf
  refine x_callVi (As := [.int p1]) (rest := []) S hK (c_X8_isHire l G z o M p1 r_1 e_2) gX8_hireInfo_X8_isHire rfl 1 (by decide +kernel) rfl ⟨Nat.le_of_ble_eq_true rfl, Nat.le_of_ble_eq_true rfl⟩ h_md 0 (by decide) rfl rfl rfl h_md hl.1 rfl (Nat.le_of_ble_eq_true rfl) dX8_hireInfo_2 hL ⟨Nat.zero_le _, Nat.zero_le _⟩ (fun H1 locs hL hpost => ?_)
  subst hpost
  refine lv_if_eq (tgt := 20) hx hb dX8_hireInfo_5 (by decide) (fun c_3 => ?_) (fun c_3 => ?_)
  · have hf := (if_pos c_3).symm.trans hf
    refine lv_ldc (v := (-2000000001)) hx hb hown (hts _ (xm 2 rfl)) dX8_hireInfo_20 ?_
    have q0 := Option.some.inj hf
    subst r0
    subst hQ
    refine x_iret (post := (fun H H1 => H1 = H)) S hr hlocks rfl ?_ hL dX8_hireInfo_22
    exact rfl
  · have hf := (if_neg c_3).symm.trans hf
    refine lv_iload_n hx hb dX8_hireInfo_8 rfl (lv_at hl 2 rfl) ?_
    refine lv_i2l (v := p2.toInt64) hx hb dX8_hireInfo_9 rfl ?_
    refine lv_lconst (v := 0) hx hb dX8_hireInfo_10 (by decide) ?_
    refine lv_ldc2 (v := 15) hx hb hown (hts _ (xm 1 rfl)) dX8_hireInfo_11 ?_
    obtain ⟨r_4, e_5, hf⟩ := xb_some hf
    refine x_callTi (As := [.long (p2.toInt64), .long 0, .long 15]) (rest := []) S hK (c_X8_in l G z (p2.toInt64) 0 15 r_4 e_5) gX8_hireInfo_X8_in rfl 3 (by decide +kernel) rfl ⟨Nat.le_of_ble_eq_true rfl, Nat.le_of_ble_eq_true rfl⟩ rfl hl.1 rfl (Nat.le_of_ble_eq_true rfl) dX8_hireInfo_14 hL ⟨Nat.zero_le _, Nat.zero_le _⟩ (fun H1 locs hL hpost => ?_)
    subst hpost
    refine lv_if_ne (tgt := 23) hx hb dX8_hireInfo_17 (by decide) (fun c_6 => ?_) (fun c_6 => ?_)
    · have hf := (if_neg c_6).symm.trans hf
      refine lv_iload_n hx hb dX8_hireInfo_23 rfl (lv_at hl 2 rfl) ?_
      by_cases c_7 : p2 = 9
      · have hf := (if_pos c_7).symm.trans hf
        refine x_tin (tgt := 68) (off := 44) S 9 c_7 dX8_hireInfo_24 (by decide) (by decide) (by decide) (by decide) ?_
        refine lv_aload_n hx hb dX8_hireInfo_68 rfl (lv_at hl 0 rfl) ?_
        refine lv_iload_n hx hb dX8_hireInfo_69 rfl (lv_at hl 1 rfl) ?_
        refine lv_iconst (v := 0) hx hb dX8_hireInfo_70 (by decide) ?_
        obtain ⟨r_8, e_9, hf⟩ := xb_some hf
        refine x_callVi (As := [.int p1, .int 0]) (rest := []) S hK (c_X8_manyOf l G z o M p1 0 r_8 e_9) gX8_hireInfo_X8_manyOf rfl 2 (by decide +kernel) rfl ⟨Nat.le_of_ble_eq_true rfl, Nat.le_of_ble_eq_true rfl⟩ h_md 0 (by decide) rfl rfl rfl h_md hl.1 rfl (Nat.le_of_ble_eq_true rfl) dX8_hireInfo_71 hL ⟨Nat.zero_le _, Nat.zero_le _⟩ (fun H1 locs hL hpost => ?_)
        subst hpost
        have q0 := Option.some.inj hf
        subst r0
        subst hQ
        refine x_iret (post := (fun H H1 => H1 = H)) S hr hlocks rfl ?_ hL dX8_hireInfo_74
        exact rfl
      have hf := (if_neg c_7).symm.trans hf
      by_cases c_10 : p2 = 10
      · have hf := (if_pos c_10).symm.trans hf
        refine x_tin (tgt := 75) (off := 51) S 10 c_10 dX8_hireInfo_24 (by decide) (by decide) (by decide) (by decide) ?_
        refine lv_aload_n hx hb dX8_hireInfo_75 rfl (lv_at hl 0 rfl) ?_
        refine lv_iload_n hx hb dX8_hireInfo_76 rfl (lv_at hl 1 rfl) ?_
        refine lv_iconst (v := 1) hx hb dX8_hireInfo_77 (by decide) ?_
        obtain ⟨r_11, e_12, hf⟩ := xb_some hf
        refine x_callVi (As := [.int p1, .int 1]) (rest := []) S hK (c_X8_manyOf l G z o M p1 1 r_11 e_12) gX8_hireInfo_X8_manyOf rfl 2 (by decide +kernel) rfl ⟨Nat.le_of_ble_eq_true rfl, Nat.le_of_ble_eq_true rfl⟩ h_md 0 (by decide) rfl rfl rfl h_md hl.1 rfl (Nat.le_of_ble_eq_true rfl) dX8_hireInfo_78 hL ⟨Nat.zero_le _, Nat.zero_le _⟩ (fun H1 locs hL hpost => ?_)
        subst hpost
        have q0 := Option.some.inj hf
        subst r0
        subst hQ
        refine x_iret (post := (fun H H1 => H1 = H)) S hr hlocks rfl ?_ hL dX8_hireInfo_81
        exact rfl
      have hf := (if_neg c_10).symm.trans hf
      by_cases c_13 : p2 = 11
      · have hf := (if_pos c_13).symm.trans hf
        refine x_tin (tgt := 82) (off := 58) S 11 c_13 dX8_hireInfo_24 (by decide) (by decide) (by decide) (by decide) ?_
        refine lv_aload_n hx hb dX8_hireInfo_82 rfl (lv_at hl 0 rfl) ?_
        refine lv_iload_n hx hb dX8_hireInfo_83 rfl (lv_at hl 1 rfl) ?_
        refine lv_iconst (v := 2) hx hb dX8_hireInfo_84 (by decide) ?_
        obtain ⟨r_14, e_15, hf⟩ := xb_some hf
        refine x_callVi (As := [.int p1, .int 2]) (rest := []) S hK (c_X8_manyOf l G z o M p1 2 r_14 e_15) gX8_hireInfo_X8_manyOf rfl 2 (by decide +kernel) rfl ⟨Nat.le_of_ble_eq_true rfl, Nat.le_of_ble_eq_true rfl⟩ h_md 0 (by decide) rfl rfl rfl h_md hl.1 rfl (Nat.le_of_ble_eq_true rfl) dX8_hireInfo_85 hL ⟨Nat.zero_le _, Nat.zero_le _⟩ (fun H1 locs hL hpost => ?_)
        subst hpost
        have q0 := Option.some.inj hf
        subst r0
        subst hQ
        refine x_iret (post := (fun H H1 => H1 = H)) S hr hlocks rfl ?_ hL dX8_hireInfo_88
        exact rfl
      have hf := (if_neg c_13).symm.trans hf
      by_cases c_16 : p2 = 12
      · have hf := (if_pos c_16).symm.trans hf
        refine x_tin (tgt := 89) (off := 65) S 12 c_16 dX8_hireInfo_24 (by decide) (by decide) (by decide) (by decide) ?_
        refine lv_aload_n hx hb dX8_hireInfo_89 rfl (lv_at hl 0 rfl) ?_
        refine lv_iload_n hx hb dX8_hireInfo_90 rfl (lv_at hl 1 rfl) ?_
        refine lv_bipush (v := 9) hx hb dX8_hireInfo_91 (by decide) ?_
        obtain ⟨r_17, e_18, hf⟩ := xb_some hf
        refine x_callVi (As := [.int p1, .int 9]) (rest := []) S hK (c_X8_of l G z o M p1 9 r_17 e_18) gX8_hireInfo_X8_of rfl 2 (by decide +kernel) rfl ⟨Nat.le_of_ble_eq_true rfl, Nat.le_of_ble_eq_true rfl⟩ h_md 0 (by decide) rfl rfl rfl h_md hl.1 rfl (Nat.le_of_ble_eq_true rfl) dX8_hireInfo_93 hL ⟨Nat.zero_le _, Nat.zero_le _⟩ (fun H1 locs hL hpost => ?_)
        subst hpost
        have q0 := Option.some.inj hf
        subst r0
        subst hQ
        refine x_iret (post := (fun H H1 => H1 = H)) S hr hlocks rfl ?_ hL dX8_hireInfo_96
        exact rfl
      have hf := (if_neg c_16).symm.trans hf
      by_cases c_19 : p2 = 13
      · have hf := (if_pos c_19).symm.trans hf
        refine x_tin (tgt := 97) (off := 73) S 13 c_19 dX8_hireInfo_24 (by decide) (by decide) (by decide) (by decide) ?_
        refine lv_aload_n hx hb dX8_hireInfo_97 rfl (lv_at hl 0 rfl) ?_
        refine lv_iload_n hx hb dX8_hireInfo_98 rfl (lv_at hl 1 rfl) ?_
        refine lv_bipush (v := 11) hx hb dX8_hireInfo_99 (by decide) ?_
        obtain ⟨r_20, e_21, hf⟩ := xb_some hf
        refine x_callVi (As := [.int p1, .int 11]) (rest := []) S hK (c_X8_of l G z o M p1 11 r_20 e_21) gX8_hireInfo_X8_of rfl 2 (by decide +kernel) rfl ⟨Nat.le_of_ble_eq_true rfl, Nat.le_of_ble_eq_true rfl⟩ h_md 0 (by decide) rfl rfl rfl h_md hl.1 rfl (Nat.le_of_ble_eq_true rfl) dX8_hireInfo_101 hL ⟨Nat.zero_le _, Nat.zero_le _⟩ (fun H1 locs hL hpost => ?_)
        subst hpost
        have q0 := Option.some.inj hf
        subst r0
        subst hQ
        refine x_iret (post := (fun H H1 => H1 = H)) S hr hlocks rfl ?_ hL dX8_hireInfo_104
        exact rfl
      have hf := (if_neg c_19).symm.trans hf
      by_cases c_22 : p2 = 14
      · have hf := (if_pos c_22).symm.trans hf
        refine x_tin (tgt := 105) (off := 81) S 14 c_22 dX8_hireInfo_24 (by decide) (by decide) (by decide) (by decide) ?_
        refine lv_aload_n hx hb dX8_hireInfo_105 rfl (lv_at hl 0 rfl) ?_
        refine lv_iload_n hx hb dX8_hireInfo_106 rfl (lv_at hl 1 rfl) ?_
        obtain ⟨r_23, e_24, hf⟩ := xb_some hf
        refine x_callVi (As := [.int p1]) (rest := []) S hK (c_X8_keysOf l G z o M p1 r_23 e_24) gX8_hireInfo_X8_keysOf rfl 1 (by decide +kernel) rfl ⟨Nat.le_of_ble_eq_true rfl, Nat.le_of_ble_eq_true rfl⟩ h_md 0 (by decide) rfl rfl rfl h_md hl.1 rfl (Nat.le_of_ble_eq_true rfl) dX8_hireInfo_107 hL ⟨Nat.zero_le _, Nat.zero_le _⟩ (fun H1 locs hL hpost => ?_)
        subst hpost
        have q0 := Option.some.inj hf
        subst r0
        subst hQ
        refine x_iret (post := (fun H H1 => H1 = H)) S hr hlocks rfl ?_ hL dX8_hireInfo_110
        exact rfl
      have hf := (if_neg c_22).symm.trans hf
      by_cases c_25 : p2 = 15
      · have hf := (if_pos c_25).symm.trans hf
        refine x_tin (tgt := 111) (off := 87) S 15 c_25 dX8_hireInfo_24 (by decide) (by decide) (by decide) (by decide) ?_
        refine lv_aload_n hx hb dX8_hireInfo_111 rfl (lv_at hl 0 rfl) ?_
        refine lv_iload_n hx hb dX8_hireInfo_112 rfl (lv_at hl 1 rfl) ?_
        refine lv_bipush (v := 10) hx hb dX8_hireInfo_113 (by decide) ?_
        obtain ⟨r_26, e_27, hf⟩ := xb_some hf
        refine x_callVi (As := [.int p1, .int 10]) (rest := []) S hK (c_X8_of l G z o M p1 10 r_26 e_27) gX8_hireInfo_X8_of rfl 2 (by decide +kernel) rfl ⟨Nat.le_of_ble_eq_true rfl, Nat.le_of_ble_eq_true rfl⟩ h_md 0 (by decide) rfl rfl rfl h_md hl.1 rfl (Nat.le_of_ble_eq_true rfl) dX8_hireInfo_115 hL ⟨Nat.zero_le _, Nat.zero_le _⟩ (fun H1 locs hL hpost => ?_)
        subst hpost
        have q0 := Option.some.inj hf
        subst r0
        subst hQ
        refine x_iret (post := (fun H H1 => H1 = H)) S hr hlocks rfl ?_ hL dX8_hireInfo_118
        exact rfl
      have hf := (if_neg c_25).symm.trans hf
      have tc_7 : p2.toInt ≠ 9 := fun h9 => c_7 (xti (h9.trans (by decide)))
      have tc_10 : p2.toInt ≠ 10 := fun h9 => c_10 (xti (h9.trans (by decide)))
      have tc_13 : p2.toInt ≠ 11 := fun h9 => c_13 (xti (h9.trans (by decide)))
      have tc_16 : p2.toInt ≠ 12 := fun h9 => c_16 (xti (h9.trans (by decide)))
      have tc_19 : p2.toInt ≠ 13 := fun h9 => c_19 (xti (h9.trans (by decide)))
      have tc_22 : p2.toInt ≠ 14 := fun h9 => c_22 (xti (h9.trans (by decide)))
      have tc_25 : p2.toInt ≠ 15 := fun h9 => c_25 (xti (h9.trans (by decide)))
      refine lv_tableOut (tgt := 119) hx hb dX8_hireInfo_24 (by omega) (by decide) ?_
      refine lv_aload_n hx hb dX8_hireInfo_119 rfl (lv_at hl 0 rfl) ?_
      refine lv_iload_n hx hb dX8_hireInfo_120 rfl (lv_at hl 1 rfl) ?_
      refine lv_iload_n hx hb dX8_hireInfo_121 rfl (lv_at hl 2 rfl) ?_
      obtain ⟨r_28, e_29, hf⟩ := xb_some hf
      refine x_callVi (As := [.int p1, .int p2]) (rest := []) S hK (c_X8_of l G z o M p1 p2 r_28 e_29) gX8_hireInfo_X8_of rfl 2 (by decide +kernel) rfl ⟨Nat.le_of_ble_eq_true rfl, Nat.le_of_ble_eq_true rfl⟩ h_md 0 (by decide) rfl rfl rfl h_md hl.1 rfl (Nat.le_of_ble_eq_true rfl) dX8_hireInfo_122 hL ⟨Nat.zero_le _, Nat.zero_le _⟩ (fun H1 locs hL hpost => ?_)
      subst hpost
      have q0 := Option.some.inj hf
      subst r0
      subst hQ
      refine x_iret (post := (fun H H1 => H1 = H)) S hr hlocks rfl ?_ hL dX8_hireInfo_125
      exact rfl
    · have hf := (if_pos c_6).symm.trans hf
      refine lv_ldc (v := (-2000000001)) hx hb hown (hts _ (xm 2 rfl)) dX8_hireInfo_20 ?_
      have q0 := Option.some.inj hf
      subst r0
      subst hQ
      refine x_iret (post := (fun H H1 => H1 = H)) S hr hlocks rfl ?_ hL dX8_hireInfo_22
      exact rfl
set_option maxRecDepth 100000 in
set_option maxHeartbeats 4000000 in
theorem c_X8_hirer (l : Launch) (G : xG) (z : Nat) (o : Nat) (M : xV) (p1 : Int32) (p2 : Int32) (r0 : Int32)  (hf : f_X8_hirer M p1 p2 = some r0) : xM l yX8_hirer wsX8_hirer 4 92 G z [.ref o, .int p1, .int p2] (fun H => PX G o 5 (mdE G o) M H) (some (.int r0)) (fun H H1 => H1 = H) := by
  refine xM.of (cc := cX8_hirer) (maxL := 5) (ret := (some .int)) (by decide +kernel) rfl (Nat.le_of_ble_eq_true rfl) ?_
  intro p e s m args below meth c ls Q hQ S hr hlocks hK hP hl
  obtain ⟨hx, hb, hml, hown, hts⟩ := id S
  have h_md := hP
  have hL : ∀ q ∈ ([] : List Loc), z ≤ q.base := fun q h => absurd h List.not_mem_nil
  have hl : lv_has ls 5 [(0, .ref o), (1, .int p1), (2, .int p2)] := hl
  have in8 : ∀ w ∈ u_ws RX8 TX8 18, w ∈ wsX8_hirer := fun _ h => List.mem_cons_of_mem _ (List.mem_append_right _ h)
  unfold f_X8_hirer at hf
  refine lv_aload_n hx hb dX8_hirer_0 rfl (lv_at hl 0 rfl) ?_
  refine lv_iload_n hx hb dX8_hirer_1 rfl (lv_at hl 1 rfl) ?_
  obtain ⟨r_1, e_2, hf⟩ := xb_some hf
  refine x_callVi (As := [.int p1]) (rest := []) S hK (c_X8_isHirer l G z o M p1 r_1 e_2) gX8_hirer_X8_isHirer rfl 1 (by decide +kernel) rfl ⟨Nat.le_of_ble_eq_true rfl, Nat.le_of_ble_eq_true rfl⟩ h_md 0 (by decide) rfl rfl rfl h_md hl.1 rfl (Nat.le_of_ble_eq_true rfl) dX8_hirer_2 hL ⟨Nat.zero_le _, Nat.zero_le _⟩ (fun H1 locs hL hpost => ?_)
  subst hpost
  refine lv_if_eq (tgt := 20) hx hb dX8_hirer_5 (by decide) (fun c_3 => ?_) (fun c_3 => ?_)
  · have hf := (if_pos c_3).symm.trans hf
    refine lv_ldc (v := (-2000000001)) hx hb hown (hts _ (xm 2 rfl)) dX8_hirer_20 ?_
    have q0 := Option.some.inj hf
    subst r0
    subst hQ
    refine x_iret (post := (fun H H1 => H1 = H)) S hr hlocks rfl ?_ hL dX8_hirer_22
    exact rfl
  · have hf := (if_neg c_3).symm.trans hf
    refine lv_iload_n hx hb dX8_hirer_8 rfl (lv_at hl 2 rfl) ?_
    refine lv_i2l (v := p2.toInt64) hx hb dX8_hirer_9 rfl ?_
    refine lv_lconst (v := 0) hx hb dX8_hirer_10 (by decide) ?_
    refine lv_ldc2 (v := 6) hx hb hown (hts _ (xm 1 rfl)) dX8_hirer_11 ?_
    obtain ⟨r_4, e_5, hf⟩ := xb_some hf
    refine x_callTi (As := [.long (p2.toInt64), .long 0, .long 6]) (rest := []) S hK (c_X8_in l G z (p2.toInt64) 0 6 r_4 e_5) gX8_hirer_X8_in rfl 3 (by decide +kernel) rfl ⟨Nat.le_of_ble_eq_true rfl, Nat.le_of_ble_eq_true rfl⟩ rfl hl.1 rfl (Nat.le_of_ble_eq_true rfl) dX8_hirer_14 hL ⟨Nat.zero_le _, Nat.zero_le _⟩ (fun H1 locs hL hpost => ?_)
    subst hpost
    refine lv_if_ne (tgt := 23) hx hb dX8_hirer_17 (by decide) (fun c_6 => ?_) (fun c_6 => ?_)
    · have hf := (if_neg c_6).symm.trans hf
      refine lv_aload_n hx hb dX8_hirer_23 rfl (lv_at hl 0 rfl) ?_
      refine x_get S hK h_md 0 (by decide) rfl rfl rfl in8 0 (by decide) (xm 3 rfl) (x := .ref (o + 1)) rfl dX8_hirer_24 ?_
      refine lv_bipush (v := 20) hx hb dX8_hirer_27 (by decide) ?_
      refine lv_iconst (v := 2) hx hb dX8_hirer_29 (by decide) ?_
      refine lv_iload_n hx hb dX8_hirer_30 rfl (lv_at hl 1 rfl) ?_
      refine lv_imul hx hb dX8_hirer_31 ?_
      refine lv_iadd hx hb dX8_hirer_32 ?_
      obtain ⟨g_7, hf⟩ := xg_some hf
      refine x_iald S hK h_md 1 (by decide) rfl rfl (20 + (2 * p1)).toNatClampNeg rfl g_7 dX8_hirer_33 ?_
      obtain ⟨x_8, ex_8, hf⟩ := xl_some hf
      refine x_top ex_8 ?_
      refine lv_istore_n (lv' := [(3, .int x_8), (0, .ref o), (1, .int p1), (2, .int p2)]) hx hb dX8_hirer_34 rfl hl (by decide) rfl (fun ls hl => ?_)
      refine lv_aload_n hx hb dX8_hirer_35 rfl (lv_at hl 1 rfl) ?_
      refine x_get S hK h_md 0 (by decide) rfl rfl rfl in8 0 (by decide) (xm 3 rfl) (x := .ref (o + 1)) rfl dX8_hirer_36 ?_
      refine lv_bipush (v := 20) hx hb dX8_hirer_39 (by decide) ?_
      refine lv_iconst (v := 2) hx hb dX8_hirer_41 (by decide) ?_
      refine lv_iload_n hx hb dX8_hirer_42 rfl (lv_at hl 2 rfl) ?_
      refine lv_imul hx hb dX8_hirer_43 ?_
      refine lv_iadd hx hb dX8_hirer_44 ?_
      refine lv_iconst (v := 1) hx hb dX8_hirer_45 (by decide) ?_
      refine lv_iadd hx hb dX8_hirer_46 ?_
      obtain ⟨g_9, hf⟩ := xg_some hf
      refine x_iald S hK h_md 1 (by decide) rfl rfl ((20 + (2 * p1)) + 1).toNatClampNeg rfl g_9 dX8_hirer_47 ?_
      obtain ⟨x_10, ex_10, hf⟩ := xl_some hf
      refine x_top ex_10 ?_
      refine lv_istore (lv' := [(4, .int x_10), (3, .int x_8), (0, .ref o), (1, .int p1), (2, .int p2)]) hx hb dX8_hirer_48 hl (by decide) rfl (fun ls hl => ?_)
      refine lv_iload_n hx hb dX8_hirer_50 rfl (lv_at hl 4 rfl) ?_
      refine lv_if_ne (tgt := 58) hx hb dX8_hirer_51 (by decide) (fun c_11 => ?_) (fun c_11 => ?_)
      · have hf := (if_neg c_11).symm.trans hf
        refine lv_iload_n hx hb dX8_hirer_58 rfl (lv_at hl 4 rfl) ?_
        refine lv_iconst (v := 1) hx hb dX8_hirer_59 (by decide) ?_
        refine lv_icmp_ne (tgt := 68) hx hb dX8_hirer_60 (by decide) (fun c_12 => ?_) (fun c_12 => ?_)
        · have hf := (if_neg c_12).symm.trans hf
          refine lv_iload_n hx hb dX8_hirer_68 rfl (lv_at hl 4 rfl) ?_
          refine lv_iconst (v := 2) hx hb dX8_hirer_69 (by decide) ?_
          refine lv_icmp_ne (tgt := 80) hx hb dX8_hirer_70 (by decide) (fun c_13 => ?_) (fun c_13 => ?_)
          · have hf := (if_neg c_13).symm.trans hf
            refine lv_aload_n hx hb dX8_hirer_80 rfl (lv_at hl 2 rfl) ?_
            refine lv_iload_n hx hb dX8_hirer_81 rfl (lv_at hl 3 rfl) ?_
            refine lv_iload_n hx hb dX8_hirer_82 rfl (lv_at hl 4 rfl) ?_
            obtain ⟨r_14, e_15, hf⟩ := xb_some hf
            refine x_callVi (As := [.int p1, .int p2]) (rest := []) S hK (c_X8_countHires l G z o M p1 p2 r_14 e_15) gX8_hirer_X8_countHires rfl 2 (by decide +kernel) rfl ⟨Nat.le_of_ble_eq_true rfl, Nat.le_of_ble_eq_true rfl⟩ h_md 0 (by decide) rfl rfl rfl h_md hl.1 rfl (Nat.le_of_ble_eq_true rfl) dX8_hirer_83 hL ⟨Nat.zero_le _, Nat.zero_le _⟩ (fun H1 locs hL hpost => ?_)
            subst hpost
            have q0 := Option.some.inj hf
            subst r0
            subst hQ
            refine x_iret (post := (fun H H1 => H1 = H)) S hr hlocks rfl ?_ hL dX8_hirer_86
            exact rfl
          · have hf := (if_pos c_13).symm.trans hf
            refine lv_iload_n hx hb dX8_hirer_73 rfl (lv_at hl 1 rfl) ?_
            refine lv_iload hx hb dX8_hirer_74 (lv_at hl 0 rfl) ?_
            refine lv_isub hx hb dX8_hirer_76 ?_
            refine lv_goto (tgt := 86) hx hb dX8_hirer_77 (by decide) ?_
            have q0 := Option.some.inj hf
            subst r0
            subst hQ
            refine x_iret (post := (fun H H1 => H1 = H)) S hr hlocks rfl ?_ hL dX8_hirer_86
            exact rfl
        · have hf := (if_pos c_12).symm.trans hf
          refine lv_iload hx hb dX8_hirer_63 (lv_at hl 0 rfl) ?_
          refine lv_goto (tgt := 86) hx hb dX8_hirer_65 (by decide) ?_
          have q0 := Option.some.inj hf
          subst r0
          subst hQ
          refine x_iret (post := (fun H H1 => H1 = H)) S hr hlocks rfl ?_ hL dX8_hirer_86
          exact rfl
      · have hf := (if_pos c_11).symm.trans hf
        refine lv_iload_n hx hb dX8_hirer_54 rfl (lv_at hl 1 rfl) ?_
        refine lv_goto (tgt := 86) hx hb dX8_hirer_55 (by decide) ?_
        have q0 := Option.some.inj hf
        subst r0
        subst hQ
        refine x_iret (post := (fun H H1 => H1 = H)) S hr hlocks rfl ?_ hL dX8_hirer_86
        exact rfl
    · have hf := (if_pos c_6).symm.trans hf
      refine lv_ldc (v := (-2000000001)) hx hb hown (hts _ (xm 2 rfl)) dX8_hirer_20 ?_
      have q0 := Option.some.inj hf
      subst r0
      subst hQ
      refine x_iret (post := (fun H H1 => H1 = H)) S hr hlocks rfl ?_ hL dX8_hirer_22
      exact rfl
set_option maxRecDepth 100000 in
set_option maxHeartbeats 4000000 in
theorem c_X8_holdsToday (l : Launch) (G : xG) (z : Nat) (o : Nat) (M : xV) (r0 : Int32) (M' : xV) (hz_md : z ≤ o) (hf : f_X8_holdsToday M = some (r0, M')) : xM l yX8_holdsToday wsX8_holdsToday 3 67 G z [.ref o] (fun H => PX G o 5 (mdE G o) M H) (some (.int r0)) (fun H H1 => PX G o 5 (mdE G o) M' H1 ∧ XF (fun q => (o ≤ q ∧ q < o + 5)) H H1) := by
  refine xM.of (cc := cX8_holdsToday) (maxL := 3) (ret := (some .int)) (by decide +kernel) rfl (Nat.le_of_ble_eq_true rfl) ?_
  intro p e s m args below meth c ls Q hQ S hr hlocks hK hP hl
  obtain ⟨hx, hb, hml, hown, hts⟩ := id S
  have h_md := hP
  have hL : ∀ q ∈ ([] : List Loc), z ≤ q.base := fun q h => absurd h List.not_mem_nil
  have hF : XF (fun q => (o ≤ q ∧ q < o + 5)) s.heap s.heap := XF.rf
  have hl : lv_has ls 3 [(0, .ref o)] := hl
  have in8 : ∀ w ∈ u_ws RX8 TX8 18, w ∈ wsX8_holdsToday := fun _ h => List.mem_cons_of_mem _ (List.mem_append_right _ h)
  unfold f_X8_holdsToday at hf
  refine lv_iconst (v := 0) hx hb dX8_holdsToday_0 (by decide) ?_
  refine lv_istore_n (lv' := [(1, .int 0), (0, .ref o)]) hx hb dX8_holdsToday_1 rfl hl (by decide) rfl (fun ls hl => ?_)
  refine lv_iconst (v := 0) hx hb dX8_holdsToday_2 (by decide) ?_
  refine lv_istore_n (lv' := [(2, .int 0), (1, .int 0), (0, .ref o)]) hx hb dX8_holdsToday_3 rfl hl (by decide) rfl (fun ls hl => ?_)
  have lp_4 : ∀ (K_4 : Int32 → Int32 → xV → Option (Int32 × xV)), (∀ (x_1 : Int32) (x_2 : Int32) (M_3 : xV) (H : Heap) (locs : List Loc) (ls : Array Slot), (∀ q ∈ locs, z ≤ q.base) → PX G o 5 (mdE G o) M_3 H → XF (fun q => (o ≤ q ∧ q < o + 5)) s.heap H → lv_has ls 3 [(1, .int x_1)] → K_4 x_1 x_2 M_3 = some (r0, M') → W p l e { frames := 3, cells := 0, slots := 0, locals := 67 } s m args below meth c H locs 0 0 Q (F0 m 77 ls [])) → ∀ (n : Nat) (x_1 : Int32) (x_2 : Int32) (M_3 : xV) (H : Heap) (locs : List Loc) (ls : Array Slot), (∀ q ∈ locs, z ≤ q.base) → PX G o 5 (mdE G o) M_3 H → XF (fun q => (o ≤ q ∧ q < o + 5)) s.heap H → lv_has ls 3 [(0, .ref o), (1, .int x_1), (2, .int x_2)] → L_X8_holdsToday_4 K_4 n x_1 x_2 M_3 = some (r0, M') → W p l e { frames := 3, cells := 0, slots := 0, locals := 67 } s m args below meth c H locs 0 0 Q (F0 m 4 ls []) := by
    intro K_4 hK_4 n
    induction n with
    | zero =>
      intro x_1 x_2 M_3 H locs ls hL h_md hF hl hf
      cases hf
    | succ n ih_4 =>
      intro x_1 x_2 M_3 H locs ls hL h_md hF hl hf
      unfold L_X8_holdsToday_4 at hf
      refine lv_iload_n hx hb dX8_holdsToday_4 rfl (lv_at hl 2 rfl) ?_
      refine lv_bipush (v := 20) hx hb dX8_holdsToday_5 (by decide) ?_
      refine lv_aload_n hx hb dX8_holdsToday_7 rfl (lv_at hl 0 rfl) ?_
      refine x_get S hK h_md 0 (by decide) rfl rfl rfl in8 0 (by decide) (xm 1 rfl) (x := .ref (o + 1)) rfl dX8_holdsToday_8 ?_
      refine lv_bipush (v := 10) hx hb dX8_holdsToday_11 (by decide) ?_
      refine x_iald S hK h_md 1 (by decide) rfl rfl 10 (by decide) (by decide) dX8_holdsToday_13 ?_
      refine lv_imul hx hb dX8_holdsToday_14 ?_
      refine lv_icmp_ge (tgt := 77) hx hb dX8_holdsToday_15 (by decide) (fun c_4 => ?_) (fun c_4 => ?_)
      · have hf := (if_pos c_4).symm.trans hf
        exact hK_4 x_1 x_2 M_3 _ _ _ hL h_md hF (lv_sub hl [1] rfl) hf
      · have hf := (if_neg c_4).symm.trans hf
        refine lv_aload_n hx hb dX8_holdsToday_18 rfl (lv_at hl 0 rfl) ?_
        refine lv_iload_n hx hb dX8_holdsToday_19 rfl (lv_at hl 2 rfl) ?_
        obtain ⟨r_5, e_6, hf⟩ := xb_some hf
        refine x_callVi (As := [.int x_2]) (rest := []) S hK (c_X8_isSession l G z o M_3 x_2 r_5 e_6) gX8_holdsToday_X8_isSession rfl 1 (by decide +kernel) rfl ⟨Nat.le_of_ble_eq_true rfl, Nat.le_of_ble_eq_true rfl⟩ h_md 0 (by decide) rfl rfl rfl h_md hl.1 rfl (Nat.le_of_ble_eq_true rfl) dX8_holdsToday_20 hL ⟨Nat.zero_le _, Nat.zero_le _⟩ (fun H1 locs hL hpost => ?_)
        subst hpost
        refine lv_if_eq (tgt := 71) hx hb dX8_holdsToday_23 (by decide) (fun c_7 => ?_) (fun c_7 => ?_)
        · have hf := (if_pos c_7).symm.trans hf
          obtain ⟨x_8, ex_8, hf⟩ := xl_some hf
          refine lv_iinc (v := x_8) (lv' := [(2, .int x_8), (0, .ref o), (1, .int x_1)]) hx hb dX8_holdsToday_71 hl (k := 2) rfl (by rw [ex_8]; rfl) (by decide) rfl (fun ls hl => ?_)
          refine lv_goto (tgt := 4) hx hb dX8_holdsToday_74 (by decide) ?_
          exact ih_4 x_1 x_8 M_3 _ _ _ hL h_md hF (lv_sub hl [1, 2, 0] rfl) hf
        · have hf := (if_neg c_7).symm.trans hf
          refine lv_aload_n hx hb dX8_holdsToday_26 rfl (lv_at hl 0 rfl) ?_
          refine lv_iload_n hx hb dX8_holdsToday_27 rfl (lv_at hl 2 rfl) ?_
          obtain ⟨r_9, e_10, hf⟩ := xb_some hf
          refine x_callVi (As := [.int x_2]) (rest := []) S hK (c_X8_stateOf l G z o M_3 x_2 r_9 e_10) gX8_holdsToday_X8_stateOf rfl 1 (by decide +kernel) rfl ⟨Nat.le_of_ble_eq_true rfl, Nat.le_of_ble_eq_true rfl⟩ h_md 0 (by decide) rfl rfl rfl h_md hl.1 rfl (Nat.le_of_ble_eq_true rfl) dX8_holdsToday_28 hL ⟨Nat.zero_le _, Nat.zero_le _⟩ (fun H1 locs hL hpost => ?_)
          subst hpost
          refine lv_if_ne (tgt := 71) hx hb dX8_holdsToday_31 (by decide) (fun c_11 => ?_) (fun c_11 => ?_)
          · have hf := (if_neg c_11).symm.trans hf
            obtain ⟨x_12, ex_12, hf⟩ := xl_some hf
            refine lv_iinc (v := x_12) (lv' := [(2, .int x_12), (0, .ref o), (1, .int x_1)]) hx hb dX8_holdsToday_71 hl (k := 2) rfl (by rw [ex_12]; rfl) (by decide) rfl (fun ls hl => ?_)
            refine lv_goto (tgt := 4) hx hb dX8_holdsToday_74 (by decide) ?_
            exact ih_4 x_1 x_12 M_3 _ _ _ hL h_md hF (lv_sub hl [1, 2, 0] rfl) hf
          · have hf := (if_pos c_11).symm.trans hf
            refine lv_aload_n hx hb dX8_holdsToday_34 rfl (lv_at hl 0 rfl) ?_
            refine lv_iload_n hx hb dX8_holdsToday_35 rfl (lv_at hl 2 rfl) ?_
            obtain ⟨r_13, e_14, hf⟩ := xb_some hf
            refine x_callVi (As := [.int x_2]) (rest := []) S hK (c_X8_dayOf l G z o M_3 x_2 r_13 e_14) gX8_holdsToday_X8_dayOf rfl 1 (by decide +kernel) rfl ⟨Nat.le_of_ble_eq_true rfl, Nat.le_of_ble_eq_true rfl⟩ h_md 0 (by decide) rfl rfl rfl h_md hl.1 rfl (Nat.le_of_ble_eq_true rfl) dX8_holdsToday_36 hL ⟨Nat.zero_le _, Nat.zero_le _⟩ (fun H1 locs hL hpost => ?_)
            subst hpost
            refine lv_aload_n hx hb dX8_holdsToday_39 rfl (lv_at hl 0 rfl) ?_
            refine x_get S hK h_md 0 (by decide) rfl rfl rfl in8 0 (by decide) (xm 1 rfl) (x := .ref (o + 1)) rfl dX8_holdsToday_40 ?_
            refine lv_iconst (v := 0) hx hb dX8_holdsToday_43 (by decide) ?_
            refine x_iald S hK h_md 1 (by decide) rfl rfl 0 (by decide) (by decide) dX8_holdsToday_44 ?_
            refine lv_icmp_ne (tgt := 71) hx hb dX8_holdsToday_45 (by decide) (fun c_15 => ?_) (fun c_15 => ?_)
            · have hf := (if_neg c_15).symm.trans hf
              obtain ⟨x_16, ex_16, hf⟩ := xl_some hf
              refine lv_iinc (v := x_16) (lv' := [(2, .int x_16), (0, .ref o), (1, .int x_1)]) hx hb dX8_holdsToday_71 hl (k := 2) rfl (by rw [ex_16]; rfl) (by decide) rfl (fun ls hl => ?_)
              refine lv_goto (tgt := 4) hx hb dX8_holdsToday_74 (by decide) ?_
              exact ih_4 x_1 x_16 M_3 _ _ _ hL h_md hF (lv_sub hl [1, 2, 0] rfl) hf
            · have hf := (if_pos c_15).symm.trans hf
              refine lv_aload_n hx hb dX8_holdsToday_48 rfl (lv_at hl 0 rfl) ?_
              refine x_get S hK h_md 0 (by decide) rfl rfl rfl in8 0 (by decide) (xm 1 rfl) (x := .ref (o + 1)) rfl dX8_holdsToday_49 ?_
              refine lv_iload_n hx hb dX8_holdsToday_52 rfl (lv_at hl 2 rfl) ?_
              refine lv_bipush (v := 20) hx hb dX8_holdsToday_53 (by decide) ?_
              refine lv_idiv hx hb dX8_holdsToday_55 (by decide) ?_
              refine lv_bipush (v := 12) hx hb dX8_holdsToday_56 (by decide) ?_
              refine lv_iload_n hx hb dX8_holdsToday_58 rfl (lv_at hl 2 rfl) ?_
              refine lv_bipush (v := 20) hx hb dX8_holdsToday_59 (by decide) ?_
              refine lv_irem hx hb dX8_holdsToday_61 (by decide) ?_
              refine lv_iadd hx hb dX8_holdsToday_62 ?_
              obtain ⟨r_17, e_18, hf⟩ := xb_some hf
              refine x_callTi (As := [.int (x_2 / 20), .int (12 + (x_2 - x_2 / 20 * 20))]) (rest := [.ref (o + 1)]) S hK (c_X8_at l G z (x_2 / 20) (12 + (x_2 - x_2 / 20 * 20)) r_17 e_18) gX8_holdsToday_X8_at rfl 2 (by decide +kernel) rfl ⟨Nat.le_of_ble_eq_true rfl, Nat.le_of_ble_eq_true rfl⟩ rfl hl.1 rfl (Nat.le_of_ble_eq_true rfl) dX8_holdsToday_63 hL ⟨Nat.zero_le _, Nat.zero_le _⟩ (fun H1 locs hL hpost => ?_)
              subst hpost
              refine lv_iconst (v := 1) hx hb dX8_holdsToday_66 (by decide) ?_
              obtain ⟨g_19, hf⟩ := xg_some hf
              obtain ⟨M_20, eM_20, hf⟩ := xl_some hf
              refine x_iast S hK h_md hz_md hL 1 (by decide) rfl rfl r_17.toNatClampNeg rfl g_19 rfl eM_20 dX8_holdsToday_67 (fun H1 locs hL h_md hfr => ?_)
              have hF := hF.step hfr (fun q h => by (try dsimp only at h ⊢); omega)
              obtain ⟨x_21, ex_21, hf⟩ := xl_some hf
              refine lv_iinc (v := x_21) (lv' := [(1, .int x_21), (0, .ref o), (2, .int x_2)]) hx hb dX8_holdsToday_68 hl (k := 1) rfl (by rw [ex_21]; rfl) (by decide) rfl (fun ls hl => ?_)
              obtain ⟨x_22, ex_22, hf⟩ := xl_some hf
              refine lv_iinc (v := x_22) (lv' := [(2, .int x_22), (1, .int x_21), (0, .ref o)]) hx hb dX8_holdsToday_71 hl (k := 2) rfl (by rw [ex_22]; rfl) (by decide) rfl (fun ls hl => ?_)
              refine lv_goto (tgt := 4) hx hb dX8_holdsToday_74 (by decide) ?_
              exact ih_4 x_21 x_22 M_20 _ _ _ hL h_md hF (lv_sub hl [2, 1, 0] rfl) hf
  refine lp_4 _ (fun x_23 x_24 M_25 H locs ls hL h_md hF hl hf => ?_) 100000 0 0 M _ _ _ hL h_md hF (lv_sub hl [2, 1, 0] rfl) hf
  refine lv_iload_n hx hb dX8_holdsToday_77 rfl (lv_at hl 0 rfl) ?_
  obtain ⟨q0, qq0⟩ := Prod.mk.inj (Option.some.inj hf)
  have q1 := qq0
  subst r0
  subst M'
  subst hQ
  refine x_iret (post := (fun H H1 => PX G o 5 (mdE G o) M_25 H1 ∧ XF (fun q => (o ≤ q ∧ q < o + 5)) H H1)) S hr hlocks rfl ?_ hL dX8_holdsToday_78
  exact ⟨h_md, hF⟩
set_option maxRecDepth 100000 in
set_option maxHeartbeats 4000000 in
theorem c_X8_isAhead (l : Launch) (G : xG) (z : Nat) (o : Nat) (M : xV) (p1 : Int32) (p2 : Int32) (r0 : Int32)  (hf : f_X8_isAhead M p1 p2 = some r0) : xM l yX8_isAhead wsX8_isAhead 3 65 G z [.ref o, .int p1, .int p2] (fun H => PX G o 5 (mdE G o) M H) (some (.int r0)) (fun H H1 => H1 = H) := by
  refine xM.of (cc := cX8_isAhead) (maxL := 4) (ret := (some .boolean)) (by decide +kernel) rfl (Nat.le_of_ble_eq_true rfl) ?_
  intro p e s m args below meth c ls Q hQ S hr hlocks hK hP hl
  obtain ⟨hx, hb, hml, hown, hts⟩ := id S
  have h_md := hP
  have hL : ∀ q ∈ ([] : List Loc), z ≤ q.base := fun q h => absurd h List.not_mem_nil
  have hl : lv_has ls 4 [(0, .ref o), (1, .int p1), (2, .int p2)] := hl
  unfold f_X8_isAhead at hf
  refine lv_aload_n hx hb dX8_isAhead_0 rfl (lv_at hl 0 rfl) ?_
  refine lv_iload_n hx hb dX8_isAhead_1 rfl (lv_at hl 1 rfl) ?_
  obtain ⟨r_1, e_2, hf⟩ := xb_some hf
  refine x_callVi (As := [.int p1]) (rest := []) S hK (c_X8_dayOf l G z o M p1 r_1 e_2) gX8_isAhead_X8_dayOf rfl 1 (by decide +kernel) rfl ⟨Nat.le_of_ble_eq_true rfl, Nat.le_of_ble_eq_true rfl⟩ h_md 0 (by decide) rfl rfl rfl h_md hl.1 rfl (Nat.le_of_ble_eq_true rfl) dX8_isAhead_2 hL ⟨Nat.zero_le _, Nat.zero_le _⟩ (fun H1 locs hL hpost => ?_)
  subst hpost
  refine lv_aload_n hx hb dX8_isAhead_5 rfl (lv_at hl 0 rfl) ?_
  refine lv_iload_n hx hb dX8_isAhead_6 rfl (lv_at hl 2 rfl) ?_
  obtain ⟨r_3, e_4, hf⟩ := xb_some hf
  refine x_callVi (As := [.int p2]) (rest := [.int r_1]) S hK (c_X8_dayOf l G z o M p2 r_3 e_4) gX8_isAhead_X8_dayOf rfl 1 (by decide +kernel) rfl ⟨Nat.le_of_ble_eq_true rfl, Nat.le_of_ble_eq_true rfl⟩ h_md 0 (by decide) rfl rfl rfl h_md hl.1 rfl (Nat.le_of_ble_eq_true rfl) dX8_isAhead_7 hL ⟨Nat.zero_le _, Nat.zero_le _⟩ (fun H1 locs hL hpost => ?_)
  subst hpost
  refine lv_isub hx hb dX8_isAhead_10 ?_
  obtain ⟨x_5, ex_5, hf⟩ := xl_some hf
  refine x_top ex_5 ?_
  refine lv_istore_n (lv' := [(3, .int x_5), (0, .ref o), (1, .int p1), (2, .int p2)]) hx hb dX8_isAhead_11 rfl hl (by decide) rfl (fun ls hl => ?_)
  refine lv_iload_n hx hb dX8_isAhead_12 rfl (lv_at hl 0 rfl) ?_
  refine lv_if_ne (tgt := 38) hx hb dX8_isAhead_13 (by decide) (fun c_6 => ?_) (fun c_6 => ?_)
  · have hf := (if_neg c_6).symm.trans hf
    refine lv_iload_n hx hb dX8_isAhead_38 rfl (lv_at hl 0 rfl) ?_
    refine lv_istore_n (lv' := [(3, .int x_5), (0, .ref o), (1, .int p1), (2, .int p2)]) hx hb dX8_isAhead_39 rfl hl (by decide) rfl (fun ls hl => ?_)
    refine lv_iload_n hx hb dX8_isAhead_40 rfl (lv_at hl 0 rfl) ?_
    refine lv_if_lt (tgt := 53) hx hb dX8_isAhead_41 (by decide) (fun c_7 => ?_) (fun c_7 => ?_)
    · have hf := (if_pos c_7).symm.trans hf
      refine lv_iconst (v := 1) hx hb dX8_isAhead_53 (by decide) ?_
      refine lv_goto (tgt := 58) hx hb dX8_isAhead_54 (by decide) ?_
      have q0 := Option.some.inj hf
      subst r0
      subst hQ
      refine x_zret (post := (fun H H1 => H1 = H)) S hr hlocks (by decide) rfl ?_ hL dX8_isAhead_58
      exact rfl
    · have hf := (if_neg c_7).symm.trans hf
      refine lv_iload_n hx hb dX8_isAhead_44 rfl (lv_at hl 0 rfl) ?_
      refine lv_if_ne (tgt := 57) hx hb dX8_isAhead_45 (by decide) (fun c_8 => ?_) (fun c_8 => ?_)
      · have hf := (if_neg c_8).symm.trans hf
        refine lv_iconst (v := 0) hx hb dX8_isAhead_57 (by decide) ?_
        have q0 := Option.some.inj hf
        subst r0
        subst hQ
        refine x_zret (post := (fun H H1 => H1 = H)) S hr hlocks (by decide) rfl ?_ hL dX8_isAhead_58
        exact rfl
      · have hf := (if_pos c_8).symm.trans hf
        refine lv_iload_n hx hb dX8_isAhead_48 rfl (lv_at hl 2 rfl) ?_
        refine lv_iload_n hx hb dX8_isAhead_49 rfl (lv_at hl 3 rfl) ?_
        refine lv_icmp_ge (tgt := 57) hx hb dX8_isAhead_50 (by decide) (fun c_9 => ?_) (fun c_9 => ?_)
        · have hf := (if_pos c_9).symm.trans hf
          refine lv_iconst (v := 0) hx hb dX8_isAhead_57 (by decide) ?_
          have q0 := Option.some.inj hf
          subst r0
          subst hQ
          refine x_zret (post := (fun H H1 => H1 = H)) S hr hlocks (by decide) rfl ?_ hL dX8_isAhead_58
          exact rfl
        · have hf := (if_neg c_9).symm.trans hf
          refine lv_iconst (v := 1) hx hb dX8_isAhead_53 (by decide) ?_
          refine lv_goto (tgt := 58) hx hb dX8_isAhead_54 (by decide) ?_
          have q0 := Option.some.inj hf
          subst r0
          subst hQ
          refine x_zret (post := (fun H H1 => H1 = H)) S hr hlocks (by decide) rfl ?_ hL dX8_isAhead_58
          exact rfl
  · have hf := (if_pos c_6).symm.trans hf
    refine lv_aload_n hx hb dX8_isAhead_16 rfl (lv_at hl 1 rfl) ?_
    refine lv_iload_n hx hb dX8_isAhead_17 rfl (lv_at hl 2 rfl) ?_
    refine lv_bipush (v := 20) hx hb dX8_isAhead_18 (by decide) ?_
    refine lv_idiv hx hb dX8_isAhead_20 (by decide) ?_
    refine lv_iconst (v := 2) hx hb dX8_isAhead_21 (by decide) ?_
    obtain ⟨r_10, e_11, hf⟩ := xb_some hf
    refine x_callVi (As := [.int (p1 / 20), .int 2]) (rest := []) S hK (c_X8_of l G z o M (p1 / 20) 2 r_10 e_11) gX8_isAhead_X8_of rfl 2 (by decide +kernel) rfl ⟨Nat.le_of_ble_eq_true rfl, Nat.le_of_ble_eq_true rfl⟩ h_md 0 (by decide) rfl rfl rfl h_md hl.1 rfl (Nat.le_of_ble_eq_true rfl) dX8_isAhead_22 hL ⟨Nat.zero_le _, Nat.zero_le _⟩ (fun H1 locs hL hpost => ?_)
    subst hpost
    refine lv_aload_n hx hb dX8_isAhead_25 rfl (lv_at hl 1 rfl) ?_
    refine lv_iload_n hx hb dX8_isAhead_26 rfl (lv_at hl 3 rfl) ?_
    refine lv_bipush (v := 20) hx hb dX8_isAhead_27 (by decide) ?_
    refine lv_idiv hx hb dX8_isAhead_29 (by decide) ?_
    refine lv_iconst (v := 2) hx hb dX8_isAhead_30 (by decide) ?_
    obtain ⟨r_12, e_13, hf⟩ := xb_some hf
    refine x_callVi (As := [.int (p2 / 20), .int 2]) (rest := [.int r_10]) S hK (c_X8_of l G z o M (p2 / 20) 2 r_12 e_13) gX8_isAhead_X8_of rfl 2 (by decide +kernel) rfl ⟨Nat.le_of_ble_eq_true rfl, Nat.le_of_ble_eq_true rfl⟩ h_md 0 (by decide) rfl rfl rfl h_md hl.1 rfl (Nat.le_of_ble_eq_true rfl) dX8_isAhead_31 hL ⟨Nat.zero_le _, Nat.zero_le _⟩ (fun H1 locs hL hpost => ?_)
    subst hpost
    refine lv_isub hx hb dX8_isAhead_34 ?_
    refine lv_goto (tgt := 39) hx hb dX8_isAhead_35 (by decide) ?_
    obtain ⟨x_14, ex_14, hf⟩ := xl_some hf
    refine x_top ex_14 ?_
    refine lv_istore_n (lv' := [(3, .int x_14), (0, .ref o), (1, .int p1), (2, .int p2)]) hx hb dX8_isAhead_39 rfl hl (by decide) rfl (fun ls hl => ?_)
    refine lv_iload_n hx hb dX8_isAhead_40 rfl (lv_at hl 0 rfl) ?_
    refine lv_if_lt (tgt := 53) hx hb dX8_isAhead_41 (by decide) (fun c_15 => ?_) (fun c_15 => ?_)
    · have hf := (if_pos c_15).symm.trans hf
      refine lv_iconst (v := 1) hx hb dX8_isAhead_53 (by decide) ?_
      refine lv_goto (tgt := 58) hx hb dX8_isAhead_54 (by decide) ?_
      have q0 := Option.some.inj hf
      subst r0
      subst hQ
      refine x_zret (post := (fun H H1 => H1 = H)) S hr hlocks (by decide) rfl ?_ hL dX8_isAhead_58
      exact rfl
    · have hf := (if_neg c_15).symm.trans hf
      refine lv_iload_n hx hb dX8_isAhead_44 rfl (lv_at hl 0 rfl) ?_
      refine lv_if_ne (tgt := 57) hx hb dX8_isAhead_45 (by decide) (fun c_16 => ?_) (fun c_16 => ?_)
      · have hf := (if_neg c_16).symm.trans hf
        refine lv_iconst (v := 0) hx hb dX8_isAhead_57 (by decide) ?_
        have q0 := Option.some.inj hf
        subst r0
        subst hQ
        refine x_zret (post := (fun H H1 => H1 = H)) S hr hlocks (by decide) rfl ?_ hL dX8_isAhead_58
        exact rfl
      · have hf := (if_pos c_16).symm.trans hf
        refine lv_iload_n hx hb dX8_isAhead_48 rfl (lv_at hl 2 rfl) ?_
        refine lv_iload_n hx hb dX8_isAhead_49 rfl (lv_at hl 3 rfl) ?_
        refine lv_icmp_ge (tgt := 57) hx hb dX8_isAhead_50 (by decide) (fun c_17 => ?_) (fun c_17 => ?_)
        · have hf := (if_pos c_17).symm.trans hf
          refine lv_iconst (v := 0) hx hb dX8_isAhead_57 (by decide) ?_
          have q0 := Option.some.inj hf
          subst r0
          subst hQ
          refine x_zret (post := (fun H H1 => H1 = H)) S hr hlocks (by decide) rfl ?_ hL dX8_isAhead_58
          exact rfl
        · have hf := (if_neg c_17).symm.trans hf
          refine lv_iconst (v := 1) hx hb dX8_isAhead_53 (by decide) ?_
          refine lv_goto (tgt := 58) hx hb dX8_isAhead_54 (by decide) ?_
          have q0 := Option.some.inj hf
          subst r0
          subst hQ
          refine x_zret (post := (fun H H1 => H1 = H)) S hr hlocks (by decide) rfl ?_ hL dX8_isAhead_58
          exact rfl
set_option maxRecDepth 100000 in
set_option maxHeartbeats 4000000 in
theorem c_X8_placeOf (l : Launch) (G : xG) (z : Nat) (o : Nat) (M : xV) (p1 : Int32) (r0 : Int32)  (hf : f_X8_placeOf M p1 = some r0) : xM l yX8_placeOf wsX8_placeOf 4 88 G z [.ref o, .int p1] (fun H => PX G o 5 (mdE G o) M H) (some (.int r0)) (fun H H1 => H1 = H) := by
  refine xM.of (cc := cX8_placeOf) (maxL := 4) (ret := (some .int)) (by decide +kernel) rfl (Nat.le_of_ble_eq_true rfl) ?_
  intro p e s m args below meth c ls Q hQ S hr hlocks hK hP hl
  obtain ⟨hx, hb, hml, hown, hts⟩ := id S
  have h_md := hP
  have hL : ∀ q ∈ ([] : List Loc), z ≤ q.base := fun q h => absurd h List.not_mem_nil
  have hl : lv_has ls 4 [(0, .ref o), (1, .int p1)] := hl
  have in8 : ∀ w ∈ u_ws RX8 TX8 18, w ∈ wsX8_placeOf := fun _ h => List.mem_cons_of_mem _ (List.mem_append_right _ h)
  unfold f_X8_placeOf at hf
  refine lv_iconst (v := 0) hx hb dX8_placeOf_0 (by decide) ?_
  refine lv_istore_n (lv' := [(2, .int 0), (0, .ref o), (1, .int p1)]) hx hb dX8_placeOf_1 rfl hl (by decide) rfl (fun ls hl => ?_)
  refine lv_iconst (v := 0) hx hb dX8_placeOf_2 (by decide) ?_
  refine lv_istore_n (lv' := [(3, .int 0), (2, .int 0), (0, .ref o), (1, .int p1)]) hx hb dX8_placeOf_3 rfl hl (by decide) rfl (fun ls hl => ?_)
  have lp_4 : ∀ (K_4 : Int32 → Int32 → Option Int32), (∀ (x_1 : Int32) (x_2 : Int32) (locs : List Loc) (ls : Array Slot), (∀ q ∈ locs, z ≤ q.base) → lv_has ls 4 [(2, .int x_1)] → K_4 x_1 x_2 = some r0 → W p l e { frames := 4, cells := 0, slots := 0, locals := 88 } s m args below meth c s.heap locs 0 0 Q (F0 m 58 ls [])) → ∀ (n : Nat) (x_1 : Int32) (x_2 : Int32) (locs : List Loc) (ls : Array Slot), (∀ q ∈ locs, z ≤ q.base) → lv_has ls 4 [(0, .ref o), (1, .int p1), (2, .int x_1), (3, .int x_2)] → L_X8_placeOf_4 K_4 M p1 n x_1 x_2 = some r0 → W p l e { frames := 4, cells := 0, slots := 0, locals := 88 } s m args below meth c s.heap locs 0 0 Q (F0 m 4 ls []) := by
    intro K_4 hK_4 n
    induction n with
    | zero =>
      intro x_1 x_2 locs ls hL hl hf
      cases hf
    | succ n ih_4 =>
      intro x_1 x_2 locs ls hL hl hf
      unfold L_X8_placeOf_4 at hf
      refine lv_iload_n hx hb dX8_placeOf_4 rfl (lv_at hl 3 rfl) ?_
      refine lv_bipush (v := 20) hx hb dX8_placeOf_5 (by decide) ?_
      refine lv_aload_n hx hb dX8_placeOf_7 rfl (lv_at hl 0 rfl) ?_
      refine x_get S hK h_md 0 (by decide) rfl rfl rfl in8 0 (by decide) (xm 1 rfl) (x := .ref (o + 1)) rfl dX8_placeOf_8 ?_
      refine lv_bipush (v := 10) hx hb dX8_placeOf_11 (by decide) ?_
      refine x_iald S hK h_md 1 (by decide) rfl rfl 10 (by decide) (by decide) dX8_placeOf_13 ?_
      refine lv_imul hx hb dX8_placeOf_14 ?_
      refine lv_icmp_ge (tgt := 58) hx hb dX8_placeOf_15 (by decide) (fun c_3 => ?_) (fun c_3 => ?_)
      · have hf := (if_pos c_3).symm.trans hf
        exact hK_4 x_1 x_2 _ _ hL (lv_sub hl [2] rfl) hf
      · have hf := (if_neg c_3).symm.trans hf
        refine lv_iload_n hx hb dX8_placeOf_18 rfl (lv_at hl 2 rfl) ?_
        refine lv_aload_n hx hb dX8_placeOf_19 rfl (lv_at hl 0 rfl) ?_
        refine lv_iload_n hx hb dX8_placeOf_20 rfl (lv_at hl 3 rfl) ?_
        obtain ⟨r_4, e_5, hf⟩ := xb_some hf
        refine x_callVi (As := [.int x_2]) (rest := [.int x_1]) S hK (c_X8_isSession l G z o M x_2 r_4 e_5) gX8_placeOf_X8_isSession rfl 1 (by decide +kernel) rfl ⟨Nat.le_of_ble_eq_true rfl, Nat.le_of_ble_eq_true rfl⟩ h_md 0 (by decide) rfl rfl rfl h_md hl.1 rfl (Nat.le_of_ble_eq_true rfl) dX8_placeOf_21 hL ⟨Nat.zero_le _, Nat.zero_le _⟩ (fun H1 locs hL hpost => ?_)
        subst hpost
        refine lv_if_eq (tgt := 49) hx hb dX8_placeOf_24 (by decide) (fun c_6 => ?_) (fun c_6 => ?_)
        · have hf := (if_pos c_6).symm.trans hf
          refine lv_iconst (v := 0) hx hb dX8_placeOf_49 (by decide) ?_
          refine lv_iadd hx hb dX8_placeOf_50 ?_
          obtain ⟨x_7, ex_7, hf⟩ := xl_some hf
          refine x_top ex_7 ?_
          refine lv_istore_n (lv' := [(2, .int x_7), (0, .ref o), (1, .int p1), (3, .int x_2)]) hx hb dX8_placeOf_51 rfl hl (by decide) rfl (fun ls hl => ?_)
          obtain ⟨x_8, ex_8, hf⟩ := xl_some hf
          refine lv_iinc (v := x_8) (lv' := [(3, .int x_8), (2, .int x_7), (0, .ref o), (1, .int p1)]) hx hb dX8_placeOf_52 hl (k := 3) rfl (by rw [ex_8]; rfl) (by decide) rfl (fun ls hl => ?_)
          refine lv_goto (tgt := 4) hx hb dX8_placeOf_55 (by decide) ?_
          exact ih_4 x_7 x_8 _ _ hL (lv_sub hl [2, 3, 1, 0] rfl) hf
        · have hf := (if_neg c_6).symm.trans hf
          refine lv_aload_n hx hb dX8_placeOf_27 rfl (lv_at hl 0 rfl) ?_
          refine lv_iload_n hx hb dX8_placeOf_28 rfl (lv_at hl 3 rfl) ?_
          obtain ⟨r_9, e_10, hf⟩ := xb_some hf
          refine x_callVi (As := [.int x_2]) (rest := [.int x_1]) S hK (c_X8_stateOf l G z o M x_2 r_9 e_10) gX8_placeOf_X8_stateOf rfl 1 (by decide +kernel) rfl ⟨Nat.le_of_ble_eq_true rfl, Nat.le_of_ble_eq_true rfl⟩ h_md 0 (by decide) rfl rfl rfl h_md hl.1 rfl (Nat.le_of_ble_eq_true rfl) dX8_placeOf_29 hL ⟨Nat.zero_le _, Nat.zero_le _⟩ (fun H1 locs hL hpost => ?_)
          subst hpost
          refine lv_iconst (v := 2) hx hb dX8_placeOf_32 (by decide) ?_
          refine lv_icmp_eq (tgt := 49) hx hb dX8_placeOf_33 (by decide) (fun c_11 => ?_) (fun c_11 => ?_)
          · have hf := (if_pos c_11).symm.trans hf
            refine lv_iconst (v := 0) hx hb dX8_placeOf_49 (by decide) ?_
            refine lv_iadd hx hb dX8_placeOf_50 ?_
            obtain ⟨x_12, ex_12, hf⟩ := xl_some hf
            refine x_top ex_12 ?_
            refine lv_istore_n (lv' := [(2, .int x_12), (0, .ref o), (1, .int p1), (3, .int x_2)]) hx hb dX8_placeOf_51 rfl hl (by decide) rfl (fun ls hl => ?_)
            obtain ⟨x_13, ex_13, hf⟩ := xl_some hf
            refine lv_iinc (v := x_13) (lv' := [(3, .int x_13), (2, .int x_12), (0, .ref o), (1, .int p1)]) hx hb dX8_placeOf_52 hl (k := 3) rfl (by rw [ex_13]; rfl) (by decide) rfl (fun ls hl => ?_)
            refine lv_goto (tgt := 4) hx hb dX8_placeOf_55 (by decide) ?_
            exact ih_4 x_12 x_13 _ _ hL (lv_sub hl [2, 3, 1, 0] rfl) hf
          · have hf := (if_neg c_11).symm.trans hf
            refine lv_aload_n hx hb dX8_placeOf_36 rfl (lv_at hl 0 rfl) ?_
            refine lv_iload_n hx hb dX8_placeOf_37 rfl (lv_at hl 3 rfl) ?_
            refine lv_iload_n hx hb dX8_placeOf_38 rfl (lv_at hl 1 rfl) ?_
            obtain ⟨r_14, e_15, hf⟩ := xb_some hf
            refine x_callVi (As := [.int x_2, .int p1]) (rest := [.int x_1]) S hK (c_X8_isAhead l G z o M x_2 p1 r_14 e_15) gX8_placeOf_X8_isAhead rfl 2 (by decide +kernel) rfl ⟨Nat.le_of_ble_eq_true rfl, Nat.le_of_ble_eq_true rfl⟩ h_md 0 (by decide) rfl rfl rfl h_md hl.1 rfl (Nat.le_of_ble_eq_true rfl) dX8_placeOf_39 hL ⟨Nat.zero_le _, Nat.zero_le _⟩ (fun H1 locs hL hpost => ?_)
            subst hpost
            refine lv_if_eq (tgt := 49) hx hb dX8_placeOf_42 (by decide) (fun c_16 => ?_) (fun c_16 => ?_)
            · have hf := (if_pos c_16).symm.trans hf
              refine lv_iconst (v := 0) hx hb dX8_placeOf_49 (by decide) ?_
              refine lv_iadd hx hb dX8_placeOf_50 ?_
              obtain ⟨x_17, ex_17, hf⟩ := xl_some hf
              refine x_top ex_17 ?_
              refine lv_istore_n (lv' := [(2, .int x_17), (0, .ref o), (1, .int p1), (3, .int x_2)]) hx hb dX8_placeOf_51 rfl hl (by decide) rfl (fun ls hl => ?_)
              obtain ⟨x_18, ex_18, hf⟩ := xl_some hf
              refine lv_iinc (v := x_18) (lv' := [(3, .int x_18), (2, .int x_17), (0, .ref o), (1, .int p1)]) hx hb dX8_placeOf_52 hl (k := 3) rfl (by rw [ex_18]; rfl) (by decide) rfl (fun ls hl => ?_)
              refine lv_goto (tgt := 4) hx hb dX8_placeOf_55 (by decide) ?_
              exact ih_4 x_17 x_18 _ _ hL (lv_sub hl [2, 3, 1, 0] rfl) hf
            · have hf := (if_neg c_16).symm.trans hf
              refine lv_iconst (v := 1) hx hb dX8_placeOf_45 (by decide) ?_
              refine lv_goto (tgt := 50) hx hb dX8_placeOf_46 (by decide) ?_
              refine lv_iadd hx hb dX8_placeOf_50 ?_
              obtain ⟨x_19, ex_19, hf⟩ := xl_some hf
              refine x_top ex_19 ?_
              refine lv_istore_n (lv' := [(2, .int x_19), (0, .ref o), (1, .int p1), (3, .int x_2)]) hx hb dX8_placeOf_51 rfl hl (by decide) rfl (fun ls hl => ?_)
              obtain ⟨x_20, ex_20, hf⟩ := xl_some hf
              refine lv_iinc (v := x_20) (lv' := [(3, .int x_20), (2, .int x_19), (0, .ref o), (1, .int p1)]) hx hb dX8_placeOf_52 hl (k := 3) rfl (by rw [ex_20]; rfl) (by decide) rfl (fun ls hl => ?_)
              refine lv_goto (tgt := 4) hx hb dX8_placeOf_55 (by decide) ?_
              exact ih_4 x_19 x_20 _ _ hL (lv_sub hl [2, 3, 1, 0] rfl) hf
  refine lp_4 _ (fun x_21 x_22 locs ls hL hl hf => ?_) 100000 0 0 _ _ hL (lv_sub hl [2, 3, 1, 0] rfl) hf
  refine lv_iload_n hx hb dX8_placeOf_58 rfl (lv_at hl 0 rfl) ?_
  have q0 := Option.some.inj hf
  subst r0
  subst hQ
  refine x_iret (post := (fun H H1 => H1 = H)) S hr hlocks rfl ?_ hL dX8_placeOf_59
  exact rfl
set_option maxRecDepth 100000 in
set_option maxHeartbeats 4000000 in
theorem c_X8_inOrder (l : Launch) (G : xG) (z : Nat) (o : Nat) (M : xV) (p1 : Int32) (r0 : Int32)  (hf : f_X8_inOrder M p1 = some r0) : xM l yX8_inOrder wsX8_inOrder 5 111 G z [.ref o, .int p1] (fun H => PX G o 5 (mdE G o) M H) (some (.int r0)) (fun H H1 => H1 = H) := by
  refine xM.of (cc := cX8_inOrder) (maxL := 3) (ret := (some .int)) (by decide +kernel) rfl (Nat.le_of_ble_eq_true rfl) ?_
  intro p e s m args below meth c ls Q hQ S hr hlocks hK hP hl
  obtain ⟨hx, hb, hml, hown, hts⟩ := id S
  have h_md := hP
  have hL : ∀ q ∈ ([] : List Loc), z ≤ q.base := fun q h => absurd h List.not_mem_nil
  have hl : lv_has ls 3 [(0, .ref o), (1, .int p1)] := hl
  have in8 : ∀ w ∈ u_ws RX8 TX8 18, w ∈ wsX8_inOrder := fun _ h => List.mem_cons_of_mem _ (List.mem_append_right _ h)
  unfold f_X8_inOrder at hf
  refine lv_iload_n hx hb dX8_inOrder_0 rfl (lv_at hl 1 rfl) ?_
  refine lv_if_ge (tgt := 7) hx hb dX8_inOrder_1 (by decide) (fun c_1 => ?_) (fun c_1 => ?_)
  · have hf := (if_pos c_1).symm.trans hf
    refine lv_iconst (v := 0) hx hb dX8_inOrder_7 (by decide) ?_
    refine lv_istore_n (lv' := [(2, .int 0), (0, .ref o), (1, .int p1)]) hx hb dX8_inOrder_8 rfl hl (by decide) rfl (fun ls hl => ?_)
    have lp_9 : ∀ (K_9 : Int32 → Option Int32), (∀ (x_2 : Int32) (locs : List Loc) (ls : Array Slot), (∀ q ∈ locs, z ≤ q.base) → lv_has ls 3 [] → K_9 x_2 = some r0 → W p l e { frames := 5, cells := 0, slots := 0, locals := 111 } s m args below meth c s.heap locs 0 0 Q (F0 m 57 ls [])) → ∀ (n : Nat) (x_2 : Int32) (locs : List Loc) (ls : Array Slot), (∀ q ∈ locs, z ≤ q.base) → lv_has ls 3 [(0, .ref o), (1, .int p1), (2, .int x_2)] → L_X8_inOrder_9 K_9 M p1 n x_2 = some r0 → W p l e { frames := 5, cells := 0, slots := 0, locals := 111 } s m args below meth c s.heap locs 0 0 Q (F0 m 9 ls []) := by
      intro K_9 hK_9 n
      induction n with
      | zero =>
        intro x_2 locs ls hL hl hf
        cases hf
      | succ n ih_9 =>
        intro x_2 locs ls hL hl hf
        unfold L_X8_inOrder_9 at hf
        refine lv_iload_n hx hb dX8_inOrder_9 rfl (lv_at hl 2 rfl) ?_
        refine lv_bipush (v := 20) hx hb dX8_inOrder_10 (by decide) ?_
        refine lv_aload_n hx hb dX8_inOrder_12 rfl (lv_at hl 0 rfl) ?_
        refine x_get S hK h_md 0 (by decide) rfl rfl rfl in8 0 (by decide) (xm 2 rfl) (x := .ref (o + 1)) rfl dX8_inOrder_13 ?_
        refine lv_bipush (v := 10) hx hb dX8_inOrder_16 (by decide) ?_
        refine x_iald S hK h_md 1 (by decide) rfl rfl 10 (by decide) (by decide) dX8_inOrder_18 ?_
        refine lv_imul hx hb dX8_inOrder_19 ?_
        refine lv_icmp_ge (tgt := 57) hx hb dX8_inOrder_20 (by decide) (fun c_3 => ?_) (fun c_3 => ?_)
        · have hf := (if_pos c_3).symm.trans hf
          exact hK_9 x_2 _ _ hL (lv_sub hl [] rfl) hf
        · have hf := (if_neg c_3).symm.trans hf
          refine lv_aload_n hx hb dX8_inOrder_23 rfl (lv_at hl 0 rfl) ?_
          refine lv_iload_n hx hb dX8_inOrder_24 rfl (lv_at hl 2 rfl) ?_
          obtain ⟨r_4, e_5, hf⟩ := xb_some hf
          refine x_callVi (As := [.int x_2]) (rest := []) S hK (c_X8_isSession l G z o M x_2 r_4 e_5) gX8_inOrder_X8_isSession rfl 1 (by decide +kernel) rfl ⟨Nat.le_of_ble_eq_true rfl, Nat.le_of_ble_eq_true rfl⟩ h_md 0 (by decide) rfl rfl rfl h_md hl.1 rfl (Nat.le_of_ble_eq_true rfl) dX8_inOrder_25 hL ⟨Nat.zero_le _, Nat.zero_le _⟩ (fun H1 locs hL hpost => ?_)
          subst hpost
          refine lv_if_eq (tgt := 51) hx hb dX8_inOrder_28 (by decide) (fun c_6 => ?_) (fun c_6 => ?_)
          · have hf := (if_pos c_6).symm.trans hf
            obtain ⟨x_7, ex_7, hf⟩ := xl_some hf
            refine lv_iinc (v := x_7) (lv' := [(2, .int x_7), (0, .ref o), (1, .int p1)]) hx hb dX8_inOrder_51 hl (k := 2) rfl (by rw [ex_7]; rfl) (by decide) rfl (fun ls hl => ?_)
            refine lv_goto (tgt := 9) hx hb dX8_inOrder_54 (by decide) ?_
            exact ih_9 x_7 _ _ hL (lv_sub hl [1, 2, 0] rfl) hf
          · have hf := (if_neg c_6).symm.trans hf
            refine lv_aload_n hx hb dX8_inOrder_31 rfl (lv_at hl 0 rfl) ?_
            refine lv_iload_n hx hb dX8_inOrder_32 rfl (lv_at hl 2 rfl) ?_
            obtain ⟨r_8, e_9, hf⟩ := xb_some hf
            refine x_callVi (As := [.int x_2]) (rest := []) S hK (c_X8_stateOf l G z o M x_2 r_8 e_9) gX8_inOrder_X8_stateOf rfl 1 (by decide +kernel) rfl ⟨Nat.le_of_ble_eq_true rfl, Nat.le_of_ble_eq_true rfl⟩ h_md 0 (by decide) rfl rfl rfl h_md hl.1 rfl (Nat.le_of_ble_eq_true rfl) dX8_inOrder_33 hL ⟨Nat.zero_le _, Nat.zero_le _⟩ (fun H1 locs hL hpost => ?_)
            subst hpost
            refine lv_iconst (v := 2) hx hb dX8_inOrder_36 (by decide) ?_
            refine lv_icmp_eq (tgt := 51) hx hb dX8_inOrder_37 (by decide) (fun c_10 => ?_) (fun c_10 => ?_)
            · have hf := (if_pos c_10).symm.trans hf
              obtain ⟨x_11, ex_11, hf⟩ := xl_some hf
              refine lv_iinc (v := x_11) (lv' := [(2, .int x_11), (0, .ref o), (1, .int p1)]) hx hb dX8_inOrder_51 hl (k := 2) rfl (by rw [ex_11]; rfl) (by decide) rfl (fun ls hl => ?_)
              refine lv_goto (tgt := 9) hx hb dX8_inOrder_54 (by decide) ?_
              exact ih_9 x_11 _ _ hL (lv_sub hl [1, 2, 0] rfl) hf
            · have hf := (if_neg c_10).symm.trans hf
              refine lv_aload_n hx hb dX8_inOrder_40 rfl (lv_at hl 0 rfl) ?_
              refine lv_iload_n hx hb dX8_inOrder_41 rfl (lv_at hl 2 rfl) ?_
              obtain ⟨r_12, e_13, hf⟩ := xb_some hf
              refine x_callVi (As := [.int x_2]) (rest := []) S hK (c_X8_placeOf l G z o M x_2 r_12 e_13) gX8_inOrder_X8_placeOf rfl 1 (by decide +kernel) rfl ⟨Nat.le_of_ble_eq_true rfl, Nat.le_of_ble_eq_true rfl⟩ h_md 0 (by decide) rfl rfl rfl h_md hl.1 rfl (Nat.le_of_ble_eq_true rfl) dX8_inOrder_42 hL ⟨Nat.zero_le _, Nat.zero_le _⟩ (fun H1 locs hL hpost => ?_)
              subst hpost
              refine lv_iload_n hx hb dX8_inOrder_45 rfl (lv_at hl 1 rfl) ?_
              refine lv_icmp_ne (tgt := 51) hx hb dX8_inOrder_46 (by decide) (fun c_14 => ?_) (fun c_14 => ?_)
              · have hf := (if_neg c_14).symm.trans hf
                obtain ⟨x_15, ex_15, hf⟩ := xl_some hf
                refine lv_iinc (v := x_15) (lv' := [(2, .int x_15), (0, .ref o), (1, .int p1)]) hx hb dX8_inOrder_51 hl (k := 2) rfl (by rw [ex_15]; rfl) (by decide) rfl (fun ls hl => ?_)
                refine lv_goto (tgt := 9) hx hb dX8_inOrder_54 (by decide) ?_
                exact ih_9 x_15 _ _ hL (lv_sub hl [1, 2, 0] rfl) hf
              · have hf := (if_pos c_14).symm.trans hf
                refine lv_iload_n hx hb dX8_inOrder_49 rfl (lv_at hl 2 rfl) ?_
                have q0 := Option.some.inj hf
                subst r0
                subst hQ
                refine x_iret (post := (fun H H1 => H1 = H)) S hr hlocks rfl ?_ hL dX8_inOrder_50
                exact rfl
    refine lp_9 _ (fun x_16 locs ls hL hl hf => ?_) 100000 0 _ _ hL (lv_sub hl [1, 2, 0] rfl) hf
    refine lv_ldc (v := (-2000000004)) hx hb hown (hts _ (xm 3 rfl)) dX8_inOrder_57 ?_
    have q0 := Option.some.inj hf
    subst r0
    subst hQ
    refine x_iret (post := (fun H H1 => H1 = H)) S hr hlocks rfl ?_ hL dX8_inOrder_59
    exact rfl
  · have hf := (if_neg c_1).symm.trans hf
    refine lv_ldc (v := (-2000000001)) hx hb hown (hts _ (xm 1 rfl)) dX8_inOrder_4 ?_
    have q0 := Option.some.inj hf
    subst r0
    subst hQ
    refine x_iret (post := (fun H H1 => H1 = H)) S hr hlocks rfl ?_ hL dX8_inOrder_6
    exact rfl
set_option maxRecDepth 100000 in
set_option maxHeartbeats 4000000 in
theorem c_X8_key (l : Launch) (G : xG) (z : Nat) (o : Nat) (M : xV) (p1 : Int32) (p2 : Int32) (r0 : Int32)  (hf : f_X8_key M p1 p2 = some r0) : xM l yX8_key wsX8_key 2 45 G z [.ref o, .int p1, .int p2] (fun H => PX G o 5 (mdE G o) M H) (some (.int r0)) (fun H H1 => H1 = H) := by
  refine xM.of (cc := cX8_key) (maxL := 4) (ret := (some .int)) (by decide +kernel) rfl (Nat.le_of_ble_eq_true rfl) ?_
  intro p e s m args below meth c ls Q hQ S hr hlocks hK hP hl
  obtain ⟨hx, hb, hml, hown, hts⟩ := id S
  have h_md := hP
  have hL : ∀ q ∈ ([] : List Loc), z ≤ q.base := fun q h => absurd h List.not_mem_nil
  have hl : lv_has ls 4 [(0, .ref o), (1, .int p1), (2, .int p2)] := hl
  have in8 : ∀ w ∈ u_ws RX8 TX8 18, w ∈ wsX8_key := fun _ h => List.mem_cons_of_mem _ (List.mem_append_right _ h)
  unfold f_X8_key at hf
  refine lv_iload_n hx hb dX8_key_0 rfl (lv_at hl 1 rfl) ?_
  obtain ⟨r_1, e_2, hf⟩ := xb_some hf
  refine x_callTi (As := [.int p1]) (rest := []) S hK (c_X8_isKey l G z p1 r_1 e_2) gX8_key_X8_isKey rfl 1 (by decide +kernel) rfl ⟨Nat.le_of_ble_eq_true rfl, Nat.le_of_ble_eq_true rfl⟩ rfl hl.1 rfl (Nat.le_of_ble_eq_true rfl) dX8_key_1 hL ⟨Nat.zero_le _, Nat.zero_le _⟩ (fun H1 locs hL hpost => ?_)
  subst hpost
  refine lv_if_eq (tgt := 19) hx hb dX8_key_4 (by decide) (fun c_3 => ?_) (fun c_3 => ?_)
  · have hf := (if_pos c_3).symm.trans hf
    refine lv_ldc (v := (-2000000001)) hx hb hown (hts _ (xm 2 rfl)) dX8_key_19 ?_
    have q0 := Option.some.inj hf
    subst r0
    subst hQ
    refine x_iret (post := (fun H H1 => H1 = H)) S hr hlocks rfl ?_ hL dX8_key_21
    exact rfl
  · have hf := (if_neg c_3).symm.trans hf
    refine lv_iload_n hx hb dX8_key_7 rfl (lv_at hl 2 rfl) ?_
    refine lv_i2l (v := p2.toInt64) hx hb dX8_key_8 rfl ?_
    refine lv_lconst (v := 0) hx hb dX8_key_9 (by decide) ?_
    refine lv_ldc2 (v := 4) hx hb hown (hts _ (xm 1 rfl)) dX8_key_10 ?_
    obtain ⟨r_4, e_5, hf⟩ := xb_some hf
    refine x_callTi (As := [.long (p2.toInt64), .long 0, .long 4]) (rest := []) S hK (c_X8_in l G z (p2.toInt64) 0 4 r_4 e_5) gX8_key_X8_in rfl 3 (by decide +kernel) rfl ⟨Nat.le_of_ble_eq_true rfl, Nat.le_of_ble_eq_true rfl⟩ rfl hl.1 rfl (Nat.le_of_ble_eq_true rfl) dX8_key_13 hL ⟨Nat.zero_le _, Nat.zero_le _⟩ (fun H1 locs hL hpost => ?_)
    subst hpost
    refine lv_if_ne (tgt := 22) hx hb dX8_key_16 (by decide) (fun c_6 => ?_) (fun c_6 => ?_)
    · have hf := (if_neg c_6).symm.trans hf
      refine lv_iload_n hx hb dX8_key_22 rfl (lv_at hl 2 rfl) ?_
      refine lv_if_ne (tgt := 30) hx hb dX8_key_23 (by decide) (fun c_7 => ?_) (fun c_7 => ?_)
      · have hf := (if_neg c_7).symm.trans hf
        refine lv_aload_n hx hb dX8_key_30 rfl (lv_at hl 0 rfl) ?_
        refine x_get S hK h_md 0 (by decide) rfl rfl rfl in8 0 (by decide) (xm 3 rfl) (x := .ref (o + 1)) rfl dX8_key_31 ?_
        refine lv_bipush (v := 40) hx hb dX8_key_34 (by decide) ?_
        refine lv_iconst (v := 2) hx hb dX8_key_36 (by decide) ?_
        refine lv_iload_n hx hb dX8_key_37 rfl (lv_at hl 1 rfl) ?_
        refine lv_imul hx hb dX8_key_38 ?_
        refine lv_iadd hx hb dX8_key_39 ?_
        obtain ⟨g_8, hf⟩ := xg_some hf
        refine x_iald S hK h_md 1 (by decide) rfl rfl (40 + (2 * p1)).toNatClampNeg rfl g_8 dX8_key_40 ?_
        obtain ⟨x_9, ex_9, hf⟩ := xl_some hf
        refine x_top ex_9 ?_
        refine lv_istore_n (lv' := [(3, .int x_9), (0, .ref o), (1, .int p1), (2, .int p2)]) hx hb dX8_key_41 rfl hl (by decide) rfl (fun ls hl => ?_)
        refine lv_iload_n hx hb dX8_key_42 rfl (lv_at hl 0 rfl) ?_
        refine lv_iconst (v := (-1)) hx hb dX8_key_43 (by decide) ?_
        refine lv_icmp_ne (tgt := 50) hx hb dX8_key_44 (by decide) (fun c_10 => ?_) (fun c_10 => ?_)
        · have hf := (if_neg c_10).symm.trans hf
          refine lv_iload_n hx hb dX8_key_50 rfl (lv_at hl 3 rfl) ?_
          refine lv_iconst (v := 1) hx hb dX8_key_51 (by decide) ?_
          refine lv_icmp_ne (tgt := 64) hx hb dX8_key_52 (by decide) (fun c_11 => ?_) (fun c_11 => ?_)
          · have hf := (if_neg c_11).symm.trans hf
            refine lv_iload_n hx hb dX8_key_64 rfl (lv_at hl 3 rfl) ?_
            refine lv_iconst (v := 2) hx hb dX8_key_65 (by decide) ?_
            refine lv_icmp_ne (tgt := 73) hx hb dX8_key_66 (by decide) (fun c_12 => ?_) (fun c_12 => ?_)
            · have hf := (if_neg c_12).symm.trans hf
              refine lv_iload_n hx hb dX8_key_73 rfl (lv_at hl 3 rfl) ?_
              refine lv_iconst (v := 3) hx hb dX8_key_74 (by decide) ?_
              refine lv_icmp_ne (tgt := 94) hx hb dX8_key_75 (by decide) (fun c_13 => ?_) (fun c_13 => ?_)
              · have hf := (if_neg c_13).symm.trans hf
                refine lv_aload_n hx hb dX8_key_94 rfl (lv_at hl 1 rfl) ?_
                refine lv_iload_n hx hb dX8_key_95 rfl (lv_at hl 2 rfl) ?_
                obtain ⟨r_14, e_15, hf⟩ := xb_some hf
                refine x_callVi (As := [.int p1]) (rest := []) S hK (c_X8_lateBy l G z o M p1 r_14 e_15) gX8_key_X8_lateBy rfl 1 (by decide +kernel) rfl ⟨Nat.le_of_ble_eq_true rfl, Nat.le_of_ble_eq_true rfl⟩ h_md 0 (by decide) rfl rfl rfl h_md hl.1 rfl (Nat.le_of_ble_eq_true rfl) dX8_key_96 hL ⟨Nat.zero_le _, Nat.zero_le _⟩ (fun H1 locs hL hpost => ?_)
                subst hpost
                have q0 := Option.some.inj hf
                subst r0
                subst hQ
                refine x_iret (post := (fun H H1 => H1 = H)) S hr hlocks rfl ?_ hL dX8_key_99
                exact rfl
              · have hf := (if_pos c_13).symm.trans hf
                refine lv_aload_n hx hb dX8_key_78 rfl (lv_at hl 1 rfl) ?_
                refine x_get S hK h_md 0 (by decide) rfl rfl rfl in8 0 (by decide) (xm 3 rfl) (x := .ref (o + 1)) rfl dX8_key_79 ?_
                refine lv_bipush (v := 40) hx hb dX8_key_82 (by decide) ?_
                refine lv_iconst (v := 2) hx hb dX8_key_84 (by decide) ?_
                refine lv_iload_n hx hb dX8_key_85 rfl (lv_at hl 2 rfl) ?_
                refine lv_imul hx hb dX8_key_86 ?_
                refine lv_iadd hx hb dX8_key_87 ?_
                refine lv_iconst (v := 1) hx hb dX8_key_88 (by decide) ?_
                refine lv_iadd hx hb dX8_key_89 ?_
                obtain ⟨g_16, hf⟩ := xg_some hf
                refine x_iald S hK h_md 1 (by decide) rfl rfl ((40 + (2 * p1)) + 1).toNatClampNeg rfl g_16 dX8_key_90 ?_
                refine lv_goto (tgt := 99) hx hb dX8_key_91 (by decide) ?_
                have q0 := Option.some.inj hf
                subst r0
                subst hQ
                refine x_iret (post := (fun H H1 => H1 = H)) S hr hlocks rfl ?_ hL dX8_key_99
                exact rfl
            · have hf := (if_pos c_12).symm.trans hf
              refine lv_iload_n hx hb dX8_key_69 rfl (lv_at hl 0 rfl) ?_
              refine lv_goto (tgt := 99) hx hb dX8_key_70 (by decide) ?_
              have q0 := Option.some.inj hf
              subst r0
              subst hQ
              refine x_iret (post := (fun H H1 => H1 = H)) S hr hlocks rfl ?_ hL dX8_key_99
              exact rfl
          · have hf := (if_pos c_11).symm.trans hf
            refine lv_aload_n hx hb dX8_key_55 rfl (lv_at hl 1 rfl) ?_
            refine lv_iload_n hx hb dX8_key_56 rfl (lv_at hl 0 rfl) ?_
            refine lv_iconst (v := 0) hx hb dX8_key_57 (by decide) ?_
            obtain ⟨r_17, e_18, hf⟩ := xb_some hf
            refine x_callVi (As := [.int x_9, .int 0]) (rest := []) S hK (c_X8_of l G z o M x_9 0 r_17 e_18) gX8_key_X8_of rfl 2 (by decide +kernel) rfl ⟨Nat.le_of_ble_eq_true rfl, Nat.le_of_ble_eq_true rfl⟩ h_md 0 (by decide) rfl rfl rfl h_md hl.1 rfl (Nat.le_of_ble_eq_true rfl) dX8_key_58 hL ⟨Nat.zero_le _, Nat.zero_le _⟩ (fun H1 locs hL hpost => ?_)
            subst hpost
            refine lv_goto (tgt := 99) hx hb dX8_key_61 (by decide) ?_
            have q0 := Option.some.inj hf
            subst r0
            subst hQ
            refine x_iret (post := (fun H H1 => H1 = H)) S hr hlocks rfl ?_ hL dX8_key_99
            exact rfl
        · have hf := (if_pos c_10).symm.trans hf
          refine lv_ldc (v := (-2000000004)) hx hb hown (hts _ (xm 4 rfl)) dX8_key_47 ?_
          have q0 := Option.some.inj hf
          subst r0
          subst hQ
          refine x_iret (post := (fun H H1 => H1 = H)) S hr hlocks rfl ?_ hL dX8_key_49
          exact rfl
      · have hf := (if_pos c_7).symm.trans hf
        refine lv_iload_n hx hb dX8_key_26 rfl (lv_at hl 1 rfl) ?_
        refine lv_iconst (v := 3) hx hb dX8_key_27 (by decide) ?_
        refine lv_irem hx hb dX8_key_28 (by decide) ?_
        have q0 := Option.some.inj hf
        subst r0
        subst hQ
        refine x_iret (post := (fun H H1 => H1 = H)) S hr hlocks rfl ?_ hL dX8_key_29
        exact rfl
    · have hf := (if_pos c_6).symm.trans hf
      refine lv_ldc (v := (-2000000001)) hx hb hown (hts _ (xm 2 rfl)) dX8_key_19 ?_
      have q0 := Option.some.inj hf
      subst r0
      subst hQ
      refine x_iret (post := (fun H H1 => H1 = H)) S hr hlocks rfl ?_ hL dX8_key_21
      exact rfl
set_option maxRecDepth 100000 in
set_option maxHeartbeats 4000000 in
theorem c_X8_lastPlanned (l : Launch) (G : xG) (z : Nat) (o : Nat) (M : xV) (p1 : Int32) (r0 : Int32)  (hf : f_X8_lastPlanned M p1 = some r0) : xM l yX8_lastPlanned wsX8_lastPlanned 2 43 G z [.ref o, .int p1] (fun H => PX G o 5 (mdE G o) M H) (some (.int r0)) (fun H H1 => H1 = H) := by
  refine xM.of (cc := cX8_lastPlanned) (maxL := 4) (ret := (some .int)) (by decide +kernel) rfl (Nat.le_of_ble_eq_true rfl) ?_
  intro p e s m args below meth c ls Q hQ S hr hlocks hK hP hl
  obtain ⟨hx, hb, hml, hown, hts⟩ := id S
  have h_md := hP
  have hL : ∀ q ∈ ([] : List Loc), z ≤ q.base := fun q h => absurd h List.not_mem_nil
  have hl : lv_has ls 4 [(0, .ref o), (1, .int p1)] := hl
  unfold f_X8_lastPlanned at hf
  refine lv_iconst (v := (-1)) hx hb dX8_lastPlanned_0 (by decide) ?_
  refine lv_istore_n (lv' := [(2, .int (-1)), (0, .ref o), (1, .int p1)]) hx hb dX8_lastPlanned_1 rfl hl (by decide) rfl (fun ls hl => ?_)
  refine lv_iconst (v := 0) hx hb dX8_lastPlanned_2 (by decide) ?_
  refine lv_istore_n (lv' := [(3, .int 0), (2, .int (-1)), (0, .ref o), (1, .int p1)]) hx hb dX8_lastPlanned_3 rfl hl (by decide) rfl (fun ls hl => ?_)
  have lp_4 : ∀ (K_4 : Int32 → Int32 → Option Int32), (∀ (x_1 : Int32) (x_2 : Int32) (locs : List Loc) (ls : Array Slot), (∀ q ∈ locs, z ≤ q.base) → lv_has ls 4 [(2, .int x_1)] → K_4 x_1 x_2 = some r0 → W p l e { frames := 2, cells := 0, slots := 0, locals := 43 } s m args below meth c s.heap locs 0 0 Q (F0 m 38 ls [])) → ∀ (n : Nat) (x_1 : Int32) (x_2 : Int32) (locs : List Loc) (ls : Array Slot), (∀ q ∈ locs, z ≤ q.base) → lv_has ls 4 [(0, .ref o), (1, .int p1), (2, .int x_1), (3, .int x_2)] → L_X8_lastPlanned_4 K_4 M p1 n x_1 x_2 = some r0 → W p l e { frames := 2, cells := 0, slots := 0, locals := 43 } s m args below meth c s.heap locs 0 0 Q (F0 m 4 ls []) := by
    intro K_4 hK_4 n
    induction n with
    | zero =>
      intro x_1 x_2 locs ls hL hl hf
      cases hf
    | succ n ih_4 =>
      intro x_1 x_2 locs ls hL hl hf
      unfold L_X8_lastPlanned_4 at hf
      refine lv_iload_n hx hb dX8_lastPlanned_4 rfl (lv_at hl 3 rfl) ?_
      refine lv_aload_n hx hb dX8_lastPlanned_5 rfl (lv_at hl 0 rfl) ?_
      refine lv_iload_n hx hb dX8_lastPlanned_6 rfl (lv_at hl 1 rfl) ?_
      refine lv_iconst (v := 4) hx hb dX8_lastPlanned_7 (by decide) ?_
      obtain ⟨r_3, e_4, hf⟩ := xb_some hf
      refine x_callVi (As := [.int p1, .int 4]) (rest := [.int x_2]) S hK (c_X8_of l G z o M p1 4 r_3 e_4) gX8_lastPlanned_X8_of rfl 2 (by decide +kernel) rfl ⟨Nat.le_of_ble_eq_true rfl, Nat.le_of_ble_eq_true rfl⟩ h_md 0 (by decide) rfl rfl rfl h_md hl.1 rfl (Nat.le_of_ble_eq_true rfl) dX8_lastPlanned_8 hL ⟨Nat.zero_le _, Nat.zero_le _⟩ (fun H1 locs hL hpost => ?_)
      subst hpost
      refine lv_icmp_ge (tgt := 38) hx hb dX8_lastPlanned_11 (by decide) (fun c_5 => ?_) (fun c_5 => ?_)
      · have hf := (if_pos c_5).symm.trans hf
        exact hK_4 x_1 x_2 _ _ hL (lv_sub hl [2] rfl) hf
      · have hf := (if_neg c_5).symm.trans hf
        refine lv_aload_n hx hb dX8_lastPlanned_14 rfl (lv_at hl 0 rfl) ?_
        refine lv_iload_n hx hb dX8_lastPlanned_15 rfl (lv_at hl 1 rfl) ?_
        refine lv_bipush (v := 12) hx hb dX8_lastPlanned_16 (by decide) ?_
        refine lv_iload_n hx hb dX8_lastPlanned_18 rfl (lv_at hl 3 rfl) ?_
        refine lv_iadd hx hb dX8_lastPlanned_19 ?_
        obtain ⟨r_6, e_7, hf⟩ := xb_some hf
        refine x_callVi (As := [.int p1, .int (12 + x_2)]) (rest := []) S hK (c_X8_of l G z o M p1 (12 + x_2) r_6 e_7) gX8_lastPlanned_X8_of rfl 2 (by decide +kernel) rfl ⟨Nat.le_of_ble_eq_true rfl, Nat.le_of_ble_eq_true rfl⟩ h_md 0 (by decide) rfl rfl rfl h_md hl.1 rfl (Nat.le_of_ble_eq_true rfl) dX8_lastPlanned_20 hL ⟨Nat.zero_le _, Nat.zero_le _⟩ (fun H1 locs hL hpost => ?_)
        subst hpost
        refine lv_if_ne (tgt := 30) hx hb dX8_lastPlanned_23 (by decide) (fun c_8 => ?_) (fun c_8 => ?_)
        · have hf := (if_neg c_8).symm.trans hf
          refine lv_iload_n hx hb dX8_lastPlanned_30 rfl (lv_at hl 2 rfl) ?_
          refine lv_istore_n (lv' := [(2, .int x_1), (0, .ref o), (1, .int p1), (3, .int x_2)]) hx hb dX8_lastPlanned_31 rfl hl (by decide) rfl (fun ls hl => ?_)
          obtain ⟨x_9, ex_9, hf⟩ := xl_some hf
          refine lv_iinc (v := x_9) (lv' := [(3, .int x_9), (2, .int x_1), (0, .ref o), (1, .int p1)]) hx hb dX8_lastPlanned_32 hl (k := 3) rfl (by rw [ex_9]; rfl) (by decide) rfl (fun ls hl => ?_)
          refine lv_goto (tgt := 4) hx hb dX8_lastPlanned_35 (by decide) ?_
          exact ih_4 x_1 x_9 _ _ hL (lv_sub hl [2, 3, 1, 0] rfl) hf
        · have hf := (if_pos c_8).symm.trans hf
          refine lv_iload_n hx hb dX8_lastPlanned_26 rfl (lv_at hl 3 rfl) ?_
          refine lv_goto (tgt := 31) hx hb dX8_lastPlanned_27 (by decide) ?_
          refine lv_istore_n (lv' := [(2, .int x_2), (0, .ref o), (1, .int p1), (3, .int x_2)]) hx hb dX8_lastPlanned_31 rfl hl (by decide) rfl (fun ls hl => ?_)
          obtain ⟨x_10, ex_10, hf⟩ := xl_some hf
          refine lv_iinc (v := x_10) (lv' := [(3, .int x_10), (2, .int x_2), (0, .ref o), (1, .int p1)]) hx hb dX8_lastPlanned_32 hl (k := 3) rfl (by rw [ex_10]; rfl) (by decide) rfl (fun ls hl => ?_)
          refine lv_goto (tgt := 4) hx hb dX8_lastPlanned_35 (by decide) ?_
          exact ih_4 x_2 x_10 _ _ hL (lv_sub hl [2, 3, 1, 0] rfl) hf
  refine lp_4 _ (fun x_11 x_12 locs ls hL hl hf => ?_) 100000 (-1) 0 _ _ hL (lv_sub hl [2, 3, 1, 0] rfl) hf
  refine lv_iload_n hx hb dX8_lastPlanned_38 rfl (lv_at hl 0 rfl) ?_
  have q0 := Option.some.inj hf
  subst r0
  subst hQ
  refine x_iret (post := (fun H H1 => H1 = H)) S hr hlocks rfl ?_ hL dX8_lastPlanned_39
  exact rfl
set_option maxRecDepth 100000 in
set_option maxHeartbeats 4000000 in
theorem c_X8_lend (l : Launch) (G : xG) (z : Nat) (o : Nat) (M : xV) (p1 : Int32) (p2 : Int32) (r0 : Int32) (M' : xV) (hz_md : z ≤ o) (hf : f_X8_lend M p1 p2 = some (r0, M')) : xM l yX8_lend wsX8_lend 3 66 G z [.ref o, .int p1, .int p2] (fun H => PX G o 5 (mdE G o) M H) (some (.int r0)) (fun H H1 => PX G o 5 (mdE G o) M' H1 ∧ XF (fun q => (o ≤ q ∧ q < o + 5)) H H1) := by
  refine xM.of (cc := cX8_lend) (maxL := 4) (ret := (some .int)) (by decide +kernel) rfl (Nat.le_of_ble_eq_true rfl) ?_
  intro p e s m args below meth c ls Q hQ S hr hlocks hK hP hl
  obtain ⟨hx, hb, hml, hown, hts⟩ := id S
  have h_md := hP
  have hL : ∀ q ∈ ([] : List Loc), z ≤ q.base := fun q h => absurd h List.not_mem_nil
  have hF : XF (fun q => (o ≤ q ∧ q < o + 5)) s.heap s.heap := XF.rf
  have hl : lv_has ls 4 [(0, .ref o), (1, .int p1), (2, .int p2)] := hl
  have in8 : ∀ w ∈ u_ws RX8 TX8 18, w ∈ wsX8_lend := fun _ h => List.mem_cons_of_mem _ (List.mem_append_right _ h)
  unfold f_X8_lend at hf
  refine lv_iload_n hx hb dX8_lend_0 rfl (lv_at hl 1 rfl) ?_
  obtain ⟨r_1, e_2, hf⟩ := xb_some hf
  refine x_callTi (As := [.int p1]) (rest := []) S hK (c_X8_isKey l G z p1 r_1 e_2) gX8_lend_X8_isKey rfl 1 (by decide +kernel) rfl ⟨Nat.le_of_ble_eq_true rfl, Nat.le_of_ble_eq_true rfl⟩ rfl hl.1 rfl (Nat.le_of_ble_eq_true rfl) dX8_lend_1 hL ⟨Nat.zero_le _, Nat.zero_le _⟩ (fun H1 locs hL hpost => ?_)
  subst hpost
  refine lv_if_eq (tgt := 15) hx hb dX8_lend_4 (by decide) (fun c_3 => ?_) (fun c_3 => ?_)
  · have hf := (if_pos c_3).symm.trans hf
    refine lv_ldc (v := (-2000000001)) hx hb hown (hts _ (xm 1 rfl)) dX8_lend_15 ?_
    obtain ⟨q0, qq0⟩ := Prod.mk.inj (Option.some.inj hf)
    have q1 := qq0
    subst r0
    subst M'
    subst hQ
    refine x_iret (post := (fun H H1 => PX G o 5 (mdE G o) M H1 ∧ XF (fun q => (o ≤ q ∧ q < o + 5)) H H1)) S hr hlocks rfl ?_ hL dX8_lend_17
    exact ⟨h_md, hF⟩
  · have hf := (if_neg c_3).symm.trans hf
    refine lv_aload_n hx hb dX8_lend_7 rfl (lv_at hl 0 rfl) ?_
    refine lv_iload_n hx hb dX8_lend_8 rfl (lv_at hl 2 rfl) ?_
    obtain ⟨r_4, e_5, hf⟩ := xb_some hf
    refine x_callVi (As := [.int p2]) (rest := []) S hK (c_X8_isHire l G z o M p2 r_4 e_5) gX8_lend_X8_isHire rfl 1 (by decide +kernel) rfl ⟨Nat.le_of_ble_eq_true rfl, Nat.le_of_ble_eq_true rfl⟩ h_md 0 (by decide) rfl rfl rfl h_md hl.1 rfl (Nat.le_of_ble_eq_true rfl) dX8_lend_9 hL ⟨Nat.zero_le _, Nat.zero_le _⟩ (fun H1 locs hL hpost => ?_)
    subst hpost
    refine lv_if_ne (tgt := 18) hx hb dX8_lend_12 (by decide) (fun c_6 => ?_) (fun c_6 => ?_)
    · have hf := (if_neg c_6).symm.trans hf
      refine lv_aload_n hx hb dX8_lend_18 rfl (lv_at hl 0 rfl) ?_
      refine lv_iload_n hx hb dX8_lend_19 rfl (lv_at hl 2 rfl) ?_
      obtain ⟨r_7, e_8, hf⟩ := xb_some hf
      refine x_callVi (As := [.int p2]) (rest := []) S hK (c_X8_lastPlanned l G z o M p2 r_7 e_8) gX8_lend_X8_lastPlanned rfl 1 (by decide +kernel) rfl ⟨Nat.le_of_ble_eq_true rfl, Nat.le_of_ble_eq_true rfl⟩ h_md 0 (by decide) rfl rfl rfl h_md hl.1 rfl (Nat.le_of_ble_eq_true rfl) dX8_lend_20 hL ⟨Nat.zero_le _, Nat.zero_le _⟩ (fun H1 locs hL hpost => ?_)
      subst hpost
      refine lv_istore_n (lv' := [(3, .int r_7), (0, .ref o), (1, .int p1), (2, .int p2)]) hx hb dX8_lend_23 rfl hl (by decide) rfl (fun ls hl => ?_)
      refine lv_aload_n hx hb dX8_lend_24 rfl (lv_at hl 1 rfl) ?_
      refine x_get S hK h_md 0 (by decide) rfl rfl rfl in8 0 (by decide) (xm 2 rfl) (x := .ref (o + 1)) rfl dX8_lend_25 ?_
      refine lv_bipush (v := 40) hx hb dX8_lend_28 (by decide) ?_
      refine lv_iconst (v := 2) hx hb dX8_lend_30 (by decide) ?_
      refine lv_iload_n hx hb dX8_lend_31 rfl (lv_at hl 2 rfl) ?_
      refine lv_imul hx hb dX8_lend_32 ?_
      refine lv_iadd hx hb dX8_lend_33 ?_
      obtain ⟨g_9, hf⟩ := xg_some hf
      refine x_iald S hK h_md 1 (by decide) rfl rfl (40 + (2 * p1)).toNatClampNeg rfl g_9 dX8_lend_34 ?_
      refine lv_iconst (v := (-1)) hx hb dX8_lend_35 (by decide) ?_
      refine lv_icmp_ne (tgt := 59) hx hb dX8_lend_36 (by decide) (fun c_10 => ?_) (fun c_10 => ?_)
      · have hf := (if_neg c_10).symm.trans hf
        refine lv_ldc (v := (-2000000002)) hx hb hown (hts _ (xm 3 rfl)) dX8_lend_59 ?_
        obtain ⟨q0, qq0⟩ := Prod.mk.inj (Option.some.inj hf)
        have q1 := qq0
        subst r0
        subst M'
        subst hQ
        refine x_iret (post := (fun H H1 => PX G o 5 (mdE G o) M H1 ∧ XF (fun q => (o ≤ q ∧ q < o + 5)) H H1)) S hr hlocks rfl ?_ hL dX8_lend_61
        exact ⟨h_md, hF⟩
      · have hf := (if_pos c_10).symm.trans hf
        refine lv_iload_n hx hb dX8_lend_39 rfl (lv_at hl 0 rfl) ?_
        refine lv_iconst (v := (-1)) hx hb dX8_lend_40 (by decide) ?_
        refine lv_icmp_eq (tgt := 59) hx hb dX8_lend_41 (by decide) (fun c_11 => ?_) (fun c_11 => ?_)
        · have hf := (if_pos c_11).symm.trans hf
          refine lv_ldc (v := (-2000000002)) hx hb hown (hts _ (xm 3 rfl)) dX8_lend_59 ?_
          obtain ⟨q0, qq0⟩ := Prod.mk.inj (Option.some.inj hf)
          have q1 := qq0
          subst r0
          subst M'
          subst hQ
          refine x_iret (post := (fun H H1 => PX G o 5 (mdE G o) M H1 ∧ XF (fun q => (o ≤ q ∧ q < o + 5)) H H1)) S hr hlocks rfl ?_ hL dX8_lend_61
          exact ⟨h_md, hF⟩
        · have hf := (if_neg c_11).symm.trans hf
          refine lv_aload_n hx hb dX8_lend_44 rfl (lv_at hl 1 rfl) ?_
          refine lv_iload_n hx hb dX8_lend_45 rfl (lv_at hl 3 rfl) ?_
          refine lv_iconst (v := 1) hx hb dX8_lend_46 (by decide) ?_
          obtain ⟨r_12, e_13, hf⟩ := xb_some hf
          refine x_callVi (As := [.int p2, .int 1]) (rest := []) S hK (c_X8_of l G z o M p2 1 r_12 e_13) gX8_lend_X8_of rfl 2 (by decide +kernel) rfl ⟨Nat.le_of_ble_eq_true rfl, Nat.le_of_ble_eq_true rfl⟩ h_md 0 (by decide) rfl rfl rfl h_md hl.1 rfl (Nat.le_of_ble_eq_true rfl) dX8_lend_47 hL ⟨Nat.zero_le _, Nat.zero_le _⟩ (fun H1 locs hL hpost => ?_)
          subst hpost
          refine lv_iload_n hx hb dX8_lend_50 rfl (lv_at hl 2 rfl) ?_
          refine lv_iconst (v := 3) hx hb dX8_lend_51 (by decide) ?_
          refine lv_irem hx hb dX8_lend_52 (by decide) ?_
          refine lv_ishr hx hb dX8_lend_53 ?_
          refine lv_iconst (v := 1) hx hb dX8_lend_54 (by decide) ?_
          refine lv_iand hx hb dX8_lend_55 ?_
          refine lv_if_ne (tgt := 62) hx hb dX8_lend_56 (by decide) (fun c_14 => ?_) (fun c_14 => ?_)
          · have hf := (if_neg c_14).symm.trans hf
            refine lv_aload_n hx hb dX8_lend_62 rfl (lv_at hl 1 rfl) ?_
            obtain ⟨M_15, e_16, hf⟩ := xb_some hf
            refine x_callVv (As := []) (rest := []) S hK (c_X8_save l G z o M M_15 (by omega) e_16) gX8_lend_X8_save rfl 0 (by decide +kernel) rfl ⟨Nat.le_of_ble_eq_true rfl, Nat.le_of_ble_eq_true rfl⟩ h_md 0 (by decide) rfl rfl rfl h_md hl.1 rfl (Nat.le_of_ble_eq_true rfl) dX8_lend_63 hL ⟨Nat.zero_le _, Nat.zero_le _⟩ (fun H1 locs hL hpost => ?_)
            obtain ⟨n_md, hfr⟩ := hpost
            have h_md := n_md
            have hF := hF.step hfr (fun q h => by (try dsimp only at h ⊢); omega)
            refine lv_aload_n hx hb dX8_lend_66 rfl (lv_at hl 1 rfl) ?_
            refine x_get S hK h_md 0 (by decide) rfl rfl rfl in8 0 (by decide) (xm 2 rfl) (x := .ref (o + 1)) rfl dX8_lend_67 ?_
            refine lv_bipush (v := 40) hx hb dX8_lend_70 (by decide) ?_
            refine lv_iconst (v := 2) hx hb dX8_lend_72 (by decide) ?_
            refine lv_iload_n hx hb dX8_lend_73 rfl (lv_at hl 2 rfl) ?_
            refine lv_imul hx hb dX8_lend_74 ?_
            refine lv_iadd hx hb dX8_lend_75 ?_
            refine lv_iload_n hx hb dX8_lend_76 rfl (lv_at hl 3 rfl) ?_
            obtain ⟨g_17, hf⟩ := xg_some hf
            obtain ⟨M_18, eM_18, hf⟩ := xl_some hf
            refine x_iast S hK h_md hz_md hL 1 (by decide) rfl rfl (40 + (2 * p1)).toNatClampNeg rfl g_17 rfl eM_18 dX8_lend_77 (fun H1 locs hL h_md hfr => ?_)
            have hF := hF.step hfr (fun q h => by (try dsimp only at h ⊢); omega)
            refine lv_aload_n hx hb dX8_lend_78 rfl (lv_at hl 1 rfl) ?_
            refine x_get S hK h_md 0 (by decide) rfl rfl rfl in8 0 (by decide) (xm 2 rfl) (x := .ref (o + 1)) rfl dX8_lend_79 ?_
            refine lv_bipush (v := 40) hx hb dX8_lend_82 (by decide) ?_
            refine lv_iconst (v := 2) hx hb dX8_lend_84 (by decide) ?_
            refine lv_iload_n hx hb dX8_lend_85 rfl (lv_at hl 2 rfl) ?_
            refine lv_imul hx hb dX8_lend_86 ?_
            refine lv_iadd hx hb dX8_lend_87 ?_
            refine lv_iconst (v := 1) hx hb dX8_lend_88 (by decide) ?_
            refine lv_iadd hx hb dX8_lend_89 ?_
            refine lv_aload_n hx hb dX8_lend_90 rfl (lv_at hl 1 rfl) ?_
            refine lv_bipush (v := 20) hx hb dX8_lend_91 (by decide) ?_
            refine lv_iload_n hx hb dX8_lend_93 rfl (lv_at hl 3 rfl) ?_
            refine lv_imul hx hb dX8_lend_94 ?_
            refine lv_iload_n hx hb dX8_lend_95 rfl (lv_at hl 0 rfl) ?_
            refine lv_iadd hx hb dX8_lend_96 ?_
            obtain ⟨r_19, e_20, hf⟩ := xb_some hf
            refine x_callVi (As := [.int ((20 * p2) + r_7)]) (rest := [.int ((40 + (2 * p1)) + 1), .ref (o + 1)]) S hK (c_X8_dayOf l G z o M_18 ((20 * p2) + r_7) r_19 e_20) gX8_lend_X8_dayOf rfl 1 (by decide +kernel) rfl ⟨Nat.le_of_ble_eq_true rfl, Nat.le_of_ble_eq_true rfl⟩ h_md 0 (by decide) rfl rfl rfl h_md hl.1 rfl (Nat.le_of_ble_eq_true rfl) dX8_lend_97 hL ⟨Nat.zero_le _, Nat.zero_le _⟩ (fun H1 locs hL hpost => ?_)
            subst hpost
            refine lv_aload_n hx hb dX8_lend_100 rfl (lv_at hl 1 rfl) ?_
            refine x_get S hK h_md 0 (by decide) rfl rfl rfl in8 0 (by decide) (xm 2 rfl) (x := .ref (o + 1)) rfl dX8_lend_101 ?_
            refine lv_bipush (v := 8) hx hb dX8_lend_104 (by decide) ?_
            refine x_iald S hK h_md 1 (by decide) rfl rfl 8 (by decide) (by decide) dX8_lend_106 ?_
            refine lv_iadd hx hb dX8_lend_107 ?_
            obtain ⟨g_21, hf⟩ := xg_some hf
            obtain ⟨M_22, eM_22, hf⟩ := xl_some hf
            refine x_iast S hK h_md hz_md hL 1 (by decide) rfl rfl ((40 + (2 * p1)) + 1).toNatClampNeg rfl g_21 rfl eM_22 dX8_lend_108 (fun H1 locs hL h_md hfr => ?_)
            have hF := hF.step hfr (fun q h => by (try dsimp only at h ⊢); omega)
            refine lv_aload_n hx hb dX8_lend_109 rfl (lv_at hl 1 rfl) ?_
            refine x_get S hK h_md 0 (by decide) rfl rfl rfl in8 0 (by decide) (xm 2 rfl) (x := .ref (o + 1)) rfl dX8_lend_110 ?_
            refine lv_bipush (v := 40) hx hb dX8_lend_113 (by decide) ?_
            refine lv_iconst (v := 2) hx hb dX8_lend_115 (by decide) ?_
            refine lv_iload_n hx hb dX8_lend_116 rfl (lv_at hl 2 rfl) ?_
            refine lv_imul hx hb dX8_lend_117 ?_
            refine lv_iadd hx hb dX8_lend_118 ?_
            refine lv_iconst (v := 1) hx hb dX8_lend_119 (by decide) ?_
            refine lv_iadd hx hb dX8_lend_120 ?_
            obtain ⟨g_23, hf⟩ := xg_some hf
            refine x_iald S hK h_md 1 (by decide) rfl rfl ((40 + (2 * p1)) + 1).toNatClampNeg rfl g_23 dX8_lend_121 ?_
            obtain ⟨q0, qq0⟩ := Prod.mk.inj (Option.some.inj hf)
            have q1 := qq0
            subst r0
            subst M'
            subst hQ
            refine x_iret (post := (fun H H1 => PX G o 5 (mdE G o) M_22 H1 ∧ XF (fun q => (o ≤ q ∧ q < o + 5)) H H1)) S hr hlocks rfl ?_ hL dX8_lend_122
            exact ⟨h_md, hF⟩
          · have hf := (if_pos c_14).symm.trans hf
            refine lv_ldc (v := (-2000000002)) hx hb hown (hts _ (xm 3 rfl)) dX8_lend_59 ?_
            obtain ⟨q0, qq0⟩ := Prod.mk.inj (Option.some.inj hf)
            have q1 := qq0
            subst r0
            subst M'
            subst hQ
            refine x_iret (post := (fun H H1 => PX G o 5 (mdE G o) M H1 ∧ XF (fun q => (o ≤ q ∧ q < o + 5)) H H1)) S hr hlocks rfl ?_ hL dX8_lend_61
            exact ⟨h_md, hF⟩
    · have hf := (if_pos c_6).symm.trans hf
      refine lv_ldc (v := (-2000000001)) hx hb hown (hts _ (xm 1 rfl)) dX8_lend_15 ?_
      obtain ⟨q0, qq0⟩ := Prod.mk.inj (Option.some.inj hf)
      have q1 := qq0
      subst r0
      subst M'
      subst hQ
      refine x_iret (post := (fun H H1 => PX G o 5 (mdE G o) M H1 ∧ XF (fun q => (o ≤ q ∧ q < o + 5)) H H1)) S hr hlocks rfl ?_ hL dX8_lend_17
      exact ⟨h_md, hF⟩
set_option maxRecDepth 100000 in
set_option maxHeartbeats 4000000 in
theorem c_X8_mostOf (l : Launch) (G : xG) (z : Nat) (p1 : Int32) (r0 : Int32)  (hf : f_X8_mostOf p1 = some r0) : xM l yX8_mostOf wsX8_mostOf 0 0 G z [.int p1] (fun H => H = H) (some (.int r0)) (fun H H1 => H1 = H) := by
  refine xM.of (cc := cX8_mostOf) (maxL := 1) (ret := (some .int)) (by decide +kernel) rfl (Nat.le_of_ble_eq_true rfl) ?_
  intro p e s m args below meth c ls Q hQ S hr hlocks hK hP hl
  obtain ⟨hx, hb, hml, hown, hts⟩ := id S
  have hL : ∀ q ∈ ([] : List Loc), z ≤ q.base := fun q h => absurd h List.not_mem_nil
  have hl : lv_has ls 1 [(0, .int p1)] := hl
  unfold f_X8_mostOf at hf
  refine lv_iload_n hx hb dX8_mostOf_0 rfl (lv_at hl 0 rfl) ?_
  by_cases c_1 : p1 = 3
  · have hf := (if_pos c_1).symm.trans hf
    refine x_tin (tgt := 36) (off := 35) S 3 c_1 dX8_mostOf_1 (by decide) (by decide) (by decide) (by decide) ?_
    refine lv_bipush (v := 100) hx hb dX8_mostOf_36 (by decide) ?_
    have q0 := Option.some.inj hf
    subst r0
    subst hQ
    refine x_iret (post := (fun H H1 => H1 = H)) S hr hlocks rfl ?_ hL dX8_mostOf_38
    exact rfl
  have hf := (if_neg c_1).symm.trans hf
  by_cases c_2 : p1 = 4
  · have hf := (if_pos c_2).symm.trans hf
    refine x_tin (tgt := 39) (off := 38) S 4 c_2 dX8_mostOf_1 (by decide) (by decide) (by decide) (by decide) ?_
    refine lv_iconst (v := 3) hx hb dX8_mostOf_39 (by decide) ?_
    have q0 := Option.some.inj hf
    subst r0
    subst hQ
    refine x_iret (post := (fun H H1 => H1 = H)) S hr hlocks rfl ?_ hL dX8_mostOf_40
    exact rfl
  have hf := (if_neg c_2).symm.trans hf
  by_cases c_3 : p1 = 5
  · have hf := (if_pos c_3).symm.trans hf
    refine x_tin (tgt := 41) (off := 40) S 5 c_3 dX8_mostOf_1 (by decide) (by decide) (by decide) (by decide) ?_
    refine lv_ldc (v := 50000) hx hb hown (hts _ (xm 1 rfl)) dX8_mostOf_41 ?_
    have q0 := Option.some.inj hf
    subst r0
    subst hQ
    refine x_iret (post := (fun H H1 => H1 = H)) S hr hlocks rfl ?_ hL dX8_mostOf_43
    exact rfl
  have hf := (if_neg c_3).symm.trans hf
  by_cases c_4 : p1 = 6
  · have hf := (if_pos c_4).symm.trans hf
    refine x_tin (tgt := 47) (off := 46) S 6 c_4 dX8_mostOf_1 (by decide) (by decide) (by decide) (by decide) ?_
    refine lv_sipush (v := 5000) hx hb dX8_mostOf_47 (by decide) ?_
    have q0 := Option.some.inj hf
    subst r0
    subst hQ
    refine x_iret (post := (fun H H1 => H1 = H)) S hr hlocks rfl ?_ hL dX8_mostOf_50
    exact rfl
  have hf := (if_neg c_4).symm.trans hf
  by_cases c_5 : p1 = 7
  · have hf := (if_pos c_5).symm.trans hf
    refine x_tin (tgt := 44) (off := 43) S 7 c_5 dX8_mostOf_1 (by decide) (by decide) (by decide) (by decide) ?_
    refine lv_bipush (v := 30) hx hb dX8_mostOf_44 (by decide) ?_
    have q0 := Option.some.inj hf
    subst r0
    subst hQ
    refine x_iret (post := (fun H H1 => H1 = H)) S hr hlocks rfl ?_ hL dX8_mostOf_46
    exact rfl
  have hf := (if_neg c_5).symm.trans hf
  have tc_1 : p1.toInt ≠ 3 := fun h9 => c_1 (xti (h9.trans (by decide)))
  have tc_2 : p1.toInt ≠ 4 := fun h9 => c_2 (xti (h9.trans (by decide)))
  have tc_3 : p1.toInt ≠ 5 := fun h9 => c_3 (xti (h9.trans (by decide)))
  have tc_4 : p1.toInt ≠ 6 := fun h9 => c_4 (xti (h9.trans (by decide)))
  have tc_5 : p1.toInt ≠ 7 := fun h9 => c_5 (xti (h9.trans (by decide)))
  refine lv_tableOut (tgt := 47) hx hb dX8_mostOf_1 (by omega) (by decide) ?_
  refine lv_sipush (v := 5000) hx hb dX8_mostOf_47 (by decide) ?_
  have q0 := Option.some.inj hf
  subst r0
  subst hQ
  refine x_iret (post := (fun H H1 => H1 = H)) S hr hlocks rfl ?_ hL dX8_mostOf_50
  exact rfl
set_option maxRecDepth 100000 in
set_option maxHeartbeats 4000000 in
theorem c_X8_takes (l : Launch) (G : xG) (z : Nat) (o : Nat) (M : xV) (p1 : Int32) (p2 : Int32) (p3 : Int32) (r0 : Int32) (M' : xV) (hz_md : z ≤ o) (hf : f_X8_takes M p1 p2 p3 = some (r0, M')) : xM l yX8_takes wsX8_takes 2 43 G z [.ref o, .int p1, .int p2, .int p3] (fun H => PX G o 5 (mdE G o) M H) (some (.int r0)) (fun H H1 => PX G o 5 (mdE G o) M' H1 ∧ XF (fun q => (o ≤ q ∧ q < o + 5)) H H1) := by
  refine xM.of (cc := cX8_takes) (maxL := 5) (ret := (some .int)) (by decide +kernel) rfl (Nat.le_of_ble_eq_true rfl) ?_
  intro p e s m args below meth c ls Q hQ S hr hlocks hK hP hl
  obtain ⟨hx, hb, hml, hown, hts⟩ := id S
  have h_md := hP
  have hL : ∀ q ∈ ([] : List Loc), z ≤ q.base := fun q h => absurd h List.not_mem_nil
  have hF : XF (fun q => (o ≤ q ∧ q < o + 5)) s.heap s.heap := XF.rf
  have hl : lv_has ls 5 [(0, .ref o), (1, .int p1), (2, .int p2), (3, .int p3)] := hl
  have in8 : ∀ w ∈ u_ws RX8 TX8 18, w ∈ wsX8_takes := fun _ h => List.mem_cons_of_mem _ (List.mem_append_right _ h)
  unfold f_X8_takes at hf
  refine lv_iload_n hx hb dX8_takes_0 rfl (lv_at hl 2 rfl) ?_
  refine lv_aload_n hx hb dX8_takes_1 rfl (lv_at hl 0 rfl) ?_
  refine lv_iload_n hx hb dX8_takes_2 rfl (lv_at hl 1 rfl) ?_
  refine lv_bipush (v := 9) hx hb dX8_takes_3 (by decide) ?_
  obtain ⟨r_1, e_2, hf⟩ := xb_some hf
  refine x_callVi (As := [.int p1, .int 9]) (rest := [.int p2]) S hK (c_X8_of l G z o M p1 9 r_1 e_2) gX8_takes_X8_of rfl 2 (by decide +kernel) rfl ⟨Nat.le_of_ble_eq_true rfl, Nat.le_of_ble_eq_true rfl⟩ h_md 0 (by decide) rfl rfl rfl h_md hl.1 rfl (Nat.le_of_ble_eq_true rfl) dX8_takes_5 hL ⟨Nat.zero_le _, Nat.zero_le _⟩ (fun H1 locs hL hpost => ?_)
  subst hpost
  refine lv_icmp_ge (tgt := 15) hx hb dX8_takes_8 (by decide) (fun c_3 => ?_) (fun c_3 => ?_)
  · have hf := (if_pos c_3).symm.trans hf
    refine lv_aload_n hx hb dX8_takes_15 rfl (lv_at hl 0 rfl) ?_
    refine lv_iload_n hx hb dX8_takes_16 rfl (lv_at hl 1 rfl) ?_
    refine lv_bipush (v := 9) hx hb dX8_takes_17 (by decide) ?_
    obtain ⟨r_4, e_5, hf⟩ := xb_some hf
    refine x_callVi (As := [.int p1, .int 9]) (rest := []) S hK (c_X8_of l G z o M p1 9 r_4 e_5) gX8_takes_X8_of rfl 2 (by decide +kernel) rfl ⟨Nat.le_of_ble_eq_true rfl, Nat.le_of_ble_eq_true rfl⟩ h_md 0 (by decide) rfl rfl rfl h_md hl.1 rfl (Nat.le_of_ble_eq_true rfl) dX8_takes_19 hL ⟨Nat.zero_le _, Nat.zero_le _⟩ (fun H1 locs hL hpost => ?_)
    subst hpost
    refine lv_istore (lv' := [(4, .int r_4), (0, .ref o), (1, .int p1), (2, .int p2), (3, .int p3)]) hx hb dX8_takes_22 hl (by decide) rfl (fun ls hl => ?_)
    refine lv_aload_n hx hb dX8_takes_24 rfl (lv_at hl 1 rfl) ?_
    refine x_get S hK h_md 0 (by decide) rfl rfl rfl in8 0 (by decide) (xm 1 rfl) (x := .ref (o + 1)) rfl dX8_takes_25 ?_
    refine lv_iload_n hx hb dX8_takes_28 rfl (lv_at hl 2 rfl) ?_
    refine lv_bipush (v := 9) hx hb dX8_takes_29 (by decide) ?_
    obtain ⟨r_6, e_7, hf⟩ := xb_some hf
    refine x_callTi (As := [.int p1, .int 9]) (rest := [.ref (o + 1)]) S hK (c_X8_at l G z p1 9 r_6 e_7) gX8_takes_X8_at rfl 2 (by decide +kernel) rfl ⟨Nat.le_of_ble_eq_true rfl, Nat.le_of_ble_eq_true rfl⟩ rfl hl.1 rfl (Nat.le_of_ble_eq_true rfl) dX8_takes_31 hL ⟨Nat.zero_le _, Nat.zero_le _⟩ (fun H1 locs hL hpost => ?_)
    subst hpost
    refine lv_dup2_11 hx hb dX8_takes_34 rfl rfl ?_
    obtain ⟨g_8, hf⟩ := xg_some hf
    refine x_iald S hK h_md 1 (by decide) rfl rfl r_6.toNatClampNeg rfl g_8 dX8_takes_35 ?_
    refine lv_iload hx hb dX8_takes_36 (lv_at hl 0 rfl) ?_
    refine lv_isub hx hb dX8_takes_38 ?_
    obtain ⟨g_9, hf⟩ := xg_some hf
    obtain ⟨M_10, eM_10, hf⟩ := xl_some hf
    refine x_iast S hK h_md hz_md hL 1 (by decide) rfl rfl r_6.toNatClampNeg rfl g_9 rfl eM_10 dX8_takes_39 (fun H1 locs hL h_md hfr => ?_)
    have hF := hF.step hfr (fun q h => by (try dsimp only at h ⊢); omega)
    refine lv_aload_n hx hb dX8_takes_40 rfl (lv_at hl 1 rfl) ?_
    refine x_get S hK h_md 0 (by decide) rfl rfl rfl in8 0 (by decide) (xm 1 rfl) (x := .ref (o + 1)) rfl dX8_takes_41 ?_
    refine lv_bipush (v := 14) hx hb dX8_takes_44 (by decide) ?_
    refine lv_dup2_11 hx hb dX8_takes_46 rfl rfl ?_
    refine x_iald S hK h_md 1 (by decide) rfl rfl 14 (by decide) (by decide) dX8_takes_47 ?_
    refine lv_iload hx hb dX8_takes_48 (lv_at hl 0 rfl) ?_
    refine lv_isub hx hb dX8_takes_50 ?_
    obtain ⟨M_11, eM_11, hf⟩ := xl_some hf
    refine x_iast S hK h_md hz_md hL 1 (by decide) rfl rfl 14 (by decide) (by decide) rfl eM_11 dX8_takes_51 (fun H1 locs hL h_md hfr => ?_)
    have hF := hF.step hfr (fun q h => by (try dsimp only at h ⊢); omega)
    refine lv_aload_n hx hb dX8_takes_52 rfl (lv_at hl 1 rfl) ?_
    refine x_get S hK h_md 0 (by decide) rfl rfl rfl in8 0 (by decide) (xm 1 rfl) (x := .ref (o + 1)) rfl dX8_takes_53 ?_
    refine lv_bipush (v := 11) hx hb dX8_takes_56 (by decide) ?_
    refine lv_iload_n hx hb dX8_takes_58 rfl (lv_at hl 4 rfl) ?_
    refine lv_iadd hx hb dX8_takes_59 ?_
    refine lv_dup2_11 hx hb dX8_takes_60 rfl rfl ?_
    obtain ⟨g_12, hf⟩ := xg_some hf
    refine x_iald S hK h_md 1 (by decide) rfl rfl (11 + p3).toNatClampNeg rfl g_12 dX8_takes_61 ?_
    refine lv_iload hx hb dX8_takes_62 (lv_at hl 0 rfl) ?_
    refine lv_iadd hx hb dX8_takes_64 ?_
    obtain ⟨g_13, hf⟩ := xg_some hf
    obtain ⟨M_14, eM_14, hf⟩ := xl_some hf
    refine x_iast S hK h_md hz_md hL 1 (by decide) rfl rfl (11 + p3).toNatClampNeg rfl g_13 rfl eM_14 dX8_takes_65 (fun H1 locs hL h_md hfr => ?_)
    have hF := hF.step hfr (fun q h => by (try dsimp only at h ⊢); omega)
    refine lv_aload_n hx hb dX8_takes_66 rfl (lv_at hl 1 rfl) ?_
    refine x_get S hK h_md 0 (by decide) rfl rfl rfl in8 0 (by decide) (xm 1 rfl) (x := .ref (o + 1)) rfl dX8_takes_67 ?_
    refine lv_bipush (v := 18) hx hb dX8_takes_70 (by decide) ?_
    refine lv_dup2_11 hx hb dX8_takes_72 rfl rfl ?_
    refine x_iald S hK h_md 1 (by decide) rfl rfl 18 (by decide) (by decide) dX8_takes_73 ?_
    refine lv_iload_n hx hb dX8_takes_74 rfl (lv_at hl 3 rfl) ?_
    refine lv_iload hx hb dX8_takes_75 (lv_at hl 0 rfl) ?_
    refine lv_isub hx hb dX8_takes_77 ?_
    refine lv_iadd hx hb dX8_takes_78 ?_
    obtain ⟨M_15, eM_15, hf⟩ := xl_some hf
    refine x_iast S hK h_md hz_md hL 1 (by decide) rfl rfl 18 (by decide) (by decide) rfl eM_15 dX8_takes_79 (fun H1 locs hL h_md hfr => ?_)
    have hF := hF.step hfr (fun q h => by (try dsimp only at h ⊢); omega)
    refine lv_aload_n hx hb dX8_takes_80 rfl (lv_at hl 1 rfl) ?_
    refine lv_aload_n hx hb dX8_takes_81 rfl (lv_at hl 1 rfl) ?_
    refine lv_iload_n hx hb dX8_takes_82 rfl (lv_at hl 2 rfl) ?_
    refine lv_iconst (v := 0) hx hb dX8_takes_83 (by decide) ?_
    obtain ⟨r_16, e_17, hf⟩ := xb_some hf
    refine x_callVi (As := [.int p1, .int 0]) (rest := [.ref o]) S hK (c_X8_of l G z o M_15 p1 0 r_16 e_17) gX8_takes_X8_of rfl 2 (by decide +kernel) rfl ⟨Nat.le_of_ble_eq_true rfl, Nat.le_of_ble_eq_true rfl⟩ h_md 0 (by decide) rfl rfl rfl h_md hl.1 rfl (Nat.le_of_ble_eq_true rfl) dX8_takes_84 hL ⟨Nat.zero_le _, Nat.zero_le _⟩ (fun H1 locs hL hpost => ?_)
    subst hpost
    refine lv_iload_n hx hb dX8_takes_87 rfl (lv_at hl 3 rfl) ?_
    refine lv_iload hx hb dX8_takes_88 (lv_at hl 0 rfl) ?_
    refine lv_isub hx hb dX8_takes_90 ?_
    obtain ⟨M_18, e_19, hf⟩ := xb_some hf
    refine x_callVv (As := [.int r_16, .int (p2 - r_4)]) (rest := []) S hK (c_X8_charges l G z o M_15 r_16 (p2 - r_4) M_18 (by omega) e_19) gX8_takes_X8_charges rfl 2 (by decide +kernel) rfl ⟨Nat.le_of_ble_eq_true rfl, Nat.le_of_ble_eq_true rfl⟩ h_md 0 (by decide) rfl rfl rfl h_md hl.1 rfl (Nat.le_of_ble_eq_true rfl) dX8_takes_91 hL ⟨Nat.zero_le _, Nat.zero_le _⟩ (fun H1 locs hL hpost => ?_)
    obtain ⟨n_md, hfr⟩ := hpost
    have h_md := n_md
    have hF := hF.step hfr (fun q h => by (try dsimp only at h ⊢); omega)
    refine lv_iload hx hb dX8_takes_94 (lv_at hl 0 rfl) ?_
    obtain ⟨q0, qq0⟩ := Prod.mk.inj (Option.some.inj hf)
    have q1 := qq0
    subst r0
    subst M'
    subst hQ
    refine x_iret (post := (fun H H1 => PX G o 5 (mdE G o) M_18 H1 ∧ XF (fun q => (o ≤ q ∧ q < o + 5)) H H1)) S hr hlocks rfl ?_ hL dX8_takes_96
    exact ⟨h_md, hF⟩
  · have hf := (if_neg c_3).symm.trans hf
    refine lv_iload_n hx hb dX8_takes_11 rfl (lv_at hl 2 rfl) ?_
    refine lv_goto (tgt := 22) hx hb dX8_takes_12 (by decide) ?_
    refine lv_istore (lv' := [(4, .int p2), (0, .ref o), (1, .int p1), (2, .int p2), (3, .int p3)]) hx hb dX8_takes_22 hl (by decide) rfl (fun ls hl => ?_)
    refine lv_aload_n hx hb dX8_takes_24 rfl (lv_at hl 1 rfl) ?_
    refine x_get S hK h_md 0 (by decide) rfl rfl rfl in8 0 (by decide) (xm 1 rfl) (x := .ref (o + 1)) rfl dX8_takes_25 ?_
    refine lv_iload_n hx hb dX8_takes_28 rfl (lv_at hl 2 rfl) ?_
    refine lv_bipush (v := 9) hx hb dX8_takes_29 (by decide) ?_
    obtain ⟨r_20, e_21, hf⟩ := xb_some hf
    refine x_callTi (As := [.int p1, .int 9]) (rest := [.ref (o + 1)]) S hK (c_X8_at l G z p1 9 r_20 e_21) gX8_takes_X8_at rfl 2 (by decide +kernel) rfl ⟨Nat.le_of_ble_eq_true rfl, Nat.le_of_ble_eq_true rfl⟩ rfl hl.1 rfl (Nat.le_of_ble_eq_true rfl) dX8_takes_31 hL ⟨Nat.zero_le _, Nat.zero_le _⟩ (fun H1 locs hL hpost => ?_)
    subst hpost
    refine lv_dup2_11 hx hb dX8_takes_34 rfl rfl ?_
    obtain ⟨g_22, hf⟩ := xg_some hf
    refine x_iald S hK h_md 1 (by decide) rfl rfl r_20.toNatClampNeg rfl g_22 dX8_takes_35 ?_
    refine lv_iload hx hb dX8_takes_36 (lv_at hl 0 rfl) ?_
    refine lv_isub hx hb dX8_takes_38 ?_
    obtain ⟨g_23, hf⟩ := xg_some hf
    obtain ⟨M_24, eM_24, hf⟩ := xl_some hf
    refine x_iast S hK h_md hz_md hL 1 (by decide) rfl rfl r_20.toNatClampNeg rfl g_23 rfl eM_24 dX8_takes_39 (fun H1 locs hL h_md hfr => ?_)
    have hF := hF.step hfr (fun q h => by (try dsimp only at h ⊢); omega)
    refine lv_aload_n hx hb dX8_takes_40 rfl (lv_at hl 1 rfl) ?_
    refine x_get S hK h_md 0 (by decide) rfl rfl rfl in8 0 (by decide) (xm 1 rfl) (x := .ref (o + 1)) rfl dX8_takes_41 ?_
    refine lv_bipush (v := 14) hx hb dX8_takes_44 (by decide) ?_
    refine lv_dup2_11 hx hb dX8_takes_46 rfl rfl ?_
    refine x_iald S hK h_md 1 (by decide) rfl rfl 14 (by decide) (by decide) dX8_takes_47 ?_
    refine lv_iload hx hb dX8_takes_48 (lv_at hl 0 rfl) ?_
    refine lv_isub hx hb dX8_takes_50 ?_
    obtain ⟨M_25, eM_25, hf⟩ := xl_some hf
    refine x_iast S hK h_md hz_md hL 1 (by decide) rfl rfl 14 (by decide) (by decide) rfl eM_25 dX8_takes_51 (fun H1 locs hL h_md hfr => ?_)
    have hF := hF.step hfr (fun q h => by (try dsimp only at h ⊢); omega)
    refine lv_aload_n hx hb dX8_takes_52 rfl (lv_at hl 1 rfl) ?_
    refine x_get S hK h_md 0 (by decide) rfl rfl rfl in8 0 (by decide) (xm 1 rfl) (x := .ref (o + 1)) rfl dX8_takes_53 ?_
    refine lv_bipush (v := 11) hx hb dX8_takes_56 (by decide) ?_
    refine lv_iload_n hx hb dX8_takes_58 rfl (lv_at hl 4 rfl) ?_
    refine lv_iadd hx hb dX8_takes_59 ?_
    refine lv_dup2_11 hx hb dX8_takes_60 rfl rfl ?_
    obtain ⟨g_26, hf⟩ := xg_some hf
    refine x_iald S hK h_md 1 (by decide) rfl rfl (11 + p3).toNatClampNeg rfl g_26 dX8_takes_61 ?_
    refine lv_iload hx hb dX8_takes_62 (lv_at hl 0 rfl) ?_
    refine lv_iadd hx hb dX8_takes_64 ?_
    obtain ⟨g_27, hf⟩ := xg_some hf
    obtain ⟨M_28, eM_28, hf⟩ := xl_some hf
    refine x_iast S hK h_md hz_md hL 1 (by decide) rfl rfl (11 + p3).toNatClampNeg rfl g_27 rfl eM_28 dX8_takes_65 (fun H1 locs hL h_md hfr => ?_)
    have hF := hF.step hfr (fun q h => by (try dsimp only at h ⊢); omega)
    refine lv_aload_n hx hb dX8_takes_66 rfl (lv_at hl 1 rfl) ?_
    refine x_get S hK h_md 0 (by decide) rfl rfl rfl in8 0 (by decide) (xm 1 rfl) (x := .ref (o + 1)) rfl dX8_takes_67 ?_
    refine lv_bipush (v := 18) hx hb dX8_takes_70 (by decide) ?_
    refine lv_dup2_11 hx hb dX8_takes_72 rfl rfl ?_
    refine x_iald S hK h_md 1 (by decide) rfl rfl 18 (by decide) (by decide) dX8_takes_73 ?_
    refine lv_iload_n hx hb dX8_takes_74 rfl (lv_at hl 3 rfl) ?_
    refine lv_iload hx hb dX8_takes_75 (lv_at hl 0 rfl) ?_
    refine lv_isub hx hb dX8_takes_77 ?_
    refine lv_iadd hx hb dX8_takes_78 ?_
    obtain ⟨M_29, eM_29, hf⟩ := xl_some hf
    refine x_iast S hK h_md hz_md hL 1 (by decide) rfl rfl 18 (by decide) (by decide) rfl eM_29 dX8_takes_79 (fun H1 locs hL h_md hfr => ?_)
    have hF := hF.step hfr (fun q h => by (try dsimp only at h ⊢); omega)
    refine lv_aload_n hx hb dX8_takes_80 rfl (lv_at hl 1 rfl) ?_
    refine lv_aload_n hx hb dX8_takes_81 rfl (lv_at hl 1 rfl) ?_
    refine lv_iload_n hx hb dX8_takes_82 rfl (lv_at hl 2 rfl) ?_
    refine lv_iconst (v := 0) hx hb dX8_takes_83 (by decide) ?_
    obtain ⟨r_30, e_31, hf⟩ := xb_some hf
    refine x_callVi (As := [.int p1, .int 0]) (rest := [.ref o]) S hK (c_X8_of l G z o M_29 p1 0 r_30 e_31) gX8_takes_X8_of rfl 2 (by decide +kernel) rfl ⟨Nat.le_of_ble_eq_true rfl, Nat.le_of_ble_eq_true rfl⟩ h_md 0 (by decide) rfl rfl rfl h_md hl.1 rfl (Nat.le_of_ble_eq_true rfl) dX8_takes_84 hL ⟨Nat.zero_le _, Nat.zero_le _⟩ (fun H1 locs hL hpost => ?_)
    subst hpost
    refine lv_iload_n hx hb dX8_takes_87 rfl (lv_at hl 3 rfl) ?_
    refine lv_iload hx hb dX8_takes_88 (lv_at hl 0 rfl) ?_
    refine lv_isub hx hb dX8_takes_90 ?_
    obtain ⟨M_32, e_33, hf⟩ := xb_some hf
    refine x_callVv (As := [.int r_30, .int (p2 - p2)]) (rest := []) S hK (c_X8_charges l G z o M_29 r_30 (p2 - p2) M_32 (by omega) e_33) gX8_takes_X8_charges rfl 2 (by decide +kernel) rfl ⟨Nat.le_of_ble_eq_true rfl, Nat.le_of_ble_eq_true rfl⟩ h_md 0 (by decide) rfl rfl rfl h_md hl.1 rfl (Nat.le_of_ble_eq_true rfl) dX8_takes_91 hL ⟨Nat.zero_le _, Nat.zero_le _⟩ (fun H1 locs hL hpost => ?_)
    obtain ⟨n_md, hfr⟩ := hpost
    have h_md := n_md
    have hF := hF.step hfr (fun q h => by (try dsimp only at h ⊢); omega)
    refine lv_iload hx hb dX8_takes_94 (lv_at hl 0 rfl) ?_
    obtain ⟨q0, qq0⟩ := Prod.mk.inj (Option.some.inj hf)
    have q1 := qq0
    subst r0
    subst M'
    subst hQ
    refine x_iret (post := (fun H H1 => PX G o 5 (mdE G o) M_32 H1 ∧ XF (fun q => (o ≤ q ∧ q < o + 5)) H H1)) S hr hlocks rfl ?_ hL dX8_takes_96
    exact ⟨h_md, hF⟩
