/-! ===== the methods, walked (written by program) ===== -/
set_option maxRecDepth 100000 in
set_option maxHeartbeats 4000000 in
theorem c_X8_pass (l : Launch) (G : xG) (z : Nat) (o : Nat) (M : xV) (p1 : Int32) (r0 : Int32) (M' : xV) (hz_md : z ≤ o) (hf : f_X8_pass M p1 = some (r0, M')) : xM l yX8_pass wsX8_pass 4 89 G z [.ref o, .int p1] (fun H => PX G o 5 (mdE G o) M H) (some (.int r0)) (fun H H1 => PX G o 5 (mdE G o) M' H1 ∧ XF (fun q => (o ≤ q ∧ q < o + 5)) H H1) := by
  refine xM.of (cc := cX8_pass) (maxL := 6) (ret := (some .int)) (by decide +kernel) rfl (Nat.le_of_ble_eq_true rfl) ?_
  intro p e s m args below meth c ls Q hQ S hr hlocks hK hP hl
  obtain ⟨hx, hb, hml, hown, hts⟩ := id S
  have h_md := hP
  have hL : ∀ q ∈ ([] : List Loc), z ≤ q.base := fun q h => absurd h List.not_mem_nil
  have hF : XF (fun q => (o ≤ q ∧ q < o + 5)) s.heap s.heap := XF.rf
  have hl : lv_has ls 6 [(0, .ref o), (1, .int p1)] := hl
  have in8 : ∀ w ∈ u_ws RX8 TX8 18, w ∈ wsX8_pass := fun _ h => List.mem_cons_of_mem _ (List.mem_append_right _ h)
  unfold f_X8_pass at hf
  refine lv_iload_n hx hb dX8_pass_0 rfl (lv_at hl 1 rfl) ?_
  refine lv_i2l (v := p1.toInt64) hx hb dX8_pass_1 rfl ?_
  refine lv_lconst (v := 1) hx hb dX8_pass_2 (by decide) ?_
  refine lv_ldc2 (v := 60) hx hb hown (hts _ (xm 1 rfl)) dX8_pass_3 ?_
  obtain ⟨r_1, e_2, hf⟩ := xb_some hf
  refine x_callTi (As := [.long (p1.toInt64), .long 1, .long 60]) (rest := []) S hK (c_X8_in l G z (p1.toInt64) 1 60 r_1 e_2) gX8_pass_X8_in rfl 3 (by decide +kernel) rfl ⟨Nat.le_of_ble_eq_true rfl, Nat.le_of_ble_eq_true rfl⟩ rfl hl.1 rfl (Nat.le_of_ble_eq_true rfl) dX8_pass_6 hL ⟨Nat.zero_le _, Nat.zero_le _⟩ (fun H1 locs hL hpost => ?_)
  subst hpost
  refine lv_if_ne (tgt := 15) hx hb dX8_pass_9 (by decide) (fun c_3 => ?_) (fun c_3 => ?_)
  · have hf := (if_neg c_3).symm.trans hf
    refine lv_aload_n hx hb dX8_pass_15 rfl (lv_at hl 0 rfl) ?_
    refine x_get S hK h_md 0 (by decide) rfl rfl rfl in8 0 (by decide) (xm 3 rfl) (x := .ref (o + 1)) rfl dX8_pass_16 ?_
    refine lv_iconst (v := 0) hx hb dX8_pass_19 (by decide) ?_
    refine x_iald S hK h_md 1 (by decide) rfl rfl 0 (by decide) (by decide) dX8_pass_20 ?_
    refine lv_iload_n hx hb dX8_pass_21 rfl (lv_at hl 1 rfl) ?_
    refine lv_iadd hx hb dX8_pass_22 ?_
    refine lv_sipush (v := 400) hx hb dX8_pass_23 (by decide) ?_
    refine lv_icmp_le (tgt := 32) hx hb dX8_pass_26 (by decide) (fun c_4 => ?_) (fun c_4 => ?_)
    · have hf := (if_pos c_4).symm.trans hf
      refine lv_aload_n hx hb dX8_pass_32 rfl (lv_at hl 0 rfl) ?_
      obtain ⟨M_5, e_6, hf⟩ := xb_some hf
      refine x_callVv (As := []) (rest := []) S hK (c_X8_save l G z o M M_5 (by omega) e_6) gX8_pass_X8_save rfl 0 (by decide +kernel) rfl ⟨Nat.le_of_ble_eq_true rfl, Nat.le_of_ble_eq_true rfl⟩ h_md 0 (by decide) rfl rfl rfl h_md hl.1 rfl (Nat.le_of_ble_eq_true rfl) dX8_pass_33 hL ⟨Nat.zero_le _, Nat.zero_le _⟩ (fun H1 locs hL hpost => ?_)
      obtain ⟨n_md, hfr⟩ := hpost
      have h_md := n_md
      have hF := hF.step hfr (fun q h => by (try dsimp only at h ⊢); omega)
      refine lv_iconst (v := 0) hx hb dX8_pass_36 (by decide) ?_
      refine lv_istore_n (lv' := [(2, .int 0), (0, .ref o), (1, .int p1)]) hx hb dX8_pass_37 rfl hl (by decide) rfl (fun ls hl => ?_)
      refine lv_iconst (v := 0) hx hb dX8_pass_38 (by decide) ?_
      refine lv_istore_n (lv' := [(3, .int 0), (2, .int 0), (0, .ref o), (1, .int p1)]) hx hb dX8_pass_39 rfl hl (by decide) rfl (fun ls hl => ?_)
      refine lv_iconst (v := 0) hx hb dX8_pass_40 (by decide) ?_
      refine lv_istore (lv' := [(4, .int 0), (3, .int 0), (2, .int 0), (0, .ref o), (1, .int p1)]) hx hb dX8_pass_41 hl (by decide) rfl (fun ls hl => ?_)
      have lp_43 : ∀ (K_43 : Int32 → Int32 → Int32 → xV → Option (Int32 × xV)), (∀ (x_7 : Int32) (x_8 : Int32) (x_9 : Int32) (M_10 : xV) (H : Heap) (locs : List Loc) (ls : Array Slot), (∀ q ∈ locs, z ≤ q.base) → PX G o 5 (mdE G o) M_10 H → XF (fun q => (o ≤ q ∧ q < o + 5)) s.heap H → lv_has ls 6 [(2, .int x_7), (3, .int x_8)] → K_43 x_7 x_8 x_9 M_10 = some (r0, M') → W p l e { frames := 4, cells := 0, slots := 0, locals := 89 } s m args below meth c H locs 0 0 Q (F0 m 124 ls [])) → ∀ (n : Nat) (x_7 : Int32) (x_8 : Int32) (x_9 : Int32) (M_10 : xV) (H : Heap) (locs : List Loc) (ls : Array Slot), (∀ q ∈ locs, z ≤ q.base) → PX G o 5 (mdE G o) M_10 H → XF (fun q => (o ≤ q ∧ q < o + 5)) s.heap H → lv_has ls 6 [(0, .ref o), (1, .int p1), (2, .int x_7), (3, .int x_8), (4, .int x_9)] → L_X8_pass_43 K_43 p1 n x_7 x_8 x_9 M_10 = some (r0, M') → W p l e { frames := 4, cells := 0, slots := 0, locals := 89 } s m args below meth c H locs 0 0 Q (F0 m 43 ls []) := by
        intro K_43 hK_43 n
        induction n with
        | zero =>
          intro x_7 x_8 x_9 M_10 H locs ls hL h_md hF hl hf
          cases hf
        | succ n ih_43 =>
          intro x_7 x_8 x_9 M_10 H locs ls hL h_md hF hl hf
          unfold L_X8_pass_43 at hf
          refine lv_iload hx hb dX8_pass_43 (lv_at hl 4 rfl) ?_
          refine lv_iload_n hx hb dX8_pass_45 rfl (lv_at hl 1 rfl) ?_
          refine lv_icmp_ge (tgt := 124) hx hb dX8_pass_46 (by decide) (fun c_11 => ?_) (fun c_11 => ?_)
          · have hf := (if_pos c_11).symm.trans hf
            exact hK_43 x_7 x_8 x_9 M_10 _ _ _ hL h_md hF (lv_sub hl [2, 3] rfl) hf
          · have hf := (if_neg c_11).symm.trans hf
            refine lv_iload_n hx hb dX8_pass_49 rfl (lv_at hl 2 rfl) ?_
            refine lv_aload_n hx hb dX8_pass_50 rfl (lv_at hl 0 rfl) ?_
            obtain ⟨r_12, M_13, e_14, hf⟩ := xb2_some hf
            refine x_callVi (As := []) (rest := [.int x_7]) S hK (c_X8_holdsToday l G z o M_10 r_12 M_13 (by omega) e_14) gX8_pass_X8_holdsToday rfl 0 (by decide +kernel) rfl ⟨Nat.le_of_ble_eq_true rfl, Nat.le_of_ble_eq_true rfl⟩ h_md 0 (by decide) rfl rfl rfl h_md hl.1 rfl (Nat.le_of_ble_eq_true rfl) dX8_pass_51 hL ⟨Nat.zero_le _, Nat.zero_le _⟩ (fun H1 locs hL hpost => ?_)
            obtain ⟨n_md, hfr⟩ := hpost
            have h_md := n_md
            have hF := hF.step hfr (fun q h => by (try dsimp only at h ⊢); omega)
            refine lv_iadd hx hb dX8_pass_54 ?_
            obtain ⟨x_15, ex_15, hf⟩ := xl_some hf
            refine x_top ex_15 ?_
            refine lv_istore_n (lv' := [(2, .int x_15), (0, .ref o), (1, .int p1), (3, .int x_8), (4, .int x_9)]) hx hb dX8_pass_55 rfl hl (by decide) rfl (fun ls hl => ?_)
            refine lv_aload_n hx hb dX8_pass_56 rfl (lv_at hl 1 rfl) ?_
            refine x_get S hK h_md 0 (by decide) rfl rfl rfl in8 0 (by decide) (xm 3 rfl) (x := .ref (o + 1)) rfl dX8_pass_57 ?_
            refine lv_iconst (v := 0) hx hb dX8_pass_60 (by decide) ?_
            refine lv_dup2_11 hx hb dX8_pass_61 rfl rfl ?_
            refine x_iald S hK h_md 1 (by decide) rfl rfl 0 (by decide) (by decide) dX8_pass_62 ?_
            refine lv_iconst (v := 1) hx hb dX8_pass_63 (by decide) ?_
            refine lv_iadd hx hb dX8_pass_64 ?_
            obtain ⟨M_16, eM_16, hf⟩ := xl_some hf
            refine x_iast S hK h_md hz_md hL 1 (by decide) rfl rfl 0 (by decide) (by decide) rfl eM_16 dX8_pass_65 (fun H1 locs hL h_md hfr => ?_)
            have hF := hF.step hfr (fun q h => by (try dsimp only at h ⊢); omega)
            refine lv_iconst (v := 0) hx hb dX8_pass_66 (by decide) ?_
            refine lv_istore (lv' := [(5, .int 0), (2, .int x_15), (0, .ref o), (1, .int p1), (3, .int x_8), (4, .int x_9)]) hx hb dX8_pass_67 hl (by decide) rfl (fun ls hl => ?_)
            have lp_69 : ∀ (K_69 : Int32 → Int32 → xV → Option (Int32 × xV)), (∀ (x_17 : Int32) (x_18 : Int32) (M_19 : xV) (H : Heap) (locs : List Loc) (ls : Array Slot), (∀ q ∈ locs, z ≤ q.base) → PX G o 5 (mdE G o) M_19 H → XF (fun q => (o ≤ q ∧ q < o + 5)) s.heap H → lv_has ls 6 [(0, .ref o), (1, .int p1), (2, .int x_15), (3, .int x_17), (4, .int x_9)] → K_69 x_17 x_18 M_19 = some (r0, M') → W p l e { frames := 4, cells := 0, slots := 0, locals := 89 } s m args below meth c H locs 0 0 Q (F0 m 118 ls [])) → ∀ (n : Nat) (x_17 : Int32) (x_18 : Int32) (M_19 : xV) (H : Heap) (locs : List Loc) (ls : Array Slot), (∀ q ∈ locs, z ≤ q.base) → PX G o 5 (mdE G o) M_19 H → XF (fun q => (o ≤ q ∧ q < o + 5)) s.heap H → lv_has ls 6 [(0, .ref o), (1, .int p1), (2, .int x_15), (3, .int x_17), (4, .int x_9), (5, .int x_18)] → L_X8_pass_69 K_69 n x_17 x_18 M_19 = some (r0, M') → W p l e { frames := 4, cells := 0, slots := 0, locals := 89 } s m args below meth c H locs 0 0 Q (F0 m 69 ls []) := by
              intro K_69 hK_69 n
              induction n with
              | zero =>
                intro x_17 x_18 M_19 H locs ls hL h_md hF hl hf
                cases hf
              | succ n ih_69 =>
                intro x_17 x_18 M_19 H locs ls hL h_md hF hl hf
                unfold L_X8_pass_69 at hf
                refine lv_iload hx hb dX8_pass_69 (lv_at hl 5 rfl) ?_
                refine lv_bipush (v := 6) hx hb dX8_pass_71 (by decide) ?_
                refine lv_icmp_ge (tgt := 118) hx hb dX8_pass_73 (by decide) (fun c_20 => ?_) (fun c_20 => ?_)
                · have hf := (if_pos c_20).symm.trans hf
                  exact hK_69 x_17 x_18 M_19 _ _ _ hL h_md hF (lv_sub hl [0, 1, 2, 3, 4] rfl) hf
                · have hf := (if_neg c_20).symm.trans hf
                  refine lv_aload_n hx hb dX8_pass_76 rfl (lv_at hl 0 rfl) ?_
                  refine lv_iload hx hb dX8_pass_77 (lv_at hl 5 rfl) ?_
                  obtain ⟨r_21, e_22, hf⟩ := xb_some hf
                  refine x_callVi (As := [.int x_18]) (rest := []) S hK (c_X8_lateBy l G z o M_19 x_18 r_21 e_22) gX8_pass_X8_lateBy rfl 1 (by decide +kernel) rfl ⟨Nat.le_of_ble_eq_true rfl, Nat.le_of_ble_eq_true rfl⟩ h_md 0 (by decide) rfl rfl rfl h_md hl.1 rfl (Nat.le_of_ble_eq_true rfl) dX8_pass_79 hL ⟨Nat.zero_le _, Nat.zero_le _⟩ (fun H1 locs hL hpost => ?_)
                  subst hpost
                  refine lv_if_le (tgt := 112) hx hb dX8_pass_82 (by decide) (fun c_23 => ?_) (fun c_23 => ?_)
                  · have hf := (if_pos c_23).symm.trans hf
                    obtain ⟨x_24, ex_24, hf⟩ := xl_some hf
                    refine lv_iinc (v := x_24) (lv' := [(5, .int x_24), (0, .ref o), (1, .int p1), (2, .int x_15), (3, .int x_17), (4, .int x_9)]) hx hb dX8_pass_112 hl (k := 5) rfl (by rw [ex_24]; rfl) (by decide) rfl (fun ls hl => ?_)
                    refine lv_goto (tgt := 69) hx hb dX8_pass_115 (by decide) ?_
                    exact ih_69 x_17 x_24 M_19 _ _ _ hL h_md hF (lv_sub hl [1, 2, 3, 4, 5, 0] rfl) hf
                  · have hf := (if_neg c_23).symm.trans hf
                    refine lv_iload_n hx hb dX8_pass_85 rfl (lv_at hl 3 rfl) ?_
                    refine lv_aload_n hx hb dX8_pass_86 rfl (lv_at hl 0 rfl) ?_
                    refine lv_aload_n hx hb dX8_pass_87 rfl (lv_at hl 0 rfl) ?_
                    refine x_get S hK h_md 0 (by decide) rfl rfl rfl in8 0 (by decide) (xm 3 rfl) (x := .ref (o + 1)) rfl dX8_pass_88 ?_
                    refine lv_bipush (v := 40) hx hb dX8_pass_91 (by decide) ?_
                    refine lv_iconst (v := 2) hx hb dX8_pass_93 (by decide) ?_
                    refine lv_iload hx hb dX8_pass_94 (lv_at hl 5 rfl) ?_
                    refine lv_imul hx hb dX8_pass_96 ?_
                    refine lv_iadd hx hb dX8_pass_97 ?_
                    obtain ⟨g_25, hf⟩ := xg_some hf
                    refine x_iald S hK h_md 1 (by decide) rfl rfl (40 + (2 * x_18)).toNatClampNeg rfl g_25 dX8_pass_98 ?_
                    refine lv_aload_n hx hb dX8_pass_99 rfl (lv_at hl 0 rfl) ?_
                    refine x_get S hK h_md 0 (by decide) rfl rfl rfl in8 0 (by decide) (xm 3 rfl) (x := .ref (o + 1)) rfl dX8_pass_100 ?_
                    refine lv_bipush (v := 7) hx hb dX8_pass_103 (by decide) ?_
                    refine x_iald S hK h_md 1 (by decide) rfl rfl 7 (by decide) (by decide) dX8_pass_105 ?_
                    refine lv_iconst (v := 5) hx hb dX8_pass_106 (by decide) ?_
                    obtain ⟨r_26, M_27, e_28, hf⟩ := xb2_some hf
                    refine x_callVi (As := [.int (M_19 1 (40 + (2 * x_18)).toNatClampNeg), .int (M_19 1 7), .int 5]) (rest := [.int x_17]) S hK (c_X8_takes l G z o M_19 (M_19 1 (40 + (2 * x_18)).toNatClampNeg) (M_19 1 7) 5 r_26 M_27 (by omega) e_28) gX8_pass_X8_takes rfl 3 (by decide +kernel) rfl ⟨Nat.le_of_ble_eq_true rfl, Nat.le_of_ble_eq_true rfl⟩ h_md 0 (by decide) rfl rfl rfl h_md hl.1 rfl (Nat.le_of_ble_eq_true rfl) dX8_pass_107 hL ⟨Nat.zero_le _, Nat.zero_le _⟩ (fun H1 locs hL hpost => ?_)
                    obtain ⟨n_md, hfr⟩ := hpost
                    have h_md := n_md
                    have hF := hF.step hfr (fun q h => by (try dsimp only at h ⊢); omega)
                    refine lv_iadd hx hb dX8_pass_110 ?_
                    obtain ⟨x_29, ex_29, hf⟩ := xl_some hf
                    refine x_top ex_29 ?_
                    refine lv_istore_n (lv' := [(3, .int x_29), (0, .ref o), (1, .int p1), (2, .int x_15), (4, .int x_9), (5, .int x_18)]) hx hb dX8_pass_111 rfl hl (by decide) rfl (fun ls hl => ?_)
                    obtain ⟨x_30, ex_30, hf⟩ := xl_some hf
                    refine lv_iinc (v := x_30) (lv' := [(5, .int x_30), (3, .int x_29), (0, .ref o), (1, .int p1), (2, .int x_15), (4, .int x_9)]) hx hb dX8_pass_112 hl (k := 5) rfl (by rw [ex_30]; rfl) (by decide) rfl (fun ls hl => ?_)
                    refine lv_goto (tgt := 69) hx hb dX8_pass_115 (by decide) ?_
                    exact ih_69 x_29 x_30 M_27 _ _ _ hL h_md hF (lv_sub hl [2, 3, 4, 1, 5, 0] rfl) hf
            refine lp_69 _ (fun x_31 x_32 M_33 H locs ls hL h_md hF hl hf => ?_) 100000 x_8 0 M_16 _ _ _ hL h_md hF (lv_sub hl [2, 3, 1, 4, 5, 0] rfl) hf
            obtain ⟨x_34, ex_34, hf⟩ := xl_some hf
            refine lv_iinc (v := x_34) (lv' := [(4, .int x_34), (0, .ref o), (1, .int p1), (2, .int x_15), (3, .int x_31)]) hx hb dX8_pass_118 hl (k := 4) rfl (by rw [ex_34]; rfl) (by decide) rfl (fun ls hl => ?_)
            refine lv_goto (tgt := 43) hx hb dX8_pass_121 (by decide) ?_
            exact ih_43 x_15 x_31 x_34 M_33 _ _ _ hL h_md hF (lv_sub hl [1, 2, 3, 4, 0] rfl) hf
      refine lp_43 _ (fun x_35 x_36 x_37 M_38 H locs ls hL h_md hF hl hf => ?_) 100000 0 0 0 M_5 _ _ _ hL h_md hF (lv_sub hl [3, 4, 2, 1, 0] rfl) hf
      refine lv_iload_n hx hb dX8_pass_124 rfl (lv_at hl 1 rfl) ?_
      refine lv_if_ge (tgt := 132) hx hb dX8_pass_125 (by decide) (fun c_39 => ?_) (fun c_39 => ?_)
      · have hf := (if_pos c_39).symm.trans hf
        refine lv_iload_n hx hb dX8_pass_132 rfl (lv_at hl 0 rfl) ?_
        obtain ⟨q0, qq0⟩ := Prod.mk.inj (Option.some.inj hf)
        have q1 := qq0
        subst r0
        subst M'
        subst hQ
        refine x_iret (post := (fun H H1 => PX G o 5 (mdE G o) M_38 H1 ∧ XF (fun q => (o ≤ q ∧ q < o + 5)) H H1)) S hr hlocks rfl ?_ hL dX8_pass_133
        exact ⟨h_md, hF⟩
      · have hf := (if_neg c_39).symm.trans hf
        refine lv_iconst (v := 0) hx hb dX8_pass_128 (by decide) ?_
        refine lv_goto (tgt := 133) hx hb dX8_pass_129 (by decide) ?_
        obtain ⟨q0, qq0⟩ := Prod.mk.inj (Option.some.inj hf)
        have q1 := qq0
        subst r0
        subst M'
        subst hQ
        refine x_iret (post := (fun H H1 => PX G o 5 (mdE G o) M_38 H1 ∧ XF (fun q => (o ≤ q ∧ q < o + 5)) H H1)) S hr hlocks rfl ?_ hL dX8_pass_133
        exact ⟨h_md, hF⟩
    · have hf := (if_neg c_4).symm.trans hf
      refine lv_ldc (v := (-2000000003)) hx hb hown (hts _ (xm 4 rfl)) dX8_pass_29 ?_
      obtain ⟨q0, qq0⟩ := Prod.mk.inj (Option.some.inj hf)
      have q1 := qq0
      subst r0
      subst M'
      subst hQ
      refine x_iret (post := (fun H H1 => PX G o 5 (mdE G o) M H1 ∧ XF (fun q => (o ≤ q ∧ q < o + 5)) H H1)) S hr hlocks rfl ?_ hL dX8_pass_31
      exact ⟨h_md, hF⟩
  · have hf := (if_pos c_3).symm.trans hf
    refine lv_ldc (v := (-2000000001)) hx hb hown (hts _ (xm 2 rfl)) dX8_pass_12 ?_
    obtain ⟨q0, qq0⟩ := Prod.mk.inj (Option.some.inj hf)
    have q1 := qq0
    subst r0
    subst M'
    subst hQ
    refine x_iret (post := (fun H H1 => PX G o 5 (mdE G o) M H1 ∧ XF (fun q => (o ≤ q ∧ q < o + 5)) H H1)) S hr hlocks rfl ?_ hL dX8_pass_14
    exact ⟨h_md, hF⟩
set_option maxRecDepth 100000 in
set_option maxHeartbeats 4000000 in
theorem c_X8_pay (l : Launch) (G : xG) (z : Nat) (o : Nat) (M : xV) (p1 : Int32) (p2 : Int32) (r0 : Int32) (M' : xV) (hz_md : z ≤ o) (hf : f_X8_pay M p1 p2 = some (r0, M')) : xM l yX8_pay wsX8_pay 2 46 G z [.ref o, .int p1, .int p2] (fun H => PX G o 5 (mdE G o) M H) (some (.int r0)) (fun H H1 => PX G o 5 (mdE G o) M' H1 ∧ XF (fun q => (o ≤ q ∧ q < o + 5)) H H1) := by
  refine xM.of (cc := cX8_pay) (maxL := 3) (ret := (some .int)) (by decide +kernel) rfl (Nat.le_of_ble_eq_true rfl) ?_
  intro p e s m args below meth c ls Q hQ S hr hlocks hK hP hl
  obtain ⟨hx, hb, hml, hown, hts⟩ := id S
  have h_md := hP
  have hL : ∀ q ∈ ([] : List Loc), z ≤ q.base := fun q h => absurd h List.not_mem_nil
  have hF : XF (fun q => (o ≤ q ∧ q < o + 5)) s.heap s.heap := XF.rf
  have hl : lv_has ls 3 [(0, .ref o), (1, .int p1), (2, .int p2)] := hl
  have in8 : ∀ w ∈ u_ws RX8 TX8 18, w ∈ wsX8_pay := fun _ h => List.mem_cons_of_mem _ (List.mem_append_right _ h)
  unfold f_X8_pay at hf
  refine lv_aload_n hx hb dX8_pay_0 rfl (lv_at hl 0 rfl) ?_
  refine lv_iload_n hx hb dX8_pay_1 rfl (lv_at hl 1 rfl) ?_
  obtain ⟨r_1, e_2, hf⟩ := xb_some hf
  refine x_callVi (As := [.int p1]) (rest := []) S hK (c_X8_isHirer l G z o M p1 r_1 e_2) gX8_pay_X8_isHirer rfl 1 (by decide +kernel) rfl ⟨Nat.le_of_ble_eq_true rfl, Nat.le_of_ble_eq_true rfl⟩ h_md 0 (by decide) rfl rfl rfl h_md hl.1 rfl (Nat.le_of_ble_eq_true rfl) dX8_pay_2 hL ⟨Nat.zero_le _, Nat.zero_le _⟩ (fun H1 locs hL hpost => ?_)
  subst hpost
  refine lv_if_eq (tgt := 20) hx hb dX8_pay_5 (by decide) (fun c_3 => ?_) (fun c_3 => ?_)
  · have hf := (if_pos c_3).symm.trans hf
    refine lv_ldc (v := (-2000000001)) hx hb hown (hts _ (xm 2 rfl)) dX8_pay_20 ?_
    obtain ⟨q0, qq0⟩ := Prod.mk.inj (Option.some.inj hf)
    have q1 := qq0
    subst r0
    subst M'
    subst hQ
    refine x_iret (post := (fun H H1 => PX G o 5 (mdE G o) M H1 ∧ XF (fun q => (o ≤ q ∧ q < o + 5)) H H1)) S hr hlocks rfl ?_ hL dX8_pay_22
    exact ⟨h_md, hF⟩
  · have hf := (if_neg c_3).symm.trans hf
    refine lv_iload_n hx hb dX8_pay_8 rfl (lv_at hl 2 rfl) ?_
    refine lv_i2l (v := p2.toInt64) hx hb dX8_pay_9 rfl ?_
    refine lv_lconst (v := 1) hx hb dX8_pay_10 (by decide) ?_
    refine lv_ldc2 (v := 1000000) hx hb hown (hts _ (xm 1 rfl)) dX8_pay_11 ?_
    obtain ⟨r_4, e_5, hf⟩ := xb_some hf
    refine x_callTi (As := [.long (p2.toInt64), .long 1, .long 1000000]) (rest := []) S hK (c_X8_in l G z (p2.toInt64) 1 1000000 r_4 e_5) gX8_pay_X8_in rfl 3 (by decide +kernel) rfl ⟨Nat.le_of_ble_eq_true rfl, Nat.le_of_ble_eq_true rfl⟩ rfl hl.1 rfl (Nat.le_of_ble_eq_true rfl) dX8_pay_14 hL ⟨Nat.zero_le _, Nat.zero_le _⟩ (fun H1 locs hL hpost => ?_)
    subst hpost
    refine lv_if_ne (tgt := 23) hx hb dX8_pay_17 (by decide) (fun c_6 => ?_) (fun c_6 => ?_)
    · have hf := (if_neg c_6).symm.trans hf
      refine lv_aload_n hx hb dX8_pay_23 rfl (lv_at hl 0 rfl) ?_
      refine x_get S hK h_md 0 (by decide) rfl rfl rfl in8 0 (by decide) (xm 3 rfl) (x := .ref (o + 1)) rfl dX8_pay_24 ?_
      refine lv_bipush (v := 20) hx hb dX8_pay_27 (by decide) ?_
      refine lv_iconst (v := 2) hx hb dX8_pay_29 (by decide) ?_
      refine lv_iload_n hx hb dX8_pay_30 rfl (lv_at hl 1 rfl) ?_
      refine lv_imul hx hb dX8_pay_31 ?_
      refine lv_iadd hx hb dX8_pay_32 ?_
      refine lv_iconst (v := 1) hx hb dX8_pay_33 (by decide) ?_
      refine lv_iadd hx hb dX8_pay_34 ?_
      obtain ⟨g_7, hf⟩ := xg_some hf
      refine x_iald S hK h_md 1 (by decide) rfl rfl ((20 + (2 * p1)) + 1).toNatClampNeg rfl g_7 dX8_pay_35 ?_
      refine lv_iload_n hx hb dX8_pay_36 rfl (lv_at hl 2 rfl) ?_
      refine lv_iadd hx hb dX8_pay_37 ?_
      refine lv_ldc (v := 100000000) hx hb hown (hts _ (xm 4 rfl)) dX8_pay_38 ?_
      refine lv_icmp_le (tgt := 46) hx hb dX8_pay_40 (by decide) (fun c_8 => ?_) (fun c_8 => ?_)
      · have hf := (if_pos c_8).symm.trans hf
        refine lv_aload_n hx hb dX8_pay_46 rfl (lv_at hl 0 rfl) ?_
        obtain ⟨M_9, e_10, hf⟩ := xb_some hf
        refine x_callVv (As := []) (rest := []) S hK (c_X8_save l G z o M M_9 (by omega) e_10) gX8_pay_X8_save rfl 0 (by decide +kernel) rfl ⟨Nat.le_of_ble_eq_true rfl, Nat.le_of_ble_eq_true rfl⟩ h_md 0 (by decide) rfl rfl rfl h_md hl.1 rfl (Nat.le_of_ble_eq_true rfl) dX8_pay_47 hL ⟨Nat.zero_le _, Nat.zero_le _⟩ (fun H1 locs hL hpost => ?_)
        obtain ⟨n_md, hfr⟩ := hpost
        have h_md := n_md
        have hF := hF.step hfr (fun q h => by (try dsimp only at h ⊢); omega)
        refine lv_aload_n hx hb dX8_pay_50 rfl (lv_at hl 0 rfl) ?_
        refine lv_iload_n hx hb dX8_pay_51 rfl (lv_at hl 1 rfl) ?_
        refine lv_iload_n hx hb dX8_pay_52 rfl (lv_at hl 2 rfl) ?_
        obtain ⟨M_11, e_12, hf⟩ := xb_some hf
        refine x_callVv (As := [.int p1, .int p2]) (rest := []) S hK (c_X8_pays l G z o M_9 p1 p2 M_11 (by omega) e_12) gX8_pay_X8_pays rfl 2 (by decide +kernel) rfl ⟨Nat.le_of_ble_eq_true rfl, Nat.le_of_ble_eq_true rfl⟩ h_md 0 (by decide) rfl rfl rfl h_md hl.1 rfl (Nat.le_of_ble_eq_true rfl) dX8_pay_53 hL ⟨Nat.zero_le _, Nat.zero_le _⟩ (fun H1 locs hL hpost => ?_)
        obtain ⟨n_md, hfr⟩ := hpost
        have h_md := n_md
        have hF := hF.step hfr (fun q h => by (try dsimp only at h ⊢); omega)
        refine lv_aload_n hx hb dX8_pay_56 rfl (lv_at hl 0 rfl) ?_
        refine x_get S hK h_md 0 (by decide) rfl rfl rfl in8 0 (by decide) (xm 3 rfl) (x := .ref (o + 1)) rfl dX8_pay_57 ?_
        refine lv_bipush (v := 19) hx hb dX8_pay_60 (by decide) ?_
        refine lv_dup2_11 hx hb dX8_pay_62 rfl rfl ?_
        refine x_iald S hK h_md 1 (by decide) rfl rfl 19 (by decide) (by decide) dX8_pay_63 ?_
        refine lv_iload_n hx hb dX8_pay_64 rfl (lv_at hl 2 rfl) ?_
        refine lv_iadd hx hb dX8_pay_65 ?_
        obtain ⟨M_13, eM_13, hf⟩ := xl_some hf
        refine x_iast S hK h_md hz_md hL 1 (by decide) rfl rfl 19 (by decide) (by decide) rfl eM_13 dX8_pay_66 (fun H1 locs hL h_md hfr => ?_)
        have hF := hF.step hfr (fun q h => by (try dsimp only at h ⊢); omega)
        refine lv_aload_n hx hb dX8_pay_67 rfl (lv_at hl 0 rfl) ?_
        refine x_get S hK h_md 0 (by decide) rfl rfl rfl in8 0 (by decide) (xm 3 rfl) (x := .ref (o + 1)) rfl dX8_pay_68 ?_
        refine lv_bipush (v := 20) hx hb dX8_pay_71 (by decide) ?_
        refine lv_iconst (v := 2) hx hb dX8_pay_73 (by decide) ?_
        refine lv_iload_n hx hb dX8_pay_74 rfl (lv_at hl 1 rfl) ?_
        refine lv_imul hx hb dX8_pay_75 ?_
        refine lv_iadd hx hb dX8_pay_76 ?_
        obtain ⟨g_14, hf⟩ := xg_some hf
        refine x_iald S hK h_md 1 (by decide) rfl rfl (20 + (2 * p1)).toNatClampNeg rfl g_14 dX8_pay_77 ?_
        refine lv_aload_n hx hb dX8_pay_78 rfl (lv_at hl 0 rfl) ?_
        refine x_get S hK h_md 0 (by decide) rfl rfl rfl in8 0 (by decide) (xm 3 rfl) (x := .ref (o + 1)) rfl dX8_pay_79 ?_
        refine lv_bipush (v := 20) hx hb dX8_pay_82 (by decide) ?_
        refine lv_iconst (v := 2) hx hb dX8_pay_84 (by decide) ?_
        refine lv_iload_n hx hb dX8_pay_85 rfl (lv_at hl 1 rfl) ?_
        refine lv_imul hx hb dX8_pay_86 ?_
        refine lv_iadd hx hb dX8_pay_87 ?_
        refine lv_iconst (v := 1) hx hb dX8_pay_88 (by decide) ?_
        refine lv_iadd hx hb dX8_pay_89 ?_
        obtain ⟨g_15, hf⟩ := xg_some hf
        refine x_iald S hK h_md 1 (by decide) rfl rfl ((20 + (2 * p1)) + 1).toNatClampNeg rfl g_15 dX8_pay_90 ?_
        refine lv_isub hx hb dX8_pay_91 ?_
        obtain ⟨q0, qq0⟩ := Prod.mk.inj (Option.some.inj hf)
        have q1 := qq0
        subst r0
        subst M'
        subst hQ
        refine x_iret (post := (fun H H1 => PX G o 5 (mdE G o) M_13 H1 ∧ XF (fun q => (o ≤ q ∧ q < o + 5)) H H1)) S hr hlocks rfl ?_ hL dX8_pay_92
        exact ⟨h_md, hF⟩
      · have hf := (if_neg c_8).symm.trans hf
        refine lv_ldc (v := (-2000000003)) hx hb hown (hts _ (xm 5 rfl)) dX8_pay_43 ?_
        obtain ⟨q0, qq0⟩ := Prod.mk.inj (Option.some.inj hf)
        have q1 := qq0
        subst r0
        subst M'
        subst hQ
        refine x_iret (post := (fun H H1 => PX G o 5 (mdE G o) M H1 ∧ XF (fun q => (o ≤ q ∧ q < o + 5)) H H1)) S hr hlocks rfl ?_ hL dX8_pay_45
        exact ⟨h_md, hF⟩
    · have hf := (if_pos c_6).symm.trans hf
      refine lv_ldc (v := (-2000000001)) hx hb hown (hts _ (xm 2 rfl)) dX8_pay_20 ?_
      obtain ⟨q0, qq0⟩ := Prod.mk.inj (Option.some.inj hf)
      have q1 := qq0
      subst r0
      subst M'
      subst hQ
      refine x_iret (post := (fun H H1 => PX G o 5 (mdE G o) M H1 ∧ XF (fun q => (o ≤ q ∧ q < o + 5)) H H1)) S hr hlocks rfl ?_ hL dX8_pay_22
      exact ⟨h_md, hF⟩
set_option maxRecDepth 100000 in
set_option maxHeartbeats 4000000 in
theorem c_X8_price (l : Launch) (G : xG) (z : Nat) (o : Nat) (M : xV) (p1 : Int32) (p2 : Int32) (p3 : Int32) (r0 : Int32)  (hf : f_X8_price M p1 p2 p3 = some r0) : xM l yX8_price wsX8_price 2 52 G z [.ref o, .int p1, .int p2, .int p3] (fun H => PX G o 5 (mdE G o) M H) (some (.int r0)) (fun H H1 => H1 = H) := by
  refine xM.of (cc := cX8_price) (maxL := 5) (ret := (some .int)) (by decide +kernel) rfl (Nat.le_of_ble_eq_true rfl) ?_
  intro p e s m args below meth c ls Q hQ S hr hlocks hK hP hl
  obtain ⟨hx, hb, hml, hown, hts⟩ := id S
  have h_md := hP
  have hL : ∀ q ∈ ([] : List Loc), z ≤ q.base := fun q h => absurd h List.not_mem_nil
  have hl : lv_has ls 5 [(0, .ref o), (1, .int p1), (2, .int p2), (3, .int p3)] := hl
  unfold f_X8_price at hf
  refine lv_iload_n hx hb dX8_price_0 rfl (lv_at hl 1 rfl) ?_
  refine lv_i2l (v := p1.toInt64) hx hb dX8_price_1 rfl ?_
  refine lv_lconst (v := 1) hx hb dX8_price_2 (by decide) ?_
  refine lv_ldc2 (v := 7) hx hb hown (hts _ (xm 1 rfl)) dX8_price_3 ?_
  obtain ⟨r_1, e_2, hf⟩ := xb_some hf
  refine x_callTi (As := [.long (p1.toInt64), .long 1, .long 7]) (rest := []) S hK (c_X8_in l G z (p1.toInt64) 1 7 r_1 e_2) gX8_price_X8_in rfl 3 (by decide +kernel) rfl ⟨Nat.le_of_ble_eq_true rfl, Nat.le_of_ble_eq_true rfl⟩ rfl hl.1 rfl (Nat.le_of_ble_eq_true rfl) dX8_price_6 hL ⟨Nat.zero_le _, Nat.zero_le _⟩ (fun H1 locs hL hpost => ?_)
  subst hpost
  refine lv_if_eq (tgt := 35) hx hb dX8_price_9 (by decide) (fun c_3 => ?_) (fun c_3 => ?_)
  · have hf := (if_pos c_3).symm.trans hf
    refine lv_iconst (v := 0) hx hb dX8_price_35 (by decide) ?_
    refine lv_istore (lv' := [(4, .int 0), (0, .ref o), (1, .int p1), (2, .int p2), (3, .int p3)]) hx hb dX8_price_36 hl (by decide) rfl (fun ls hl => ?_)
    refine lv_iload hx hb dX8_price_38 (lv_at hl 0 rfl) ?_
    refine lv_if_eq (tgt := 60) hx hb dX8_price_40 (by decide) (fun _ => ?_) (fun h9 => absurd h9 (by decide))
    refine lv_ldc (v := (-2000000001)) hx hb hown (hts _ (xm 3 rfl)) dX8_price_60 ?_
    have q0 := Option.some.inj hf
    subst r0
    subst hQ
    refine x_iret (post := (fun H H1 => H1 = H)) S hr hlocks rfl ?_ hL dX8_price_62
    exact rfl
  · have hf := (if_neg c_3).symm.trans hf
    refine lv_iload_n hx hb dX8_price_12 rfl (lv_at hl 2 rfl) ?_
    obtain ⟨r_4, e_5, hf⟩ := xb_some hf
    refine x_callTi (As := [.int p2]) (rest := []) S hK (c_X8_areHours l G z p2 r_4 e_5) gX8_price_X8_areHours rfl 1 (by decide +kernel) rfl ⟨Nat.le_of_ble_eq_true rfl, Nat.le_of_ble_eq_true rfl⟩ rfl hl.1 rfl (Nat.le_of_ble_eq_true rfl) dX8_price_13 hL ⟨Nat.zero_le _, Nat.zero_le _⟩ (fun H1 locs hL hpost => ?_)
    subst hpost
    refine lv_if_eq (tgt := 35) hx hb dX8_price_16 (by decide) (fun c_6 => ?_) (fun c_6 => ?_)
    · have hf := (if_pos c_6).symm.trans hf
      refine lv_iconst (v := 0) hx hb dX8_price_35 (by decide) ?_
      refine lv_istore (lv' := [(4, .int 0), (0, .ref o), (1, .int p1), (2, .int p2), (3, .int p3)]) hx hb dX8_price_36 hl (by decide) rfl (fun ls hl => ?_)
      refine lv_iload hx hb dX8_price_38 (lv_at hl 0 rfl) ?_
      refine lv_if_eq (tgt := 60) hx hb dX8_price_40 (by decide) (fun _ => ?_) (fun h9 => absurd h9 (by decide))
      refine lv_ldc (v := (-2000000001)) hx hb hown (hts _ (xm 3 rfl)) dX8_price_60 ?_
      have q0 := Option.some.inj hf
      subst r0
      subst hQ
      refine x_iret (post := (fun H H1 => H1 = H)) S hr hlocks rfl ?_ hL dX8_price_62
      exact rfl
    · have hf := (if_neg c_6).symm.trans hf
      refine lv_iload_n hx hb dX8_price_19 rfl (lv_at hl 3 rfl) ?_
      refine lv_i2l (v := p3.toInt64) hx hb dX8_price_20 rfl ?_
      refine lv_lconst (v := 1) hx hb dX8_price_21 (by decide) ?_
      refine lv_ldc2 (v := 20) hx hb hown (hts _ (xm 2 rfl)) dX8_price_22 ?_
      obtain ⟨r_7, e_8, hf⟩ := xb_some hf
      refine x_callTi (As := [.long (p3.toInt64), .long 1, .long 20]) (rest := []) S hK (c_X8_in l G z (p3.toInt64) 1 20 r_7 e_8) gX8_price_X8_in rfl 3 (by decide +kernel) rfl ⟨Nat.le_of_ble_eq_true rfl, Nat.le_of_ble_eq_true rfl⟩ rfl hl.1 rfl (Nat.le_of_ble_eq_true rfl) dX8_price_25 hL ⟨Nat.zero_le _, Nat.zero_le _⟩ (fun H1 locs hL hpost => ?_)
      subst hpost
      refine lv_if_eq (tgt := 35) hx hb dX8_price_28 (by decide) (fun c_9 => ?_) (fun c_9 => ?_)
      · have hf := (if_pos c_9).symm.trans hf
        refine lv_iconst (v := 0) hx hb dX8_price_35 (by decide) ?_
        refine lv_istore (lv' := [(4, .int 0), (0, .ref o), (1, .int p1), (2, .int p2), (3, .int p3)]) hx hb dX8_price_36 hl (by decide) rfl (fun ls hl => ?_)
        refine lv_iload hx hb dX8_price_38 (lv_at hl 0 rfl) ?_
        refine lv_if_eq (tgt := 60) hx hb dX8_price_40 (by decide) (fun _ => ?_) (fun h9 => absurd h9 (by decide))
        refine lv_ldc (v := (-2000000001)) hx hb hown (hts _ (xm 3 rfl)) dX8_price_60 ?_
        have q0 := Option.some.inj hf
        subst r0
        subst hQ
        refine x_iret (post := (fun H H1 => H1 = H)) S hr hlocks rfl ?_ hL dX8_price_62
        exact rfl
      · have hf := (if_neg c_9).symm.trans hf
        refine lv_iconst (v := 1) hx hb dX8_price_31 (by decide) ?_
        refine lv_goto (tgt := 36) hx hb dX8_price_32 (by decide) ?_
        refine lv_istore (lv' := [(4, .int 1), (0, .ref o), (1, .int p1), (2, .int p2), (3, .int p3)]) hx hb dX8_price_36 hl (by decide) rfl (fun ls hl => ?_)
        refine lv_iload hx hb dX8_price_38 (lv_at hl 0 rfl) ?_
        refine lv_if_eq (tgt := 60) hx hb dX8_price_40 (by decide) (fun h9 => absurd h9 (by decide)) (fun _ => ?_)
        refine lv_aload_n hx hb dX8_price_43 rfl (lv_at hl 1 rfl) ?_
        refine lv_iload_n hx hb dX8_price_44 rfl (lv_at hl 2 rfl) ?_
        refine lv_iload_n hx hb dX8_price_45 rfl (lv_at hl 3 rfl) ?_
        refine lv_bipush (v := 100) hx hb dX8_price_46 (by decide) ?_
        refine lv_idiv hx hb dX8_price_48 (by decide) ?_
        refine lv_iload_n hx hb dX8_price_49 rfl (lv_at hl 3 rfl) ?_
        refine lv_bipush (v := 100) hx hb dX8_price_50 (by decide) ?_
        refine lv_irem hx hb dX8_price_52 (by decide) ?_
        refine lv_iload_n hx hb dX8_price_53 rfl (lv_at hl 4 rfl) ?_
        obtain ⟨r_10, e_11, hf⟩ := xb_some hf
        refine x_callVi (As := [.int p1, .int (p2 / 100), .int (p2 - p2 / 100 * 100), .int p3]) (rest := []) S hK (c_X8_priceOf l G z o M p1 (p2 / 100) (p2 - p2 / 100 * 100) p3 r_10 e_11) gX8_price_X8_priceOf rfl 4 (by decide +kernel) rfl ⟨Nat.le_of_ble_eq_true rfl, Nat.le_of_ble_eq_true rfl⟩ h_md 0 (by decide) rfl rfl rfl h_md hl.1 rfl (Nat.le_of_ble_eq_true rfl) dX8_price_54 hL ⟨Nat.zero_le _, Nat.zero_le _⟩ (fun H1 locs hL hpost => ?_)
        subst hpost
        refine lv_goto (tgt := 62) hx hb dX8_price_57 (by decide) ?_
        have q0 := Option.some.inj hf
        subst r0
        subst hQ
        refine x_iret (post := (fun H H1 => H1 = H)) S hr hlocks rfl ?_ hL dX8_price_62
        exact rfl
set_option maxRecDepth 100000 in
set_option maxHeartbeats 4000000 in
theorem c_X8_report (l : Launch) (G : xG) (z : Nat) (o : Nat) (M : xV) (p1 : Int32) (p2 : Int32) (r0 : Int32) (M' : xV) (hz_md : z ≤ o) (hf : f_X8_report M p1 p2 = some (r0, M')) : xM l yX8_report wsX8_report 3 67 G z [.ref o, .int p1, .int p2] (fun H => PX G o 5 (mdE G o) M H) (some (.int r0)) (fun H H1 => PX G o 5 (mdE G o) M' H1 ∧ XF (fun q => (o ≤ q ∧ q < o + 5)) H H1) := by
  refine xM.of (cc := cX8_report) (maxL := 7) (ret := (some .int)) (by decide +kernel) rfl (Nat.le_of_ble_eq_true rfl) ?_
  intro p e s m args below meth c ls Q hQ S hr hlocks hK hP hl
  obtain ⟨hx, hb, hml, hown, hts⟩ := id S
  have h_md := hP
  have hL : ∀ q ∈ ([] : List Loc), z ≤ q.base := fun q h => absurd h List.not_mem_nil
  have hF : XF (fun q => (o ≤ q ∧ q < o + 5)) s.heap s.heap := XF.rf
  have hl : lv_has ls 7 [(0, .ref o), (1, .int p1), (2, .int p2)] := hl
  have in8 : ∀ w ∈ u_ws RX8 TX8 18, w ∈ wsX8_report := fun _ h => List.mem_cons_of_mem _ (List.mem_append_right _ h)
  unfold f_X8_report at hf
  refine lv_aload_n hx hb dX8_report_0 rfl (lv_at hl 0 rfl) ?_
  refine lv_iload_n hx hb dX8_report_1 rfl (lv_at hl 1 rfl) ?_
  obtain ⟨r_1, e_2, hf⟩ := xb_some hf
  refine x_callVi (As := [.int p1]) (rest := []) S hK (c_X8_isSession l G z o M p1 r_1 e_2) gX8_report_X8_isSession rfl 1 (by decide +kernel) rfl ⟨Nat.le_of_ble_eq_true rfl, Nat.le_of_ble_eq_true rfl⟩ h_md 0 (by decide) rfl rfl rfl h_md hl.1 rfl (Nat.le_of_ble_eq_true rfl) dX8_report_2 hL ⟨Nat.zero_le _, Nat.zero_le _⟩ (fun H1 locs hL hpost => ?_)
  subst hpost
  refine lv_if_eq (tgt := 20) hx hb dX8_report_5 (by decide) (fun c_3 => ?_) (fun c_3 => ?_)
  · have hf := (if_pos c_3).symm.trans hf
    refine lv_ldc (v := (-2000000001)) hx hb hown (hts _ (xm 2 rfl)) dX8_report_20 ?_
    obtain ⟨q0, qq0⟩ := Prod.mk.inj (Option.some.inj hf)
    have q1 := qq0
    subst r0
    subst M'
    subst hQ
    refine x_iret (post := (fun H H1 => PX G o 5 (mdE G o) M H1 ∧ XF (fun q => (o ≤ q ∧ q < o + 5)) H H1)) S hr hlocks rfl ?_ hL dX8_report_22
    exact ⟨h_md, hF⟩
  · have hf := (if_neg c_3).symm.trans hf
    refine lv_iload_n hx hb dX8_report_8 rfl (lv_at hl 2 rfl) ?_
    refine lv_i2l (v := p2.toInt64) hx hb dX8_report_9 rfl ?_
    refine lv_lconst (v := 0) hx hb dX8_report_10 (by decide) ?_
    refine lv_ldc2 (v := 3) hx hb hown (hts _ (xm 1 rfl)) dX8_report_11 ?_
    obtain ⟨r_4, e_5, hf⟩ := xb_some hf
    refine x_callTi (As := [.long (p2.toInt64), .long 0, .long 3]) (rest := []) S hK (c_X8_in l G z (p2.toInt64) 0 3 r_4 e_5) gX8_report_X8_in rfl 3 (by decide +kernel) rfl ⟨Nat.le_of_ble_eq_true rfl, Nat.le_of_ble_eq_true rfl⟩ rfl hl.1 rfl (Nat.le_of_ble_eq_true rfl) dX8_report_14 hL ⟨Nat.zero_le _, Nat.zero_le _⟩ (fun H1 locs hL hpost => ?_)
    subst hpost
    refine lv_if_ne (tgt := 23) hx hb dX8_report_17 (by decide) (fun c_6 => ?_) (fun c_6 => ?_)
    · have hf := (if_neg c_6).symm.trans hf
      refine lv_iload_n hx hb dX8_report_23 rfl (lv_at hl 1 rfl) ?_
      refine lv_bipush (v := 20) hx hb dX8_report_24 (by decide) ?_
      refine lv_idiv hx hb dX8_report_26 (by decide) ?_
      obtain ⟨x_7, ex_7, hf⟩ := xl_some hf
      refine x_top ex_7 ?_
      refine lv_istore_n (lv' := [(3, .int x_7), (0, .ref o), (1, .int p1), (2, .int p2)]) hx hb dX8_report_27 rfl hl (by decide) rfl (fun ls hl => ?_)
      refine lv_iload_n hx hb dX8_report_28 rfl (lv_at hl 3 rfl) ?_
      refine lv_iconst (v := 1) hx hb dX8_report_29 (by decide) ?_
      refine lv_icmp_ne (tgt := 44) hx hb dX8_report_30 (by decide) (fun c_8 => ?_) (fun c_8 => ?_)
      · have hf := (if_neg c_8).symm.trans hf
        refine lv_iconst (v := 1) hx hb dX8_report_44 (by decide) ?_
        refine lv_goto (tgt := 49) hx hb dX8_report_45 (by decide) ?_
        refine lv_istore (lv' := [(4, .int 1), (3, .int x_7), (0, .ref o), (1, .int p1), (2, .int p2)]) hx hb dX8_report_49 hl (by decide) rfl (fun ls hl => ?_)
        refine lv_aload_n hx hb dX8_report_51 rfl (lv_at hl 2 rfl) ?_
        refine lv_iload_n hx hb dX8_report_52 rfl (lv_at hl 3 rfl) ?_
        obtain ⟨r_9, e_10, hf⟩ := xb_some hf
        refine x_callVi (As := [.int p1]) (rest := []) S hK (c_X8_stateOf l G z o M p1 r_9 e_10) gX8_report_X8_stateOf rfl 1 (by decide +kernel) rfl ⟨Nat.le_of_ble_eq_true rfl, Nat.le_of_ble_eq_true rfl⟩ h_md 0 (by decide) rfl rfl rfl h_md hl.1 rfl (Nat.le_of_ble_eq_true rfl) dX8_report_53 hL ⟨Nat.zero_le _, Nat.zero_le _⟩ (fun H1 locs hL hpost => ?_)
        subst hpost
        refine lv_iconst (v := 1) hx hb dX8_report_56 (by decide) ?_
        refine lv_icmp_ne (tgt := 76) hx hb dX8_report_57 (by decide) (fun c_11 => ?_) (fun c_11 => ?_)
        · have hf := (if_neg c_11).symm.trans hf
          refine lv_ldc (v := (-2000000002)) hx hb hown (hts _ (xm 3 rfl)) dX8_report_76 ?_
          obtain ⟨q0, qq0⟩ := Prod.mk.inj (Option.some.inj hf)
          have q1 := qq0
          subst r0
          subst M'
          subst hQ
          refine x_iret (post := (fun H H1 => PX G o 5 (mdE G o) M H1 ∧ XF (fun q => (o ≤ q ∧ q < o + 5)) H H1)) S hr hlocks rfl ?_ hL dX8_report_78
          exact ⟨h_md, hF⟩
        · have hf := (if_pos c_11).symm.trans hf
          refine lv_aload_n hx hb dX8_report_60 rfl (lv_at hl 2 rfl) ?_
          refine lv_iload_n hx hb dX8_report_61 rfl (lv_at hl 1 rfl) ?_
          refine lv_bipush (v := 10) hx hb dX8_report_62 (by decide) ?_
          obtain ⟨r_12, e_13, hf⟩ := xb_some hf
          refine x_callVi (As := [.int x_7, .int 10]) (rest := []) S hK (c_X8_of l G z o M x_7 10 r_12 e_13) gX8_report_X8_of rfl 2 (by decide +kernel) rfl ⟨Nat.le_of_ble_eq_true rfl, Nat.le_of_ble_eq_true rfl⟩ h_md 0 (by decide) rfl rfl rfl h_md hl.1 rfl (Nat.le_of_ble_eq_true rfl) dX8_report_64 hL ⟨Nat.zero_le _, Nat.zero_le _⟩ (fun H1 locs hL hpost => ?_)
          subst hpost
          refine lv_iconst (v := 1) hx hb dX8_report_67 (by decide) ?_
          refine lv_icmp_eq (tgt := 76) hx hb dX8_report_68 (by decide) (fun c_14 => ?_) (fun c_14 => ?_)
          · have hf := (if_pos c_14).symm.trans hf
            refine lv_ldc (v := (-2000000002)) hx hb hown (hts _ (xm 3 rfl)) dX8_report_76 ?_
            obtain ⟨q0, qq0⟩ := Prod.mk.inj (Option.some.inj hf)
            have q1 := qq0
            subst r0
            subst M'
            subst hQ
            refine x_iret (post := (fun H H1 => PX G o 5 (mdE G o) M H1 ∧ XF (fun q => (o ≤ q ∧ q < o + 5)) H H1)) S hr hlocks rfl ?_ hL dX8_report_78
            exact ⟨h_md, hF⟩
          · have hf := (if_neg c_14).symm.trans hf
            refine lv_iload hx hb dX8_report_71 (lv_at hl 0 rfl) ?_
            refine lv_if_ne (tgt := 79) hx hb dX8_report_73 (by decide) (fun _ => ?_) (fun h9 => absurd h9 (by decide))
            refine lv_aload_n hx hb dX8_report_79 rfl (lv_at hl 2 rfl) ?_
            refine lv_iload_n hx hb dX8_report_80 rfl (lv_at hl 1 rfl) ?_
            refine lv_bipush (v := 11) hx hb dX8_report_81 (by decide) ?_
            obtain ⟨r_15, e_16, hf⟩ := xb_some hf
            refine x_callVi (As := [.int x_7, .int 11]) (rest := []) S hK (c_X8_of l G z o M x_7 11 r_15 e_16) gX8_report_X8_of rfl 2 (by decide +kernel) rfl ⟨Nat.le_of_ble_eq_true rfl, Nat.le_of_ble_eq_true rfl⟩ h_md 0 (by decide) rfl rfl rfl h_md hl.1 rfl (Nat.le_of_ble_eq_true rfl) dX8_report_83 hL ⟨Nat.zero_le _, Nat.zero_le _⟩ (fun H1 locs hL hpost => ?_)
            subst hpost
            refine lv_istore (lv' := [(5, .int r_15), (4, .int 1), (3, .int x_7), (0, .ref o), (1, .int p1), (2, .int p2)]) hx hb dX8_report_86 hl (by decide) rfl (fun ls hl => ?_)
            refine lv_iload hx hb dX8_report_88 (lv_at hl 0 rfl) ?_
            refine lv_bipush (v := 8) hx hb dX8_report_90 (by decide) ?_
            refine lv_icmp_ne (tgt := 98) hx hb dX8_report_92 (by decide) (fun c_17 => ?_) (fun c_17 => ?_)
            · have hf := (if_neg c_17).symm.trans hf
              refine lv_aload_n hx hb dX8_report_98 rfl (lv_at hl 3 rfl) ?_
              obtain ⟨M_18, e_19, hf⟩ := xb_some hf
              refine x_callVv (As := []) (rest := []) S hK (c_X8_save l G z o M M_18 (by omega) e_19) gX8_report_X8_save rfl 0 (by decide +kernel) rfl ⟨Nat.le_of_ble_eq_true rfl, Nat.le_of_ble_eq_true rfl⟩ h_md 0 (by decide) rfl rfl rfl h_md hl.1 rfl (Nat.le_of_ble_eq_true rfl) dX8_report_99 hL ⟨Nat.zero_le _, Nat.zero_le _⟩ (fun H1 locs hL hpost => ?_)
              obtain ⟨n_md, hfr⟩ := hpost
              have h_md := n_md
              have hF := hF.step hfr (fun q h => by (try dsimp only at h ⊢); omega)
              refine lv_aload_n hx hb dX8_report_102 rfl (lv_at hl 3 rfl) ?_
              refine lv_iload_n hx hb dX8_report_103 rfl (lv_at hl 2 rfl) ?_
              refine lv_iload_n hx hb dX8_report_104 rfl (lv_at hl 5 rfl) ?_
              obtain ⟨r_20, e_21, hf⟩ := xb_some hf
              refine x_callVi (As := [.int x_7, .int p2]) (rest := []) S hK (c_X8_costOf l G z o M_18 x_7 p2 r_20 e_21) gX8_report_X8_costOf rfl 2 (by decide +kernel) rfl ⟨Nat.le_of_ble_eq_true rfl, Nat.le_of_ble_eq_true rfl⟩ h_md 0 (by decide) rfl rfl rfl h_md hl.1 rfl (Nat.le_of_ble_eq_true rfl) dX8_report_105 hL ⟨Nat.zero_le _, Nat.zero_le _⟩ (fun H1 locs hL hpost => ?_)
              subst hpost
              refine lv_istore (lv' := [(6, .int r_20), (5, .int r_15), (4, .int 1), (3, .int x_7), (0, .ref o), (1, .int p1), (2, .int p2)]) hx hb dX8_report_108 hl (by decide) rfl (fun ls hl => ?_)
              refine lv_aload_n hx hb dX8_report_110 rfl (lv_at hl 4 rfl) ?_
              refine x_get S hK h_md 0 (by decide) rfl rfl rfl in8 0 (by decide) (xm 5 rfl) (x := .ref (o + 1)) rfl dX8_report_111 ?_
              refine lv_iload_n hx hb dX8_report_114 rfl (lv_at hl 3 rfl) ?_
              refine lv_bipush (v := 32) hx hb dX8_report_115 (by decide) ?_
              refine lv_iconst (v := 4) hx hb dX8_report_117 (by decide) ?_
              refine lv_iload hx hb dX8_report_118 (lv_at hl 1 rfl) ?_
              refine lv_imul hx hb dX8_report_120 ?_
              refine lv_iadd hx hb dX8_report_121 ?_
              obtain ⟨r_22, e_23, hf⟩ := xb_some hf
              refine x_callTi (As := [.int x_7, .int (32 + (4 * r_15))]) (rest := [.ref (o + 1)]) S hK (c_X8_at l G z x_7 (32 + (4 * r_15)) r_22 e_23) gX8_report_X8_at rfl 2 (by decide +kernel) rfl ⟨Nat.le_of_ble_eq_true rfl, Nat.le_of_ble_eq_true rfl⟩ rfl hl.1 rfl (Nat.le_of_ble_eq_true rfl) dX8_report_122 hL ⟨Nat.zero_le _, Nat.zero_le _⟩ (fun H1 locs hL hpost => ?_)
              subst hpost
              refine lv_iload_n hx hb dX8_report_125 rfl (lv_at hl 6 rfl) ?_
              obtain ⟨g_24, hf⟩ := xg_some hf
              obtain ⟨M_25, eM_25, hf⟩ := xl_some hf
              refine x_iast S hK h_md hz_md hL 1 (by decide) rfl rfl r_22.toNatClampNeg rfl g_24 rfl eM_25 dX8_report_126 (fun H1 locs hL h_md hfr => ?_)
              have hF := hF.step hfr (fun q h => by (try dsimp only at h ⊢); omega)
              refine lv_aload_n hx hb dX8_report_127 rfl (lv_at hl 4 rfl) ?_
              refine x_get S hK h_md 0 (by decide) rfl rfl rfl in8 0 (by decide) (xm 5 rfl) (x := .ref (o + 1)) rfl dX8_report_128 ?_
              refine lv_iload_n hx hb dX8_report_131 rfl (lv_at hl 3 rfl) ?_
              refine lv_bipush (v := 32) hx hb dX8_report_132 (by decide) ?_
              refine lv_iconst (v := 4) hx hb dX8_report_134 (by decide) ?_
              refine lv_iload hx hb dX8_report_135 (lv_at hl 1 rfl) ?_
              refine lv_imul hx hb dX8_report_137 ?_
              refine lv_iadd hx hb dX8_report_138 ?_
              refine lv_iconst (v := 1) hx hb dX8_report_139 (by decide) ?_
              refine lv_iadd hx hb dX8_report_140 ?_
              obtain ⟨r_26, e_27, hf⟩ := xb_some hf
              refine x_callTi (As := [.int x_7, .int ((32 + (4 * r_15)) + 1)]) (rest := [.ref (o + 1)]) S hK (c_X8_at l G z x_7 ((32 + (4 * r_15)) + 1) r_26 e_27) gX8_report_X8_at rfl 2 (by decide +kernel) rfl ⟨Nat.le_of_ble_eq_true rfl, Nat.le_of_ble_eq_true rfl⟩ rfl hl.1 rfl (Nat.le_of_ble_eq_true rfl) dX8_report_141 hL ⟨Nat.zero_le _, Nat.zero_le _⟩ (fun H1 locs hL hpost => ?_)
              subst hpost
              refine lv_iload_n hx hb dX8_report_144 rfl (lv_at hl 5 rfl) ?_
              obtain ⟨g_28, hf⟩ := xg_some hf
              obtain ⟨M_29, eM_29, hf⟩ := xl_some hf
              refine x_iast S hK h_md hz_md hL 1 (by decide) rfl rfl r_26.toNatClampNeg rfl g_28 rfl eM_29 dX8_report_145 (fun H1 locs hL h_md hfr => ?_)
              have hF := hF.step hfr (fun q h => by (try dsimp only at h ⊢); omega)
              refine lv_aload_n hx hb dX8_report_146 rfl (lv_at hl 4 rfl) ?_
              refine x_get S hK h_md 0 (by decide) rfl rfl rfl in8 0 (by decide) (xm 5 rfl) (x := .ref (o + 1)) rfl dX8_report_147 ?_
              refine lv_iload_n hx hb dX8_report_150 rfl (lv_at hl 3 rfl) ?_
              refine lv_bipush (v := 32) hx hb dX8_report_151 (by decide) ?_
              refine lv_iconst (v := 4) hx hb dX8_report_153 (by decide) ?_
              refine lv_iload hx hb dX8_report_154 (lv_at hl 1 rfl) ?_
              refine lv_imul hx hb dX8_report_156 ?_
              refine lv_iadd hx hb dX8_report_157 ?_
              refine lv_iconst (v := 2) hx hb dX8_report_158 (by decide) ?_
              refine lv_iadd hx hb dX8_report_159 ?_
              obtain ⟨r_30, e_31, hf⟩ := xb_some hf
              refine x_callTi (As := [.int x_7, .int ((32 + (4 * r_15)) + 2)]) (rest := [.ref (o + 1)]) S hK (c_X8_at l G z x_7 ((32 + (4 * r_15)) + 2) r_30 e_31) gX8_report_X8_at rfl 2 (by decide +kernel) rfl ⟨Nat.le_of_ble_eq_true rfl, Nat.le_of_ble_eq_true rfl⟩ rfl hl.1 rfl (Nat.le_of_ble_eq_true rfl) dX8_report_160 hL ⟨Nat.zero_le _, Nat.zero_le _⟩ (fun H1 locs hL hpost => ?_)
              subst hpost
              refine lv_iload hx hb dX8_report_163 (lv_at hl 0 rfl) ?_
              obtain ⟨g_32, hf⟩ := xg_some hf
              obtain ⟨M_33, eM_33, hf⟩ := xl_some hf
              refine x_iast S hK h_md hz_md hL 1 (by decide) rfl rfl r_30.toNatClampNeg rfl g_32 rfl eM_33 dX8_report_165 (fun H1 locs hL h_md hfr => ?_)
              have hF := hF.step hfr (fun q h => by (try dsimp only at h ⊢); omega)
              refine lv_aload_n hx hb dX8_report_166 rfl (lv_at hl 4 rfl) ?_
              refine x_get S hK h_md 0 (by decide) rfl rfl rfl in8 0 (by decide) (xm 5 rfl) (x := .ref (o + 1)) rfl dX8_report_167 ?_
              refine lv_iload_n hx hb dX8_report_170 rfl (lv_at hl 3 rfl) ?_
              refine lv_bipush (v := 32) hx hb dX8_report_171 (by decide) ?_
              refine lv_iconst (v := 4) hx hb dX8_report_173 (by decide) ?_
              refine lv_iload hx hb dX8_report_174 (lv_at hl 1 rfl) ?_
              refine lv_imul hx hb dX8_report_176 ?_
              refine lv_iadd hx hb dX8_report_177 ?_
              refine lv_iconst (v := 3) hx hb dX8_report_178 (by decide) ?_
              refine lv_iadd hx hb dX8_report_179 ?_
              obtain ⟨r_34, e_35, hf⟩ := xb_some hf
              refine x_callTi (As := [.int x_7, .int ((32 + (4 * r_15)) + 3)]) (rest := [.ref (o + 1)]) S hK (c_X8_at l G z x_7 ((32 + (4 * r_15)) + 3) r_34 e_35) gX8_report_X8_at rfl 2 (by decide +kernel) rfl ⟨Nat.le_of_ble_eq_true rfl, Nat.le_of_ble_eq_true rfl⟩ rfl hl.1 rfl (Nat.le_of_ble_eq_true rfl) dX8_report_180 hL ⟨Nat.zero_le _, Nat.zero_le _⟩ (fun H1 locs hL hpost => ?_)
              subst hpost
              refine lv_aload_n hx hb dX8_report_183 rfl (lv_at hl 4 rfl) ?_
              refine lv_iload_n hx hb dX8_report_184 rfl (lv_at hl 3 rfl) ?_
              refine lv_iload hx hb dX8_report_185 (lv_at hl 0 rfl) ?_
              refine lv_iconst (v := 4) hx hb dX8_report_187 (by decide) ?_
              obtain ⟨r_36, M_37, e_38, hf⟩ := xb2_some hf
              refine x_callVi (As := [.int x_7, .int r_20, .int 4]) (rest := [.int r_34, .ref (o + 1)]) S hK (c_X8_takes l G z o M_33 x_7 r_20 4 r_36 M_37 (by omega) e_38) gX8_report_X8_takes rfl 3 (by decide +kernel) rfl ⟨Nat.le_of_ble_eq_true rfl, Nat.le_of_ble_eq_true rfl⟩ h_md 0 (by decide) rfl rfl rfl h_md hl.1 rfl (Nat.le_of_ble_eq_true rfl) dX8_report_188 hL ⟨Nat.zero_le _, Nat.zero_le _⟩ (fun H1 locs hL hpost => ?_)
              obtain ⟨n_md, hfr⟩ := hpost
              have h_md := n_md
              have hF := hF.step hfr (fun q h => by (try dsimp only at h ⊢); omega)
              obtain ⟨g_39, hf⟩ := xg_some hf
              obtain ⟨M_40, eM_40, hf⟩ := xl_some hf
              refine x_iast S hK h_md hz_md hL 1 (by decide) rfl rfl r_34.toNatClampNeg rfl g_39 rfl eM_40 dX8_report_191 (fun H1 locs hL h_md hfr => ?_)
              have hF := hF.step hfr (fun q h => by (try dsimp only at h ⊢); omega)
              refine lv_aload_n hx hb dX8_report_192 rfl (lv_at hl 4 rfl) ?_
              refine x_get S hK h_md 0 (by decide) rfl rfl rfl in8 0 (by decide) (xm 5 rfl) (x := .ref (o + 1)) rfl dX8_report_193 ?_
              refine lv_iload_n hx hb dX8_report_196 rfl (lv_at hl 3 rfl) ?_
              refine lv_bipush (v := 11) hx hb dX8_report_197 (by decide) ?_
              obtain ⟨r_41, e_42, hf⟩ := xb_some hf
              refine x_callTi (As := [.int x_7, .int 11]) (rest := [.ref (o + 1)]) S hK (c_X8_at l G z x_7 11 r_41 e_42) gX8_report_X8_at rfl 2 (by decide +kernel) rfl ⟨Nat.le_of_ble_eq_true rfl, Nat.le_of_ble_eq_true rfl⟩ rfl hl.1 rfl (Nat.le_of_ble_eq_true rfl) dX8_report_199 hL ⟨Nat.zero_le _, Nat.zero_le _⟩ (fun H1 locs hL hpost => ?_)
              subst hpost
              refine lv_dup2_11 hx hb dX8_report_202 rfl rfl ?_
              obtain ⟨g_43, hf⟩ := xg_some hf
              refine x_iald S hK h_md 1 (by decide) rfl rfl r_41.toNatClampNeg rfl g_43 dX8_report_203 ?_
              refine lv_iconst (v := 1) hx hb dX8_report_204 (by decide) ?_
              refine lv_iadd hx hb dX8_report_205 ?_
              obtain ⟨g_44, hf⟩ := xg_some hf
              obtain ⟨M_45, eM_45, hf⟩ := xl_some hf
              refine x_iast S hK h_md hz_md hL 1 (by decide) rfl rfl r_41.toNatClampNeg rfl g_44 rfl eM_45 dX8_report_206 (fun H1 locs hL h_md hfr => ?_)
              have hF := hF.step hfr (fun q h => by (try dsimp only at h ⊢); omega)
              refine lv_iload hx hb dX8_report_207 (lv_at hl 0 rfl) ?_
              obtain ⟨q0, qq0⟩ := Prod.mk.inj (Option.some.inj hf)
              have q1 := qq0
              subst r0
              subst M'
              subst hQ
              refine x_iret (post := (fun H H1 => PX G o 5 (mdE G o) M_45 H1 ∧ XF (fun q => (o ≤ q ∧ q < o + 5)) H H1)) S hr hlocks rfl ?_ hL dX8_report_209
              exact ⟨h_md, hF⟩
            · have hf := (if_pos c_17).symm.trans hf
              refine lv_ldc (v := (-2000000003)) hx hb hown (hts _ (xm 4 rfl)) dX8_report_95 ?_
              obtain ⟨q0, qq0⟩ := Prod.mk.inj (Option.some.inj hf)
              have q1 := qq0
              subst r0
              subst M'
              subst hQ
              refine x_iret (post := (fun H H1 => PX G o 5 (mdE G o) M H1 ∧ XF (fun q => (o ≤ q ∧ q < o + 5)) H H1)) S hr hlocks rfl ?_ hL dX8_report_97
              exact ⟨h_md, hF⟩
      · have hf := (if_pos c_8).symm.trans hf
        refine lv_aload_n hx hb dX8_report_33 rfl (lv_at hl 1 rfl) ?_
        refine lv_iload_n hx hb dX8_report_34 rfl (lv_at hl 0 rfl) ?_
        refine lv_iconst (v := 1) hx hb dX8_report_35 (by decide) ?_
        obtain ⟨r_46, e_47, hf⟩ := xb_some hf
        refine x_callVi (As := [.int x_7, .int 1]) (rest := []) S hK (c_X8_of l G z o M x_7 1 r_46 e_47) gX8_report_X8_of rfl 2 (by decide +kernel) rfl ⟨Nat.le_of_ble_eq_true rfl, Nat.le_of_ble_eq_true rfl⟩ h_md 0 (by decide) rfl rfl rfl h_md hl.1 rfl (Nat.le_of_ble_eq_true rfl) dX8_report_36 hL ⟨Nat.zero_le _, Nat.zero_le _⟩ (fun H1 locs hL hpost => ?_)
        subst hpost
        refine lv_iconst (v := 2) hx hb dX8_report_39 (by decide) ?_
        refine lv_iand hx hb dX8_report_40 ?_
        refine lv_if_eq (tgt := 48) hx hb dX8_report_41 (by decide) (fun c_48 => ?_) (fun c_48 => ?_)
        · have hf := (if_pos c_48).symm.trans hf
          refine lv_iconst (v := 0) hx hb dX8_report_48 (by decide) ?_
          refine lv_istore (lv' := [(4, .int 0), (3, .int x_7), (0, .ref o), (1, .int p1), (2, .int p2)]) hx hb dX8_report_49 hl (by decide) rfl (fun ls hl => ?_)
          refine lv_aload_n hx hb dX8_report_51 rfl (lv_at hl 2 rfl) ?_
          refine lv_iload_n hx hb dX8_report_52 rfl (lv_at hl 3 rfl) ?_
          obtain ⟨r_49, e_50, hf⟩ := xb_some hf
          refine x_callVi (As := [.int p1]) (rest := []) S hK (c_X8_stateOf l G z o M p1 r_49 e_50) gX8_report_X8_stateOf rfl 1 (by decide +kernel) rfl ⟨Nat.le_of_ble_eq_true rfl, Nat.le_of_ble_eq_true rfl⟩ h_md 0 (by decide) rfl rfl rfl h_md hl.1 rfl (Nat.le_of_ble_eq_true rfl) dX8_report_53 hL ⟨Nat.zero_le _, Nat.zero_le _⟩ (fun H1 locs hL hpost => ?_)
          subst hpost
          refine lv_iconst (v := 1) hx hb dX8_report_56 (by decide) ?_
          refine lv_icmp_ne (tgt := 76) hx hb dX8_report_57 (by decide) (fun c_51 => ?_) (fun c_51 => ?_)
          · have hf := (if_neg c_51).symm.trans hf
            refine lv_ldc (v := (-2000000002)) hx hb hown (hts _ (xm 3 rfl)) dX8_report_76 ?_
            obtain ⟨q0, qq0⟩ := Prod.mk.inj (Option.some.inj hf)
            have q1 := qq0
            subst r0
            subst M'
            subst hQ
            refine x_iret (post := (fun H H1 => PX G o 5 (mdE G o) M H1 ∧ XF (fun q => (o ≤ q ∧ q < o + 5)) H H1)) S hr hlocks rfl ?_ hL dX8_report_78
            exact ⟨h_md, hF⟩
          · have hf := (if_pos c_51).symm.trans hf
            refine lv_aload_n hx hb dX8_report_60 rfl (lv_at hl 2 rfl) ?_
            refine lv_iload_n hx hb dX8_report_61 rfl (lv_at hl 1 rfl) ?_
            refine lv_bipush (v := 10) hx hb dX8_report_62 (by decide) ?_
            obtain ⟨r_52, e_53, hf⟩ := xb_some hf
            refine x_callVi (As := [.int x_7, .int 10]) (rest := []) S hK (c_X8_of l G z o M x_7 10 r_52 e_53) gX8_report_X8_of rfl 2 (by decide +kernel) rfl ⟨Nat.le_of_ble_eq_true rfl, Nat.le_of_ble_eq_true rfl⟩ h_md 0 (by decide) rfl rfl rfl h_md hl.1 rfl (Nat.le_of_ble_eq_true rfl) dX8_report_64 hL ⟨Nat.zero_le _, Nat.zero_le _⟩ (fun H1 locs hL hpost => ?_)
            subst hpost
            refine lv_iconst (v := 1) hx hb dX8_report_67 (by decide) ?_
            refine lv_icmp_eq (tgt := 76) hx hb dX8_report_68 (by decide) (fun c_54 => ?_) (fun c_54 => ?_)
            · have hf := (if_pos c_54).symm.trans hf
              refine lv_ldc (v := (-2000000002)) hx hb hown (hts _ (xm 3 rfl)) dX8_report_76 ?_
              obtain ⟨q0, qq0⟩ := Prod.mk.inj (Option.some.inj hf)
              have q1 := qq0
              subst r0
              subst M'
              subst hQ
              refine x_iret (post := (fun H H1 => PX G o 5 (mdE G o) M H1 ∧ XF (fun q => (o ≤ q ∧ q < o + 5)) H H1)) S hr hlocks rfl ?_ hL dX8_report_78
              exact ⟨h_md, hF⟩
            · have hf := (if_neg c_54).symm.trans hf
              refine lv_iload hx hb dX8_report_71 (lv_at hl 0 rfl) ?_
              refine lv_if_ne (tgt := 79) hx hb dX8_report_73 (by decide) (fun h9 => absurd h9 (by decide)) (fun _ => ?_)
              refine lv_ldc (v := (-2000000002)) hx hb hown (hts _ (xm 3 rfl)) dX8_report_76 ?_
              obtain ⟨q0, qq0⟩ := Prod.mk.inj (Option.some.inj hf)
              have q1 := qq0
              subst r0
              subst M'
              subst hQ
              refine x_iret (post := (fun H H1 => PX G o 5 (mdE G o) M H1 ∧ XF (fun q => (o ≤ q ∧ q < o + 5)) H H1)) S hr hlocks rfl ?_ hL dX8_report_78
              exact ⟨h_md, hF⟩
        · have hf := (if_neg c_48).symm.trans hf
          refine lv_iconst (v := 1) hx hb dX8_report_44 (by decide) ?_
          refine lv_goto (tgt := 49) hx hb dX8_report_45 (by decide) ?_
          refine lv_istore (lv' := [(4, .int 1), (3, .int x_7), (0, .ref o), (1, .int p1), (2, .int p2)]) hx hb dX8_report_49 hl (by decide) rfl (fun ls hl => ?_)
          refine lv_aload_n hx hb dX8_report_51 rfl (lv_at hl 2 rfl) ?_
          refine lv_iload_n hx hb dX8_report_52 rfl (lv_at hl 3 rfl) ?_
          obtain ⟨r_55, e_56, hf⟩ := xb_some hf
          refine x_callVi (As := [.int p1]) (rest := []) S hK (c_X8_stateOf l G z o M p1 r_55 e_56) gX8_report_X8_stateOf rfl 1 (by decide +kernel) rfl ⟨Nat.le_of_ble_eq_true rfl, Nat.le_of_ble_eq_true rfl⟩ h_md 0 (by decide) rfl rfl rfl h_md hl.1 rfl (Nat.le_of_ble_eq_true rfl) dX8_report_53 hL ⟨Nat.zero_le _, Nat.zero_le _⟩ (fun H1 locs hL hpost => ?_)
          subst hpost
          refine lv_iconst (v := 1) hx hb dX8_report_56 (by decide) ?_
          refine lv_icmp_ne (tgt := 76) hx hb dX8_report_57 (by decide) (fun c_57 => ?_) (fun c_57 => ?_)
          · have hf := (if_neg c_57).symm.trans hf
            refine lv_ldc (v := (-2000000002)) hx hb hown (hts _ (xm 3 rfl)) dX8_report_76 ?_
            obtain ⟨q0, qq0⟩ := Prod.mk.inj (Option.some.inj hf)
            have q1 := qq0
            subst r0
            subst M'
            subst hQ
            refine x_iret (post := (fun H H1 => PX G o 5 (mdE G o) M H1 ∧ XF (fun q => (o ≤ q ∧ q < o + 5)) H H1)) S hr hlocks rfl ?_ hL dX8_report_78
            exact ⟨h_md, hF⟩
          · have hf := (if_pos c_57).symm.trans hf
            refine lv_aload_n hx hb dX8_report_60 rfl (lv_at hl 2 rfl) ?_
            refine lv_iload_n hx hb dX8_report_61 rfl (lv_at hl 1 rfl) ?_
            refine lv_bipush (v := 10) hx hb dX8_report_62 (by decide) ?_
            obtain ⟨r_58, e_59, hf⟩ := xb_some hf
            refine x_callVi (As := [.int x_7, .int 10]) (rest := []) S hK (c_X8_of l G z o M x_7 10 r_58 e_59) gX8_report_X8_of rfl 2 (by decide +kernel) rfl ⟨Nat.le_of_ble_eq_true rfl, Nat.le_of_ble_eq_true rfl⟩ h_md 0 (by decide) rfl rfl rfl h_md hl.1 rfl (Nat.le_of_ble_eq_true rfl) dX8_report_64 hL ⟨Nat.zero_le _, Nat.zero_le _⟩ (fun H1 locs hL hpost => ?_)
            subst hpost
            refine lv_iconst (v := 1) hx hb dX8_report_67 (by decide) ?_
            refine lv_icmp_eq (tgt := 76) hx hb dX8_report_68 (by decide) (fun c_60 => ?_) (fun c_60 => ?_)
            · have hf := (if_pos c_60).symm.trans hf
              refine lv_ldc (v := (-2000000002)) hx hb hown (hts _ (xm 3 rfl)) dX8_report_76 ?_
              obtain ⟨q0, qq0⟩ := Prod.mk.inj (Option.some.inj hf)
              have q1 := qq0
              subst r0
              subst M'
              subst hQ
              refine x_iret (post := (fun H H1 => PX G o 5 (mdE G o) M H1 ∧ XF (fun q => (o ≤ q ∧ q < o + 5)) H H1)) S hr hlocks rfl ?_ hL dX8_report_78
              exact ⟨h_md, hF⟩
            · have hf := (if_neg c_60).symm.trans hf
              refine lv_iload hx hb dX8_report_71 (lv_at hl 0 rfl) ?_
              refine lv_if_ne (tgt := 79) hx hb dX8_report_73 (by decide) (fun _ => ?_) (fun h9 => absurd h9 (by decide))
              refine lv_aload_n hx hb dX8_report_79 rfl (lv_at hl 2 rfl) ?_
              refine lv_iload_n hx hb dX8_report_80 rfl (lv_at hl 1 rfl) ?_
              refine lv_bipush (v := 11) hx hb dX8_report_81 (by decide) ?_
              obtain ⟨r_61, e_62, hf⟩ := xb_some hf
              refine x_callVi (As := [.int x_7, .int 11]) (rest := []) S hK (c_X8_of l G z o M x_7 11 r_61 e_62) gX8_report_X8_of rfl 2 (by decide +kernel) rfl ⟨Nat.le_of_ble_eq_true rfl, Nat.le_of_ble_eq_true rfl⟩ h_md 0 (by decide) rfl rfl rfl h_md hl.1 rfl (Nat.le_of_ble_eq_true rfl) dX8_report_83 hL ⟨Nat.zero_le _, Nat.zero_le _⟩ (fun H1 locs hL hpost => ?_)
              subst hpost
              refine lv_istore (lv' := [(5, .int r_61), (4, .int 1), (3, .int x_7), (0, .ref o), (1, .int p1), (2, .int p2)]) hx hb dX8_report_86 hl (by decide) rfl (fun ls hl => ?_)
              refine lv_iload hx hb dX8_report_88 (lv_at hl 0 rfl) ?_
              refine lv_bipush (v := 8) hx hb dX8_report_90 (by decide) ?_
              refine lv_icmp_ne (tgt := 98) hx hb dX8_report_92 (by decide) (fun c_63 => ?_) (fun c_63 => ?_)
              · have hf := (if_neg c_63).symm.trans hf
                refine lv_aload_n hx hb dX8_report_98 rfl (lv_at hl 3 rfl) ?_
                obtain ⟨M_64, e_65, hf⟩ := xb_some hf
                refine x_callVv (As := []) (rest := []) S hK (c_X8_save l G z o M M_64 (by omega) e_65) gX8_report_X8_save rfl 0 (by decide +kernel) rfl ⟨Nat.le_of_ble_eq_true rfl, Nat.le_of_ble_eq_true rfl⟩ h_md 0 (by decide) rfl rfl rfl h_md hl.1 rfl (Nat.le_of_ble_eq_true rfl) dX8_report_99 hL ⟨Nat.zero_le _, Nat.zero_le _⟩ (fun H1 locs hL hpost => ?_)
                obtain ⟨n_md, hfr⟩ := hpost
                have h_md := n_md
                have hF := hF.step hfr (fun q h => by (try dsimp only at h ⊢); omega)
                refine lv_aload_n hx hb dX8_report_102 rfl (lv_at hl 3 rfl) ?_
                refine lv_iload_n hx hb dX8_report_103 rfl (lv_at hl 2 rfl) ?_
                refine lv_iload_n hx hb dX8_report_104 rfl (lv_at hl 5 rfl) ?_
                obtain ⟨r_66, e_67, hf⟩ := xb_some hf
                refine x_callVi (As := [.int x_7, .int p2]) (rest := []) S hK (c_X8_costOf l G z o M_64 x_7 p2 r_66 e_67) gX8_report_X8_costOf rfl 2 (by decide +kernel) rfl ⟨Nat.le_of_ble_eq_true rfl, Nat.le_of_ble_eq_true rfl⟩ h_md 0 (by decide) rfl rfl rfl h_md hl.1 rfl (Nat.le_of_ble_eq_true rfl) dX8_report_105 hL ⟨Nat.zero_le _, Nat.zero_le _⟩ (fun H1 locs hL hpost => ?_)
                subst hpost
                refine lv_istore (lv' := [(6, .int r_66), (5, .int r_61), (4, .int 1), (3, .int x_7), (0, .ref o), (1, .int p1), (2, .int p2)]) hx hb dX8_report_108 hl (by decide) rfl (fun ls hl => ?_)
                refine lv_aload_n hx hb dX8_report_110 rfl (lv_at hl 4 rfl) ?_
                refine x_get S hK h_md 0 (by decide) rfl rfl rfl in8 0 (by decide) (xm 5 rfl) (x := .ref (o + 1)) rfl dX8_report_111 ?_
                refine lv_iload_n hx hb dX8_report_114 rfl (lv_at hl 3 rfl) ?_
                refine lv_bipush (v := 32) hx hb dX8_report_115 (by decide) ?_
                refine lv_iconst (v := 4) hx hb dX8_report_117 (by decide) ?_
                refine lv_iload hx hb dX8_report_118 (lv_at hl 1 rfl) ?_
                refine lv_imul hx hb dX8_report_120 ?_
                refine lv_iadd hx hb dX8_report_121 ?_
                obtain ⟨r_68, e_69, hf⟩ := xb_some hf
                refine x_callTi (As := [.int x_7, .int (32 + (4 * r_61))]) (rest := [.ref (o + 1)]) S hK (c_X8_at l G z x_7 (32 + (4 * r_61)) r_68 e_69) gX8_report_X8_at rfl 2 (by decide +kernel) rfl ⟨Nat.le_of_ble_eq_true rfl, Nat.le_of_ble_eq_true rfl⟩ rfl hl.1 rfl (Nat.le_of_ble_eq_true rfl) dX8_report_122 hL ⟨Nat.zero_le _, Nat.zero_le _⟩ (fun H1 locs hL hpost => ?_)
                subst hpost
                refine lv_iload_n hx hb dX8_report_125 rfl (lv_at hl 6 rfl) ?_
                obtain ⟨g_70, hf⟩ := xg_some hf
                obtain ⟨M_71, eM_71, hf⟩ := xl_some hf
                refine x_iast S hK h_md hz_md hL 1 (by decide) rfl rfl r_68.toNatClampNeg rfl g_70 rfl eM_71 dX8_report_126 (fun H1 locs hL h_md hfr => ?_)
                have hF := hF.step hfr (fun q h => by (try dsimp only at h ⊢); omega)
                refine lv_aload_n hx hb dX8_report_127 rfl (lv_at hl 4 rfl) ?_
                refine x_get S hK h_md 0 (by decide) rfl rfl rfl in8 0 (by decide) (xm 5 rfl) (x := .ref (o + 1)) rfl dX8_report_128 ?_
                refine lv_iload_n hx hb dX8_report_131 rfl (lv_at hl 3 rfl) ?_
                refine lv_bipush (v := 32) hx hb dX8_report_132 (by decide) ?_
                refine lv_iconst (v := 4) hx hb dX8_report_134 (by decide) ?_
                refine lv_iload hx hb dX8_report_135 (lv_at hl 1 rfl) ?_
                refine lv_imul hx hb dX8_report_137 ?_
                refine lv_iadd hx hb dX8_report_138 ?_
                refine lv_iconst (v := 1) hx hb dX8_report_139 (by decide) ?_
                refine lv_iadd hx hb dX8_report_140 ?_
                obtain ⟨r_72, e_73, hf⟩ := xb_some hf
                refine x_callTi (As := [.int x_7, .int ((32 + (4 * r_61)) + 1)]) (rest := [.ref (o + 1)]) S hK (c_X8_at l G z x_7 ((32 + (4 * r_61)) + 1) r_72 e_73) gX8_report_X8_at rfl 2 (by decide +kernel) rfl ⟨Nat.le_of_ble_eq_true rfl, Nat.le_of_ble_eq_true rfl⟩ rfl hl.1 rfl (Nat.le_of_ble_eq_true rfl) dX8_report_141 hL ⟨Nat.zero_le _, Nat.zero_le _⟩ (fun H1 locs hL hpost => ?_)
                subst hpost
                refine lv_iload_n hx hb dX8_report_144 rfl (lv_at hl 5 rfl) ?_
                obtain ⟨g_74, hf⟩ := xg_some hf
                obtain ⟨M_75, eM_75, hf⟩ := xl_some hf
                refine x_iast S hK h_md hz_md hL 1 (by decide) rfl rfl r_72.toNatClampNeg rfl g_74 rfl eM_75 dX8_report_145 (fun H1 locs hL h_md hfr => ?_)
                have hF := hF.step hfr (fun q h => by (try dsimp only at h ⊢); omega)
                refine lv_aload_n hx hb dX8_report_146 rfl (lv_at hl 4 rfl) ?_
                refine x_get S hK h_md 0 (by decide) rfl rfl rfl in8 0 (by decide) (xm 5 rfl) (x := .ref (o + 1)) rfl dX8_report_147 ?_
                refine lv_iload_n hx hb dX8_report_150 rfl (lv_at hl 3 rfl) ?_
                refine lv_bipush (v := 32) hx hb dX8_report_151 (by decide) ?_
                refine lv_iconst (v := 4) hx hb dX8_report_153 (by decide) ?_
                refine lv_iload hx hb dX8_report_154 (lv_at hl 1 rfl) ?_
                refine lv_imul hx hb dX8_report_156 ?_
                refine lv_iadd hx hb dX8_report_157 ?_
                refine lv_iconst (v := 2) hx hb dX8_report_158 (by decide) ?_
                refine lv_iadd hx hb dX8_report_159 ?_
                obtain ⟨r_76, e_77, hf⟩ := xb_some hf
                refine x_callTi (As := [.int x_7, .int ((32 + (4 * r_61)) + 2)]) (rest := [.ref (o + 1)]) S hK (c_X8_at l G z x_7 ((32 + (4 * r_61)) + 2) r_76 e_77) gX8_report_X8_at rfl 2 (by decide +kernel) rfl ⟨Nat.le_of_ble_eq_true rfl, Nat.le_of_ble_eq_true rfl⟩ rfl hl.1 rfl (Nat.le_of_ble_eq_true rfl) dX8_report_160 hL ⟨Nat.zero_le _, Nat.zero_le _⟩ (fun H1 locs hL hpost => ?_)
                subst hpost
                refine lv_iload hx hb dX8_report_163 (lv_at hl 0 rfl) ?_
                obtain ⟨g_78, hf⟩ := xg_some hf
                obtain ⟨M_79, eM_79, hf⟩ := xl_some hf
                refine x_iast S hK h_md hz_md hL 1 (by decide) rfl rfl r_76.toNatClampNeg rfl g_78 rfl eM_79 dX8_report_165 (fun H1 locs hL h_md hfr => ?_)
                have hF := hF.step hfr (fun q h => by (try dsimp only at h ⊢); omega)
                refine lv_aload_n hx hb dX8_report_166 rfl (lv_at hl 4 rfl) ?_
                refine x_get S hK h_md 0 (by decide) rfl rfl rfl in8 0 (by decide) (xm 5 rfl) (x := .ref (o + 1)) rfl dX8_report_167 ?_
                refine lv_iload_n hx hb dX8_report_170 rfl (lv_at hl 3 rfl) ?_
                refine lv_bipush (v := 32) hx hb dX8_report_171 (by decide) ?_
                refine lv_iconst (v := 4) hx hb dX8_report_173 (by decide) ?_
                refine lv_iload hx hb dX8_report_174 (lv_at hl 1 rfl) ?_
                refine lv_imul hx hb dX8_report_176 ?_
                refine lv_iadd hx hb dX8_report_177 ?_
                refine lv_iconst (v := 3) hx hb dX8_report_178 (by decide) ?_
                refine lv_iadd hx hb dX8_report_179 ?_
                obtain ⟨r_80, e_81, hf⟩ := xb_some hf
                refine x_callTi (As := [.int x_7, .int ((32 + (4 * r_61)) + 3)]) (rest := [.ref (o + 1)]) S hK (c_X8_at l G z x_7 ((32 + (4 * r_61)) + 3) r_80 e_81) gX8_report_X8_at rfl 2 (by decide +kernel) rfl ⟨Nat.le_of_ble_eq_true rfl, Nat.le_of_ble_eq_true rfl⟩ rfl hl.1 rfl (Nat.le_of_ble_eq_true rfl) dX8_report_180 hL ⟨Nat.zero_le _, Nat.zero_le _⟩ (fun H1 locs hL hpost => ?_)
                subst hpost
                refine lv_aload_n hx hb dX8_report_183 rfl (lv_at hl 4 rfl) ?_
                refine lv_iload_n hx hb dX8_report_184 rfl (lv_at hl 3 rfl) ?_
                refine lv_iload hx hb dX8_report_185 (lv_at hl 0 rfl) ?_
                refine lv_iconst (v := 4) hx hb dX8_report_187 (by decide) ?_
                obtain ⟨r_82, M_83, e_84, hf⟩ := xb2_some hf
                refine x_callVi (As := [.int x_7, .int r_66, .int 4]) (rest := [.int r_80, .ref (o + 1)]) S hK (c_X8_takes l G z o M_79 x_7 r_66 4 r_82 M_83 (by omega) e_84) gX8_report_X8_takes rfl 3 (by decide +kernel) rfl ⟨Nat.le_of_ble_eq_true rfl, Nat.le_of_ble_eq_true rfl⟩ h_md 0 (by decide) rfl rfl rfl h_md hl.1 rfl (Nat.le_of_ble_eq_true rfl) dX8_report_188 hL ⟨Nat.zero_le _, Nat.zero_le _⟩ (fun H1 locs hL hpost => ?_)
                obtain ⟨n_md, hfr⟩ := hpost
                have h_md := n_md
                have hF := hF.step hfr (fun q h => by (try dsimp only at h ⊢); omega)
                obtain ⟨g_85, hf⟩ := xg_some hf
                obtain ⟨M_86, eM_86, hf⟩ := xl_some hf
                refine x_iast S hK h_md hz_md hL 1 (by decide) rfl rfl r_80.toNatClampNeg rfl g_85 rfl eM_86 dX8_report_191 (fun H1 locs hL h_md hfr => ?_)
                have hF := hF.step hfr (fun q h => by (try dsimp only at h ⊢); omega)
                refine lv_aload_n hx hb dX8_report_192 rfl (lv_at hl 4 rfl) ?_
                refine x_get S hK h_md 0 (by decide) rfl rfl rfl in8 0 (by decide) (xm 5 rfl) (x := .ref (o + 1)) rfl dX8_report_193 ?_
                refine lv_iload_n hx hb dX8_report_196 rfl (lv_at hl 3 rfl) ?_
                refine lv_bipush (v := 11) hx hb dX8_report_197 (by decide) ?_
                obtain ⟨r_87, e_88, hf⟩ := xb_some hf
                refine x_callTi (As := [.int x_7, .int 11]) (rest := [.ref (o + 1)]) S hK (c_X8_at l G z x_7 11 r_87 e_88) gX8_report_X8_at rfl 2 (by decide +kernel) rfl ⟨Nat.le_of_ble_eq_true rfl, Nat.le_of_ble_eq_true rfl⟩ rfl hl.1 rfl (Nat.le_of_ble_eq_true rfl) dX8_report_199 hL ⟨Nat.zero_le _, Nat.zero_le _⟩ (fun H1 locs hL hpost => ?_)
                subst hpost
                refine lv_dup2_11 hx hb dX8_report_202 rfl rfl ?_
                obtain ⟨g_89, hf⟩ := xg_some hf
                refine x_iald S hK h_md 1 (by decide) rfl rfl r_87.toNatClampNeg rfl g_89 dX8_report_203 ?_
                refine lv_iconst (v := 1) hx hb dX8_report_204 (by decide) ?_
                refine lv_iadd hx hb dX8_report_205 ?_
                obtain ⟨g_90, hf⟩ := xg_some hf
                obtain ⟨M_91, eM_91, hf⟩ := xl_some hf
                refine x_iast S hK h_md hz_md hL 1 (by decide) rfl rfl r_87.toNatClampNeg rfl g_90 rfl eM_91 dX8_report_206 (fun H1 locs hL h_md hfr => ?_)
                have hF := hF.step hfr (fun q h => by (try dsimp only at h ⊢); omega)
                refine lv_iload hx hb dX8_report_207 (lv_at hl 0 rfl) ?_
                obtain ⟨q0, qq0⟩ := Prod.mk.inj (Option.some.inj hf)
                have q1 := qq0
                subst r0
                subst M'
                subst hQ
                refine x_iret (post := (fun H H1 => PX G o 5 (mdE G o) M_91 H1 ∧ XF (fun q => (o ≤ q ∧ q < o + 5)) H H1)) S hr hlocks rfl ?_ hL dX8_report_209
                exact ⟨h_md, hF⟩
              · have hf := (if_pos c_63).symm.trans hf
                refine lv_ldc (v := (-2000000003)) hx hb hown (hts _ (xm 4 rfl)) dX8_report_95 ?_
                obtain ⟨q0, qq0⟩ := Prod.mk.inj (Option.some.inj hf)
                have q1 := qq0
                subst r0
                subst M'
                subst hQ
                refine x_iret (post := (fun H H1 => PX G o 5 (mdE G o) M H1 ∧ XF (fun q => (o ≤ q ∧ q < o + 5)) H H1)) S hr hlocks rfl ?_ hL dX8_report_97
                exact ⟨h_md, hF⟩
    · have hf := (if_pos c_6).symm.trans hf
      refine lv_ldc (v := (-2000000001)) hx hb hown (hts _ (xm 2 rfl)) dX8_report_20 ?_
      obtain ⟨q0, qq0⟩ := Prod.mk.inj (Option.some.inj hf)
      have q1 := qq0
      subst r0
      subst M'
      subst hQ
      refine x_iret (post := (fun H H1 => PX G o 5 (mdE G o) M H1 ∧ XF (fun q => (o ≤ q ∧ q < o + 5)) H H1)) S hr hlocks rfl ?_ hL dX8_report_22
      exact ⟨h_md, hF⟩
set_option maxRecDepth 100000 in
set_option maxHeartbeats 4000000 in
theorem c_X8_session (l : Launch) (G : xG) (z : Nat) (o : Nat) (M : xV) (p1 : Int32) (p2 : Int32) (r0 : Int32)  (hf : f_X8_session M p1 p2 = some r0) : xM l yX8_session wsX8_session 4 89 G z [.ref o, .int p1, .int p2] (fun H => PX G o 5 (mdE G o) M H) (some (.int r0)) (fun H H1 => H1 = H) := by
  refine xM.of (cc := cX8_session) (maxL := 3) (ret := (some .int)) (by decide +kernel) rfl (Nat.le_of_ble_eq_true rfl) ?_
  intro p e s m args below meth c ls Q hQ S hr hlocks hK hP hl
  obtain ⟨hx, hb, hml, hown, hts⟩ := id S
  have h_md := hP
  have hL : ∀ q ∈ ([] : List Loc), z ≤ q.base := fun q h => absurd h List.not_mem_nil
  have hl : lv_has ls 3 [(0, .ref o), (1, .int p1), (2, .int p2)] := hl
  unfold f_X8_session at hf
  refine lv_aload_n hx hb dX8_session_0 rfl (lv_at hl 0 rfl) ?_
  refine lv_iload_n hx hb dX8_session_1 rfl (lv_at hl 1 rfl) ?_
  obtain ⟨r_1, e_2, hf⟩ := xb_some hf
  refine x_callVi (As := [.int p1]) (rest := []) S hK (c_X8_isSession l G z o M p1 r_1 e_2) gX8_session_X8_isSession rfl 1 (by decide +kernel) rfl ⟨Nat.le_of_ble_eq_true rfl, Nat.le_of_ble_eq_true rfl⟩ h_md 0 (by decide) rfl rfl rfl h_md hl.1 rfl (Nat.le_of_ble_eq_true rfl) dX8_session_2 hL ⟨Nat.zero_le _, Nat.zero_le _⟩ (fun H1 locs hL hpost => ?_)
  subst hpost
  refine lv_if_eq (tgt := 20) hx hb dX8_session_5 (by decide) (fun c_3 => ?_) (fun c_3 => ?_)
  · have hf := (if_pos c_3).symm.trans hf
    refine lv_ldc (v := (-2000000001)) hx hb hown (hts _ (xm 2 rfl)) dX8_session_20 ?_
    have q0 := Option.some.inj hf
    subst r0
    subst hQ
    refine x_iret (post := (fun H H1 => H1 = H)) S hr hlocks rfl ?_ hL dX8_session_22
    exact rfl
  · have hf := (if_neg c_3).symm.trans hf
    refine lv_iload_n hx hb dX8_session_8 rfl (lv_at hl 2 rfl) ?_
    refine lv_i2l (v := p2.toInt64) hx hb dX8_session_9 rfl ?_
    refine lv_lconst (v := 0) hx hb dX8_session_10 (by decide) ?_
    refine lv_ldc2 (v := 3) hx hb hown (hts _ (xm 1 rfl)) dX8_session_11 ?_
    obtain ⟨r_4, e_5, hf⟩ := xb_some hf
    refine x_callTi (As := [.long (p2.toInt64), .long 0, .long 3]) (rest := []) S hK (c_X8_in l G z (p2.toInt64) 0 3 r_4 e_5) gX8_session_X8_in rfl 3 (by decide +kernel) rfl ⟨Nat.le_of_ble_eq_true rfl, Nat.le_of_ble_eq_true rfl⟩ rfl hl.1 rfl (Nat.le_of_ble_eq_true rfl) dX8_session_14 hL ⟨Nat.zero_le _, Nat.zero_le _⟩ (fun H1 locs hL hpost => ?_)
    subst hpost
    refine lv_if_ne (tgt := 23) hx hb dX8_session_17 (by decide) (fun c_6 => ?_) (fun c_6 => ?_)
    · have hf := (if_neg c_6).symm.trans hf
      refine lv_iload_n hx hb dX8_session_23 rfl (lv_at hl 2 rfl) ?_
      refine lv_iconst (v := 3) hx hb dX8_session_24 (by decide) ?_
      refine lv_icmp_ne (tgt := 47) hx hb dX8_session_25 (by decide) (fun c_7 => ?_) (fun c_7 => ?_)
      · have hf := (if_neg c_7).symm.trans hf
        refine lv_iload_n hx hb dX8_session_47 rfl (lv_at hl 2 rfl) ?_
        refine lv_if_ne (tgt := 59) hx hb dX8_session_48 (by decide) (fun c_8 => ?_) (fun c_8 => ?_)
        · have hf := (if_neg c_8).symm.trans hf
          refine lv_iload_n hx hb dX8_session_59 rfl (lv_at hl 2 rfl) ?_
          refine lv_iconst (v := 1) hx hb dX8_session_60 (by decide) ?_
          refine lv_icmp_ne (tgt := 72) hx hb dX8_session_61 (by decide) (fun c_9 => ?_) (fun c_9 => ?_)
          · have hf := (if_neg c_9).symm.trans hf
            refine lv_aload_n hx hb dX8_session_72 rfl (lv_at hl 0 rfl) ?_
            refine lv_iload_n hx hb dX8_session_73 rfl (lv_at hl 1 rfl) ?_
            obtain ⟨r_10, e_11, hf⟩ := xb_some hf
            refine x_callVi (As := [.int p1]) (rest := []) S hK (c_X8_shareOf l G z o M p1 r_10 e_11) gX8_session_X8_shareOf rfl 1 (by decide +kernel) rfl ⟨Nat.le_of_ble_eq_true rfl, Nat.le_of_ble_eq_true rfl⟩ h_md 0 (by decide) rfl rfl rfl h_md hl.1 rfl (Nat.le_of_ble_eq_true rfl) dX8_session_74 hL ⟨Nat.zero_le _, Nat.zero_le _⟩ (fun H1 locs hL hpost => ?_)
            subst hpost
            have q0 := Option.some.inj hf
            subst r0
            subst hQ
            refine x_iret (post := (fun H H1 => H1 = H)) S hr hlocks rfl ?_ hL dX8_session_77
            exact rfl
          · have hf := (if_pos c_9).symm.trans hf
            refine lv_aload_n hx hb dX8_session_64 rfl (lv_at hl 0 rfl) ?_
            refine lv_iload_n hx hb dX8_session_65 rfl (lv_at hl 1 rfl) ?_
            obtain ⟨r_12, e_13, hf⟩ := xb_some hf
            refine x_callVi (As := [.int p1]) (rest := []) S hK (c_X8_stateOf l G z o M p1 r_12 e_13) gX8_session_X8_stateOf rfl 1 (by decide +kernel) rfl ⟨Nat.le_of_ble_eq_true rfl, Nat.le_of_ble_eq_true rfl⟩ h_md 0 (by decide) rfl rfl rfl h_md hl.1 rfl (Nat.le_of_ble_eq_true rfl) dX8_session_66 hL ⟨Nat.zero_le _, Nat.zero_le _⟩ (fun H1 locs hL hpost => ?_)
            subst hpost
            refine lv_goto (tgt := 77) hx hb dX8_session_69 (by decide) ?_
            have q0 := Option.some.inj hf
            subst r0
            subst hQ
            refine x_iret (post := (fun H H1 => H1 = H)) S hr hlocks rfl ?_ hL dX8_session_77
            exact rfl
        · have hf := (if_pos c_8).symm.trans hf
          refine lv_aload_n hx hb dX8_session_51 rfl (lv_at hl 0 rfl) ?_
          refine lv_iload_n hx hb dX8_session_52 rfl (lv_at hl 1 rfl) ?_
          obtain ⟨r_14, e_15, hf⟩ := xb_some hf
          refine x_callVi (As := [.int p1]) (rest := []) S hK (c_X8_dayOf l G z o M p1 r_14 e_15) gX8_session_X8_dayOf rfl 1 (by decide +kernel) rfl ⟨Nat.le_of_ble_eq_true rfl, Nat.le_of_ble_eq_true rfl⟩ h_md 0 (by decide) rfl rfl rfl h_md hl.1 rfl (Nat.le_of_ble_eq_true rfl) dX8_session_53 hL ⟨Nat.zero_le _, Nat.zero_le _⟩ (fun H1 locs hL hpost => ?_)
          subst hpost
          refine lv_goto (tgt := 77) hx hb dX8_session_56 (by decide) ?_
          have q0 := Option.some.inj hf
          subst r0
          subst hQ
          refine x_iret (post := (fun H H1 => H1 = H)) S hr hlocks rfl ?_ hL dX8_session_77
          exact rfl
      · have hf := (if_pos c_7).symm.trans hf
        refine lv_aload_n hx hb dX8_session_28 rfl (lv_at hl 0 rfl) ?_
        refine lv_iload_n hx hb dX8_session_29 rfl (lv_at hl 1 rfl) ?_
        obtain ⟨r_16, e_17, hf⟩ := xb_some hf
        refine x_callVi (As := [.int p1]) (rest := []) S hK (c_X8_stateOf l G z o M p1 r_16 e_17) gX8_session_X8_stateOf rfl 1 (by decide +kernel) rfl ⟨Nat.le_of_ble_eq_true rfl, Nat.le_of_ble_eq_true rfl⟩ h_md 0 (by decide) rfl rfl rfl h_md hl.1 rfl (Nat.le_of_ble_eq_true rfl) dX8_session_30 hL ⟨Nat.zero_le _, Nat.zero_le _⟩ (fun H1 locs hL hpost => ?_)
        subst hpost
        refine lv_if_ne (tgt := 44) hx hb dX8_session_33 (by decide) (fun c_18 => ?_) (fun c_18 => ?_)
        · have hf := (if_neg c_18).symm.trans hf
          refine lv_ldc (v := (-2000000004)) hx hb hown (hts _ (xm 3 rfl)) dX8_session_44 ?_
          have q0 := Option.some.inj hf
          subst r0
          subst hQ
          refine x_iret (post := (fun H H1 => H1 = H)) S hr hlocks rfl ?_ hL dX8_session_46
          exact rfl
        · have hf := (if_pos c_18).symm.trans hf
          refine lv_aload_n hx hb dX8_session_36 rfl (lv_at hl 0 rfl) ?_
          refine lv_iload_n hx hb dX8_session_37 rfl (lv_at hl 1 rfl) ?_
          obtain ⟨r_19, e_20, hf⟩ := xb_some hf
          refine x_callVi (As := [.int p1]) (rest := []) S hK (c_X8_refundOf l G z o M p1 r_19 e_20) gX8_session_X8_refundOf rfl 1 (by decide +kernel) rfl ⟨Nat.le_of_ble_eq_true rfl, Nat.le_of_ble_eq_true rfl⟩ h_md 0 (by decide) rfl rfl rfl h_md hl.1 rfl (Nat.le_of_ble_eq_true rfl) dX8_session_38 hL ⟨Nat.zero_le _, Nat.zero_le _⟩ (fun H1 locs hL hpost => ?_)
          subst hpost
          refine lv_goto (tgt := 46) hx hb dX8_session_41 (by decide) ?_
          have q0 := Option.some.inj hf
          subst r0
          subst hQ
          refine x_iret (post := (fun H H1 => H1 = H)) S hr hlocks rfl ?_ hL dX8_session_46
          exact rfl
    · have hf := (if_pos c_6).symm.trans hf
      refine lv_ldc (v := (-2000000001)) hx hb hown (hts _ (xm 2 rfl)) dX8_session_20 ?_
      have q0 := Option.some.inj hf
      subst r0
      subst hQ
      refine x_iret (post := (fun H H1 => H1 = H)) S hr hlocks rfl ?_ hL dX8_session_22
      exact rfl
set_option maxRecDepth 100000 in
set_option maxHeartbeats 4000000 in
theorem c_X8_set (l : Launch) (G : xG) (z : Nat) (o : Nat) (M : xV) (p1 : Int32) (p2 : Int32) (r0 : Int32) (M' : xV) (hz_md : z ≤ o) (hf : f_X8_set M p1 p2 = some (r0, M')) : xM l yX8_set wsX8_set 1 25 G z [.ref o, .int p1, .int p2] (fun H => PX G o 5 (mdE G o) M H) (some (.int r0)) (fun H H1 => PX G o 5 (mdE G o) M' H1 ∧ XF (fun q => (o ≤ q ∧ q < o + 5)) H H1) := by
  refine xM.of (cc := cX8_set) (maxL := 4) (ret := (some .int)) (by decide +kernel) rfl (Nat.le_of_ble_eq_true rfl) ?_
  intro p e s m args below meth c ls Q hQ S hr hlocks hK hP hl
  obtain ⟨hx, hb, hml, hown, hts⟩ := id S
  have h_md := hP
  have hL : ∀ q ∈ ([] : List Loc), z ≤ q.base := fun q h => absurd h List.not_mem_nil
  have hF : XF (fun q => (o ≤ q ∧ q < o + 5)) s.heap s.heap := XF.rf
  have hl : lv_has ls 4 [(0, .ref o), (1, .int p1), (2, .int p2)] := hl
  have in8 : ∀ w ∈ u_ws RX8 TX8 18, w ∈ wsX8_set := fun _ h => List.mem_cons_of_mem _ (List.mem_append_right _ h)
  unfold f_X8_set at hf
  refine lv_iload_n hx hb dX8_set_0 rfl (lv_at hl 1 rfl) ?_
  refine lv_i2l (v := p1.toInt64) hx hb dX8_set_1 rfl ?_
  refine lv_lconst (v := 0) hx hb dX8_set_2 (by decide) ?_
  refine lv_ldc2 (v := 7) hx hb hown (hts _ (xm 1 rfl)) dX8_set_3 ?_
  obtain ⟨r_1, e_2, hf⟩ := xb_some hf
  refine x_callTi (As := [.long (p1.toInt64), .long 0, .long 7]) (rest := []) S hK (c_X8_in l G z (p1.toInt64) 0 7 r_1 e_2) gX8_set_X8_in rfl 3 (by decide +kernel) rfl ⟨Nat.le_of_ble_eq_true rfl, Nat.le_of_ble_eq_true rfl⟩ rfl hl.1 rfl (Nat.le_of_ble_eq_true rfl) dX8_set_6 hL ⟨Nat.zero_le _, Nat.zero_le _⟩ (fun H1 locs hL hpost => ?_)
  subst hpost
  refine lv_if_eq (tgt := 26) hx hb dX8_set_9 (by decide) (fun c_3 => ?_) (fun c_3 => ?_)
  · have hf := (if_pos c_3).symm.trans hf
    refine lv_ldc (v := (-2000000001)) hx hb hown (hts _ (xm 2 rfl)) dX8_set_26 ?_
    obtain ⟨q0, qq0⟩ := Prod.mk.inj (Option.some.inj hf)
    have q1 := qq0
    subst r0
    subst M'
    subst hQ
    refine x_iret (post := (fun H H1 => PX G o 5 (mdE G o) M H1 ∧ XF (fun q => (o ≤ q ∧ q < o + 5)) H H1)) S hr hlocks rfl ?_ hL dX8_set_28
    exact ⟨h_md, hF⟩
  · have hf := (if_neg c_3).symm.trans hf
    refine lv_iload_n hx hb dX8_set_12 rfl (lv_at hl 2 rfl) ?_
    refine lv_i2l (v := p2.toInt64) hx hb dX8_set_13 rfl ?_
    refine lv_lconst (v := 0) hx hb dX8_set_14 (by decide) ?_
    refine lv_iload_n hx hb dX8_set_15 rfl (lv_at hl 1 rfl) ?_
    obtain ⟨r_4, e_5, hf⟩ := xb_some hf
    refine x_callTi (As := [.int p1]) (rest := [.long 0, .long (p2.toInt64)]) S hK (c_X8_mostOf l G z p1 r_4 e_5) gX8_set_X8_mostOf rfl 1 (by decide +kernel) rfl ⟨Nat.le_of_ble_eq_true rfl, Nat.le_of_ble_eq_true rfl⟩ rfl hl.1 rfl (Nat.le_of_ble_eq_true rfl) dX8_set_16 hL ⟨Nat.zero_le _, Nat.zero_le _⟩ (fun H1 locs hL hpost => ?_)
    subst hpost
    refine lv_i2l (v := r_4.toInt64) hx hb dX8_set_19 rfl ?_
    obtain ⟨r_6, e_7, hf⟩ := xb_some hf
    refine x_callTi (As := [.long (p2.toInt64), .long 0, .long (r_4.toInt64)]) (rest := []) S hK (c_X8_in l G z (p2.toInt64) 0 (r_4.toInt64) r_6 e_7) gX8_set_X8_in rfl 3 (by decide +kernel) rfl ⟨Nat.le_of_ble_eq_true rfl, Nat.le_of_ble_eq_true rfl⟩ rfl hl.1 rfl (Nat.le_of_ble_eq_true rfl) dX8_set_20 hL ⟨Nat.zero_le _, Nat.zero_le _⟩ (fun H1 locs hL hpost => ?_)
    subst hpost
    refine lv_if_ne (tgt := 29) hx hb dX8_set_23 (by decide) (fun c_8 => ?_) (fun c_8 => ?_)
    · have hf := (if_neg c_8).symm.trans hf
      refine lv_aload_n hx hb dX8_set_29 rfl (lv_at hl 0 rfl) ?_
      obtain ⟨M_9, e_10, hf⟩ := xb_some hf
      refine x_callVv (As := []) (rest := []) S hK (c_X8_save l G z o M M_9 (by omega) e_10) gX8_set_X8_save rfl 0 (by decide +kernel) rfl ⟨Nat.le_of_ble_eq_true rfl, Nat.le_of_ble_eq_true rfl⟩ h_md 0 (by decide) rfl rfl rfl h_md hl.1 rfl (Nat.le_of_ble_eq_true rfl) dX8_set_30 hL ⟨Nat.zero_le _, Nat.zero_le _⟩ (fun H1 locs hL hpost => ?_)
      obtain ⟨n_md, hfr⟩ := hpost
      have h_md := n_md
      have hF := hF.step hfr (fun q h => by (try dsimp only at h ⊢); omega)
      refine lv_aload_n hx hb dX8_set_33 rfl (lv_at hl 0 rfl) ?_
      refine x_get S hK h_md 0 (by decide) rfl rfl rfl in8 0 (by decide) (xm 3 rfl) (x := .ref (o + 1)) rfl dX8_set_34 ?_
      refine lv_iconst (v := 1) hx hb dX8_set_37 (by decide) ?_
      refine lv_iload_n hx hb dX8_set_38 rfl (lv_at hl 1 rfl) ?_
      refine lv_iadd hx hb dX8_set_39 ?_
      obtain ⟨g_11, hf⟩ := xg_some hf
      refine x_iald S hK h_md 1 (by decide) rfl rfl (1 + p1).toNatClampNeg rfl g_11 dX8_set_40 ?_
      obtain ⟨x_12, ex_12, hf⟩ := xl_some hf
      refine x_top ex_12 ?_
      refine lv_istore_n (lv' := [(3, .int x_12), (0, .ref o), (1, .int p1), (2, .int p2)]) hx hb dX8_set_41 rfl hl (by decide) rfl (fun ls hl => ?_)
      refine lv_aload_n hx hb dX8_set_42 rfl (lv_at hl 1 rfl) ?_
      refine x_get S hK h_md 0 (by decide) rfl rfl rfl in8 0 (by decide) (xm 3 rfl) (x := .ref (o + 1)) rfl dX8_set_43 ?_
      refine lv_iconst (v := 1) hx hb dX8_set_46 (by decide) ?_
      refine lv_iload_n hx hb dX8_set_47 rfl (lv_at hl 2 rfl) ?_
      refine lv_iadd hx hb dX8_set_48 ?_
      refine lv_iload_n hx hb dX8_set_49 rfl (lv_at hl 3 rfl) ?_
      obtain ⟨g_13, hf⟩ := xg_some hf
      obtain ⟨M_14, eM_14, hf⟩ := xl_some hf
      refine x_iast S hK h_md hz_md hL 1 (by decide) rfl rfl (1 + p1).toNatClampNeg rfl g_13 rfl eM_14 dX8_set_50 (fun H1 locs hL h_md hfr => ?_)
      have hF := hF.step hfr (fun q h => by (try dsimp only at h ⊢); omega)
      refine lv_iload_n hx hb dX8_set_51 rfl (lv_at hl 0 rfl) ?_
      obtain ⟨q0, qq0⟩ := Prod.mk.inj (Option.some.inj hf)
      have q1 := qq0
      subst r0
      subst M'
      subst hQ
      refine x_iret (post := (fun H H1 => PX G o 5 (mdE G o) M_14 H1 ∧ XF (fun q => (o ≤ q ∧ q < o + 5)) H H1)) S hr hlocks rfl ?_ hL dX8_set_52
      exact ⟨h_md, hF⟩
    · have hf := (if_pos c_8).symm.trans hf
      refine lv_ldc (v := (-2000000001)) hx hb hown (hts _ (xm 2 rfl)) dX8_set_26 ?_
      obtain ⟨q0, qq0⟩ := Prod.mk.inj (Option.some.inj hf)
      have q1 := qq0
      subst r0
      subst M'
      subst hQ
      refine x_iret (post := (fun H H1 => PX G o 5 (mdE G o) M H1 ∧ XF (fun q => (o ≤ q ∧ q < o + 5)) H H1)) S hr hlocks rfl ?_ hL dX8_set_28
      exact ⟨h_md, hF⟩
set_option maxRecDepth 100000 in
set_option maxHeartbeats 4000000 in
theorem c_X8_settle (l : Launch) (G : xG) (z : Nat) (o : Nat) (M : xV) (p1 : Int32) (r0 : Int32) (M' : xV) (hz_md : z ≤ o) (hf : f_X8_settle M p1 = some (r0, M')) : xM l yX8_settle wsX8_settle 3 67 G z [.ref o, .int p1] (fun H => PX G o 5 (mdE G o) M H) (some (.int r0)) (fun H H1 => PX G o 5 (mdE G o) M' H1 ∧ XF (fun q => (o ≤ q ∧ q < o + 5)) H H1) := by
  refine xM.of (cc := cX8_settle) (maxL := 3) (ret := (some .int)) (by decide +kernel) rfl (Nat.le_of_ble_eq_true rfl) ?_
  intro p e s m args below meth c ls Q hQ S hr hlocks hK hP hl
  obtain ⟨hx, hb, hml, hown, hts⟩ := id S
  have h_md := hP
  have hL : ∀ q ∈ ([] : List Loc), z ≤ q.base := fun q h => absurd h List.not_mem_nil
  have hF : XF (fun q => (o ≤ q ∧ q < o + 5)) s.heap s.heap := XF.rf
  have hl : lv_has ls 3 [(0, .ref o), (1, .int p1)] := hl
  have in8 : ∀ w ∈ u_ws RX8 TX8 18, w ∈ wsX8_settle := fun _ h => List.mem_cons_of_mem _ (List.mem_append_right _ h)
  unfold f_X8_settle at hf
  refine lv_aload_n hx hb dX8_settle_0 rfl (lv_at hl 0 rfl) ?_
  refine lv_iload_n hx hb dX8_settle_1 rfl (lv_at hl 1 rfl) ?_
  obtain ⟨r_1, e_2, hf⟩ := xb_some hf
  refine x_callVi (As := [.int p1]) (rest := []) S hK (c_X8_isHire l G z o M p1 r_1 e_2) gX8_settle_X8_isHire rfl 1 (by decide +kernel) rfl ⟨Nat.le_of_ble_eq_true rfl, Nat.le_of_ble_eq_true rfl⟩ h_md 0 (by decide) rfl rfl rfl h_md hl.1 rfl (Nat.le_of_ble_eq_true rfl) dX8_settle_2 hL ⟨Nat.zero_le _, Nat.zero_le _⟩ (fun H1 locs hL hpost => ?_)
  subst hpost
  refine lv_if_ne (tgt := 11) hx hb dX8_settle_5 (by decide) (fun c_3 => ?_) (fun c_3 => ?_)
  · have hf := (if_neg c_3).symm.trans hf
    refine lv_aload_n hx hb dX8_settle_11 rfl (lv_at hl 0 rfl) ?_
    refine lv_iload_n hx hb dX8_settle_12 rfl (lv_at hl 1 rfl) ?_
    refine lv_bipush (v := 10) hx hb dX8_settle_13 (by decide) ?_
    obtain ⟨r_4, e_5, hf⟩ := xb_some hf
    refine x_callVi (As := [.int p1, .int 10]) (rest := []) S hK (c_X8_of l G z o M p1 10 r_4 e_5) gX8_settle_X8_of rfl 2 (by decide +kernel) rfl ⟨Nat.le_of_ble_eq_true rfl, Nat.le_of_ble_eq_true rfl⟩ h_md 0 (by decide) rfl rfl rfl h_md hl.1 rfl (Nat.le_of_ble_eq_true rfl) dX8_settle_15 hL ⟨Nat.zero_le _, Nat.zero_le _⟩ (fun H1 locs hL hpost => ?_)
    subst hpost
    refine lv_iconst (v := 1) hx hb dX8_settle_18 (by decide) ?_
    refine lv_icmp_eq (tgt := 39) hx hb dX8_settle_19 (by decide) (fun c_6 => ?_) (fun c_6 => ?_)
    · have hf := (if_pos c_6).symm.trans hf
      refine lv_ldc (v := (-2000000002)) hx hb hown (hts _ (xm 2 rfl)) dX8_settle_39 ?_
      obtain ⟨q0, qq0⟩ := Prod.mk.inj (Option.some.inj hf)
      have q1 := qq0
      subst r0
      subst M'
      subst hQ
      refine x_iret (post := (fun H H1 => PX G o 5 (mdE G o) M H1 ∧ XF (fun q => (o ≤ q ∧ q < o + 5)) H H1)) S hr hlocks rfl ?_ hL dX8_settle_41
      exact ⟨h_md, hF⟩
    · have hf := (if_neg c_6).symm.trans hf
      refine lv_aload_n hx hb dX8_settle_22 rfl (lv_at hl 0 rfl) ?_
      refine lv_iload_n hx hb dX8_settle_23 rfl (lv_at hl 1 rfl) ?_
      refine lv_iconst (v := 0) hx hb dX8_settle_24 (by decide) ?_
      obtain ⟨r_7, e_8, hf⟩ := xb_some hf
      refine x_callVi (As := [.int p1, .int 0]) (rest := []) S hK (c_X8_manyOf l G z o M p1 0 r_7 e_8) gX8_settle_X8_manyOf rfl 2 (by decide +kernel) rfl ⟨Nat.le_of_ble_eq_true rfl, Nat.le_of_ble_eq_true rfl⟩ h_md 0 (by decide) rfl rfl rfl h_md hl.1 rfl (Nat.le_of_ble_eq_true rfl) dX8_settle_25 hL ⟨Nat.zero_le _, Nat.zero_le _⟩ (fun H1 locs hL hpost => ?_)
      subst hpost
      refine lv_if_gt (tgt := 39) hx hb dX8_settle_28 (by decide) (fun c_9 => ?_) (fun c_9 => ?_)
      · have hf := (if_pos c_9).symm.trans hf
        refine lv_ldc (v := (-2000000002)) hx hb hown (hts _ (xm 2 rfl)) dX8_settle_39 ?_
        obtain ⟨q0, qq0⟩ := Prod.mk.inj (Option.some.inj hf)
        have q1 := qq0
        subst r0
        subst M'
        subst hQ
        refine x_iret (post := (fun H H1 => PX G o 5 (mdE G o) M H1 ∧ XF (fun q => (o ≤ q ∧ q < o + 5)) H H1)) S hr hlocks rfl ?_ hL dX8_settle_41
        exact ⟨h_md, hF⟩
      · have hf := (if_neg c_9).symm.trans hf
        refine lv_aload_n hx hb dX8_settle_31 rfl (lv_at hl 0 rfl) ?_
        refine lv_iload_n hx hb dX8_settle_32 rfl (lv_at hl 1 rfl) ?_
        obtain ⟨r_10, e_11, hf⟩ := xb_some hf
        refine x_callVi (As := [.int p1]) (rest := []) S hK (c_X8_keysOf l G z o M p1 r_10 e_11) gX8_settle_X8_keysOf rfl 1 (by decide +kernel) rfl ⟨Nat.le_of_ble_eq_true rfl, Nat.le_of_ble_eq_true rfl⟩ h_md 0 (by decide) rfl rfl rfl h_md hl.1 rfl (Nat.le_of_ble_eq_true rfl) dX8_settle_33 hL ⟨Nat.zero_le _, Nat.zero_le _⟩ (fun H1 locs hL hpost => ?_)
        subst hpost
        refine lv_if_le (tgt := 42) hx hb dX8_settle_36 (by decide) (fun c_12 => ?_) (fun c_12 => ?_)
        · have hf := (if_pos c_12).symm.trans hf
          refine lv_aload_n hx hb dX8_settle_42 rfl (lv_at hl 0 rfl) ?_
          obtain ⟨M_13, e_14, hf⟩ := xb_some hf
          refine x_callVv (As := []) (rest := []) S hK (c_X8_save l G z o M M_13 (by omega) e_14) gX8_settle_X8_save rfl 0 (by decide +kernel) rfl ⟨Nat.le_of_ble_eq_true rfl, Nat.le_of_ble_eq_true rfl⟩ h_md 0 (by decide) rfl rfl rfl h_md hl.1 rfl (Nat.le_of_ble_eq_true rfl) dX8_settle_43 hL ⟨Nat.zero_le _, Nat.zero_le _⟩ (fun H1 locs hL hpost => ?_)
          obtain ⟨n_md, hfr⟩ := hpost
          have h_md := n_md
          have hF := hF.step hfr (fun q h => by (try dsimp only at h ⊢); omega)
          refine lv_aload_n hx hb dX8_settle_46 rfl (lv_at hl 0 rfl) ?_
          refine lv_iload_n hx hb dX8_settle_47 rfl (lv_at hl 1 rfl) ?_
          refine lv_bipush (v := 9) hx hb dX8_settle_48 (by decide) ?_
          obtain ⟨r_15, e_16, hf⟩ := xb_some hf
          refine x_callVi (As := [.int p1, .int 9]) (rest := []) S hK (c_X8_of l G z o M_13 p1 9 r_15 e_16) gX8_settle_X8_of rfl 2 (by decide +kernel) rfl ⟨Nat.le_of_ble_eq_true rfl, Nat.le_of_ble_eq_true rfl⟩ h_md 0 (by decide) rfl rfl rfl h_md hl.1 rfl (Nat.le_of_ble_eq_true rfl) dX8_settle_50 hL ⟨Nat.zero_le _, Nat.zero_le _⟩ (fun H1 locs hL hpost => ?_)
          subst hpost
          refine lv_istore_n (lv' := [(2, .int r_15), (0, .ref o), (1, .int p1)]) hx hb dX8_settle_53 rfl hl (by decide) rfl (fun ls hl => ?_)
          refine lv_aload_n hx hb dX8_settle_54 rfl (lv_at hl 1 rfl) ?_
          refine x_get S hK h_md 0 (by decide) rfl rfl rfl in8 0 (by decide) (xm 3 rfl) (x := .ref (o + 1)) rfl dX8_settle_55 ?_
          refine lv_iload_n hx hb dX8_settle_58 rfl (lv_at hl 2 rfl) ?_
          refine lv_bipush (v := 9) hx hb dX8_settle_59 (by decide) ?_
          obtain ⟨r_17, e_18, hf⟩ := xb_some hf
          refine x_callTi (As := [.int p1, .int 9]) (rest := [.ref (o + 1)]) S hK (c_X8_at l G z p1 9 r_17 e_18) gX8_settle_X8_at rfl 2 (by decide +kernel) rfl ⟨Nat.le_of_ble_eq_true rfl, Nat.le_of_ble_eq_true rfl⟩ rfl hl.1 rfl (Nat.le_of_ble_eq_true rfl) dX8_settle_61 hL ⟨Nat.zero_le _, Nat.zero_le _⟩ (fun H1 locs hL hpost => ?_)
          subst hpost
          refine lv_iconst (v := 0) hx hb dX8_settle_64 (by decide) ?_
          obtain ⟨g_19, hf⟩ := xg_some hf
          obtain ⟨M_20, eM_20, hf⟩ := xl_some hf
          refine x_iast S hK h_md hz_md hL 1 (by decide) rfl rfl r_17.toNatClampNeg rfl g_19 rfl eM_20 dX8_settle_65 (fun H1 locs hL h_md hfr => ?_)
          have hF := hF.step hfr (fun q h => by (try dsimp only at h ⊢); omega)
          refine lv_aload_n hx hb dX8_settle_66 rfl (lv_at hl 1 rfl) ?_
          refine x_get S hK h_md 0 (by decide) rfl rfl rfl in8 0 (by decide) (xm 3 rfl) (x := .ref (o + 1)) rfl dX8_settle_67 ?_
          refine lv_iload_n hx hb dX8_settle_70 rfl (lv_at hl 2 rfl) ?_
          refine lv_bipush (v := 10) hx hb dX8_settle_71 (by decide) ?_
          obtain ⟨r_21, e_22, hf⟩ := xb_some hf
          refine x_callTi (As := [.int p1, .int 10]) (rest := [.ref (o + 1)]) S hK (c_X8_at l G z p1 10 r_21 e_22) gX8_settle_X8_at rfl 2 (by decide +kernel) rfl ⟨Nat.le_of_ble_eq_true rfl, Nat.le_of_ble_eq_true rfl⟩ rfl hl.1 rfl (Nat.le_of_ble_eq_true rfl) dX8_settle_73 hL ⟨Nat.zero_le _, Nat.zero_le _⟩ (fun H1 locs hL hpost => ?_)
          subst hpost
          refine lv_iconst (v := 1) hx hb dX8_settle_76 (by decide) ?_
          obtain ⟨g_23, hf⟩ := xg_some hf
          obtain ⟨M_24, eM_24, hf⟩ := xl_some hf
          refine x_iast S hK h_md hz_md hL 1 (by decide) rfl rfl r_21.toNatClampNeg rfl g_23 rfl eM_24 dX8_settle_77 (fun H1 locs hL h_md hfr => ?_)
          have hF := hF.step hfr (fun q h => by (try dsimp only at h ⊢); omega)
          refine lv_aload_n hx hb dX8_settle_78 rfl (lv_at hl 1 rfl) ?_
          refine x_get S hK h_md 0 (by decide) rfl rfl rfl in8 0 (by decide) (xm 3 rfl) (x := .ref (o + 1)) rfl dX8_settle_79 ?_
          refine lv_bipush (v := 14) hx hb dX8_settle_82 (by decide) ?_
          refine lv_dup2_11 hx hb dX8_settle_84 rfl rfl ?_
          refine x_iald S hK h_md 1 (by decide) rfl rfl 14 (by decide) (by decide) dX8_settle_85 ?_
          refine lv_iload_n hx hb dX8_settle_86 rfl (lv_at hl 0 rfl) ?_
          refine lv_isub hx hb dX8_settle_87 ?_
          obtain ⟨M_25, eM_25, hf⟩ := xl_some hf
          refine x_iast S hK h_md hz_md hL 1 (by decide) rfl rfl 14 (by decide) (by decide) rfl eM_25 dX8_settle_88 (fun H1 locs hL h_md hfr => ?_)
          have hF := hF.step hfr (fun q h => by (try dsimp only at h ⊢); omega)
          refine lv_aload_n hx hb dX8_settle_89 rfl (lv_at hl 1 rfl) ?_
          refine x_get S hK h_md 0 (by decide) rfl rfl rfl in8 0 (by decide) (xm 3 rfl) (x := .ref (o + 1)) rfl dX8_settle_90 ?_
          refine lv_bipush (v := 17) hx hb dX8_settle_93 (by decide) ?_
          refine lv_dup2_11 hx hb dX8_settle_95 rfl rfl ?_
          refine x_iald S hK h_md 1 (by decide) rfl rfl 17 (by decide) (by decide) dX8_settle_96 ?_
          refine lv_iload_n hx hb dX8_settle_97 rfl (lv_at hl 0 rfl) ?_
          refine lv_iadd hx hb dX8_settle_98 ?_
          obtain ⟨M_26, eM_26, hf⟩ := xl_some hf
          refine x_iast S hK h_md hz_md hL 1 (by decide) rfl rfl 17 (by decide) (by decide) rfl eM_26 dX8_settle_99 (fun H1 locs hL h_md hfr => ?_)
          have hF := hF.step hfr (fun q h => by (try dsimp only at h ⊢); omega)
          refine lv_aload_n hx hb dX8_settle_100 rfl (lv_at hl 1 rfl) ?_
          refine lv_aload_n hx hb dX8_settle_101 rfl (lv_at hl 1 rfl) ?_
          refine lv_iload_n hx hb dX8_settle_102 rfl (lv_at hl 2 rfl) ?_
          refine lv_iconst (v := 0) hx hb dX8_settle_103 (by decide) ?_
          obtain ⟨r_27, e_28, hf⟩ := xb_some hf
          refine x_callVi (As := [.int p1, .int 0]) (rest := [.ref o]) S hK (c_X8_of l G z o M_26 p1 0 r_27 e_28) gX8_settle_X8_of rfl 2 (by decide +kernel) rfl ⟨Nat.le_of_ble_eq_true rfl, Nat.le_of_ble_eq_true rfl⟩ h_md 0 (by decide) rfl rfl rfl h_md hl.1 rfl (Nat.le_of_ble_eq_true rfl) dX8_settle_104 hL ⟨Nat.zero_le _, Nat.zero_le _⟩ (fun H1 locs hL hpost => ?_)
          subst hpost
          refine lv_iload_n hx hb dX8_settle_107 rfl (lv_at hl 0 rfl) ?_
          obtain ⟨M_29, e_30, hf⟩ := xb_some hf
          refine x_callVv (As := [.int r_27, .int r_15]) (rest := []) S hK (c_X8_pays l G z o M_26 r_27 r_15 M_29 (by omega) e_30) gX8_settle_X8_pays rfl 2 (by decide +kernel) rfl ⟨Nat.le_of_ble_eq_true rfl, Nat.le_of_ble_eq_true rfl⟩ h_md 0 (by decide) rfl rfl rfl h_md hl.1 rfl (Nat.le_of_ble_eq_true rfl) dX8_settle_108 hL ⟨Nat.zero_le _, Nat.zero_le _⟩ (fun H1 locs hL hpost => ?_)
          obtain ⟨n_md, hfr⟩ := hpost
          have h_md := n_md
          have hF := hF.step hfr (fun q h => by (try dsimp only at h ⊢); omega)
          refine lv_iload_n hx hb dX8_settle_111 rfl (lv_at hl 0 rfl) ?_
          obtain ⟨q0, qq0⟩ := Prod.mk.inj (Option.some.inj hf)
          have q1 := qq0
          subst r0
          subst M'
          subst hQ
          refine x_iret (post := (fun H H1 => PX G o 5 (mdE G o) M_29 H1 ∧ XF (fun q => (o ≤ q ∧ q < o + 5)) H H1)) S hr hlocks rfl ?_ hL dX8_settle_112
          exact ⟨h_md, hF⟩
        · have hf := (if_neg c_12).symm.trans hf
          refine lv_ldc (v := (-2000000002)) hx hb hown (hts _ (xm 2 rfl)) dX8_settle_39 ?_
          obtain ⟨q0, qq0⟩ := Prod.mk.inj (Option.some.inj hf)
          have q1 := qq0
          subst r0
          subst M'
          subst hQ
          refine x_iret (post := (fun H H1 => PX G o 5 (mdE G o) M H1 ∧ XF (fun q => (o ≤ q ∧ q < o + 5)) H H1)) S hr hlocks rfl ?_ hL dX8_settle_41
          exact ⟨h_md, hF⟩
  · have hf := (if_pos c_3).symm.trans hf
    refine lv_ldc (v := (-2000000001)) hx hb hown (hts _ (xm 1 rfl)) dX8_settle_8 ?_
    obtain ⟨q0, qq0⟩ := Prod.mk.inj (Option.some.inj hf)
    have q1 := qq0
    subst r0
    subst M'
    subst hQ
    refine x_iret (post := (fun H H1 => PX G o 5 (mdE G o) M H1 ∧ XF (fun q => (o ≤ q ∧ q < o + 5)) H H1)) S hr hlocks rfl ?_ hL dX8_settle_10
    exact ⟨h_md, hF⟩
set_option maxRecDepth 100000 in
set_option maxHeartbeats 4000000 in
theorem c_X8_taken (l : Launch) (G : xG) (z : Nat) (o : Nat) (M : xV) (p1 : Int32) (p2 : Int32) (r0 : Int32)  (hf : f_X8_taken M p1 p2 = some r0) : xM l yX8_taken wsX8_taken 3 65 G z [.ref o, .int p1, .int p2] (fun H => PX G o 5 (mdE G o) M H) (some (.int r0)) (fun H H1 => H1 = H) := by
  refine xM.of (cc := cX8_taken) (maxL := 8) (ret := (some .int)) (by decide +kernel) rfl (Nat.le_of_ble_eq_true rfl) ?_
  intro p e s m args below meth c ls Q hQ S hr hlocks hK hP hl
  obtain ⟨hx, hb, hml, hown, hts⟩ := id S
  have h_md := hP
  have hL : ∀ q ∈ ([] : List Loc), z ≤ q.base := fun q h => absurd h List.not_mem_nil
  have hl : lv_has ls 8 [(0, .ref o), (1, .int p1), (2, .int p2)] := hl
  have in8 : ∀ w ∈ u_ws RX8 TX8 18, w ∈ wsX8_taken := fun _ h => List.mem_cons_of_mem _ (List.mem_append_right _ h)
  unfold f_X8_taken at hf
  refine lv_iload_n hx hb dX8_taken_0 rfl (lv_at hl 1 rfl) ?_
  refine lv_i2l (v := p1.toInt64) hx hb dX8_taken_1 rfl ?_
  refine lv_lconst (v := 0) hx hb dX8_taken_2 (by decide) ?_
  refine lv_ldc2 (v := 364) hx hb hown (hts _ (xm 1 rfl)) dX8_taken_3 ?_
  obtain ⟨r_1, e_2, hf⟩ := xb_some hf
  refine x_callTi (As := [.long (p1.toInt64), .long 0, .long 364]) (rest := []) S hK (c_X8_in l G z (p1.toInt64) 0 364 r_1 e_2) gX8_taken_X8_in rfl 3 (by decide +kernel) rfl ⟨Nat.le_of_ble_eq_true rfl, Nat.le_of_ble_eq_true rfl⟩ rfl hl.1 rfl (Nat.le_of_ble_eq_true rfl) dX8_taken_6 hL ⟨Nat.zero_le _, Nat.zero_le _⟩ (fun H1 locs hL hpost => ?_)
  subst hpost
  refine lv_if_eq (tgt := 24) hx hb dX8_taken_9 (by decide) (fun c_3 => ?_) (fun c_3 => ?_)
  · have hf := (if_pos c_3).symm.trans hf
    refine lv_ldc (v := (-2000000001)) hx hb hown (hts _ (xm 3 rfl)) dX8_taken_24 ?_
    have q0 := Option.some.inj hf
    subst r0
    subst hQ
    refine x_iret (post := (fun H H1 => H1 = H)) S hr hlocks rfl ?_ hL dX8_taken_26
    exact rfl
  · have hf := (if_neg c_3).symm.trans hf
    refine lv_iload_n hx hb dX8_taken_12 rfl (lv_at hl 2 rfl) ?_
    refine lv_i2l (v := p2.toInt64) hx hb dX8_taken_13 rfl ?_
    refine lv_lconst (v := 1) hx hb dX8_taken_14 (by decide) ?_
    refine lv_ldc2 (v := 7) hx hb hown (hts _ (xm 2 rfl)) dX8_taken_15 ?_
    obtain ⟨r_4, e_5, hf⟩ := xb_some hf
    refine x_callTi (As := [.long (p2.toInt64), .long 1, .long 7]) (rest := []) S hK (c_X8_in l G z (p2.toInt64) 1 7 r_4 e_5) gX8_taken_X8_in rfl 3 (by decide +kernel) rfl ⟨Nat.le_of_ble_eq_true rfl, Nat.le_of_ble_eq_true rfl⟩ rfl hl.1 rfl (Nat.le_of_ble_eq_true rfl) dX8_taken_18 hL ⟨Nat.zero_le _, Nat.zero_le _⟩ (fun H1 locs hL hpost => ?_)
    subst hpost
    refine lv_if_ne (tgt := 27) hx hb dX8_taken_21 (by decide) (fun c_6 => ?_) (fun c_6 => ?_)
    · have hf := (if_neg c_6).symm.trans hf
      refine lv_iconst (v := 0) hx hb dX8_taken_27 (by decide) ?_
      refine lv_istore_n (lv' := [(3, .int 0), (0, .ref o), (1, .int p1), (2, .int p2)]) hx hb dX8_taken_28 rfl hl (by decide) rfl (fun ls hl => ?_)
      refine lv_iconst (v := 0) hx hb dX8_taken_29 (by decide) ?_
      refine lv_istore (lv' := [(4, .int 0), (3, .int 0), (0, .ref o), (1, .int p1), (2, .int p2)]) hx hb dX8_taken_30 hl (by decide) rfl (fun ls hl => ?_)
      have lp_32 : ∀ (K_32 : Int32 → Int32 → Option Int32), (∀ (x_7 : Int32) (x_8 : Int32) (locs : List Loc) (ls : Array Slot), (∀ q ∈ locs, z ≤ q.base) → lv_has ls 8 [(3, .int x_7)] → K_32 x_7 x_8 = some r0 → W p l e { frames := 3, cells := 0, slots := 0, locals := 65 } s m args below meth c s.heap locs 0 0 Q (F0 m 160 ls [])) → ∀ (n : Nat) (x_7 : Int32) (x_8 : Int32) (locs : List Loc) (ls : Array Slot), (∀ q ∈ locs, z ≤ q.base) → lv_has ls 8 [(0, .ref o), (1, .int p1), (2, .int p2), (3, .int x_7), (4, .int x_8)] → L_X8_taken_32 K_32 M p1 p2 n x_7 x_8 = some r0 → W p l e { frames := 3, cells := 0, slots := 0, locals := 65 } s m args below meth c s.heap locs 0 0 Q (F0 m 32 ls []) := by
        intro K_32 hK_32 n
        induction n with
        | zero =>
          intro x_7 x_8 locs ls hL hl hf
          cases hf
        | succ n ih_32 =>
          intro x_7 x_8 locs ls hL hl hf
          unfold L_X8_taken_32 at hf
          refine lv_iload hx hb dX8_taken_32 (lv_at hl 4 rfl) ?_
          refine lv_aload_n hx hb dX8_taken_34 rfl (lv_at hl 0 rfl) ?_
          refine x_get S hK h_md 0 (by decide) rfl rfl rfl in8 0 (by decide) (xm 4 rfl) (x := .ref (o + 1)) rfl dX8_taken_35 ?_
          refine lv_bipush (v := 10) hx hb dX8_taken_38 (by decide) ?_
          refine x_iald S hK h_md 1 (by decide) rfl rfl 10 (by decide) (by decide) dX8_taken_40 ?_
          refine lv_icmp_ge (tgt := 160) hx hb dX8_taken_41 (by decide) (fun c_9 => ?_) (fun c_9 => ?_)
          · have hf := (if_pos c_9).symm.trans hf
            exact hK_32 x_7 x_8 _ _ hL (lv_sub hl [3] rfl) hf
          · have hf := (if_neg c_9).symm.trans hf
            refine lv_iconst (v := 0) hx hb dX8_taken_44 (by decide) ?_
            refine lv_istore (lv' := [(5, .int 0), (0, .ref o), (1, .int p1), (2, .int p2), (3, .int x_7), (4, .int x_8)]) hx hb dX8_taken_45 hl (by decide) rfl (fun ls hl => ?_)
            have lp_47 : ∀ (K_47 : Int32 → Int32 → Option Int32), (∀ (x_10 : Int32) (x_11 : Int32) (locs : List Loc) (ls : Array Slot), (∀ q ∈ locs, z ≤ q.base) → lv_has ls 8 [(0, .ref o), (1, .int p1), (2, .int p2), (3, .int x_10), (4, .int x_8)] → K_47 x_10 x_11 = some r0 → W p l e { frames := 3, cells := 0, slots := 0, locals := 65 } s m args below meth c s.heap locs 0 0 Q (F0 m 154 ls [])) → ∀ (n : Nat) (x_10 : Int32) (x_11 : Int32) (locs : List Loc) (ls : Array Slot), (∀ q ∈ locs, z ≤ q.base) → lv_has ls 8 [(0, .ref o), (1, .int p1), (2, .int p2), (3, .int x_10), (4, .int x_8), (5, .int x_11)] → L_X8_taken_47 K_47 M p1 p2 x_8 n x_10 x_11 = some r0 → W p l e { frames := 3, cells := 0, slots := 0, locals := 65 } s m args below meth c s.heap locs 0 0 Q (F0 m 47 ls []) := by
              intro K_47 hK_47 n
              induction n with
              | zero =>
                intro x_10 x_11 locs ls hL hl hf
                cases hf
              | succ n ih_47 =>
                intro x_10 x_11 locs ls hL hl hf
                unfold L_X8_taken_47 at hf
                refine lv_iload hx hb dX8_taken_47 (lv_at hl 5 rfl) ?_
                refine lv_aload_n hx hb dX8_taken_49 rfl (lv_at hl 0 rfl) ?_
                refine lv_iload hx hb dX8_taken_50 (lv_at hl 4 rfl) ?_
                refine lv_iconst (v := 4) hx hb dX8_taken_52 (by decide) ?_
                obtain ⟨r_12, e_13, hf⟩ := xb_some hf
                refine x_callVi (As := [.int x_8, .int 4]) (rest := [.int x_11]) S hK (c_X8_of l G z o M x_8 4 r_12 e_13) gX8_taken_X8_of rfl 2 (by decide +kernel) rfl ⟨Nat.le_of_ble_eq_true rfl, Nat.le_of_ble_eq_true rfl⟩ h_md 0 (by decide) rfl rfl rfl h_md hl.1 rfl (Nat.le_of_ble_eq_true rfl) dX8_taken_53 hL ⟨Nat.zero_le _, Nat.zero_le _⟩ (fun H1 locs hL hpost => ?_)
                subst hpost
                refine lv_icmp_ge (tgt := 154) hx hb dX8_taken_56 (by decide) (fun c_14 => ?_) (fun c_14 => ?_)
                · have hf := (if_pos c_14).symm.trans hf
                  exact hK_47 x_10 x_11 _ _ hL (lv_sub hl [0, 1, 2, 3, 4] rfl) hf
                · have hf := (if_neg c_14).symm.trans hf
                  refine lv_aload_n hx hb dX8_taken_59 rfl (lv_at hl 0 rfl) ?_
                  refine lv_iload hx hb dX8_taken_60 (lv_at hl 4 rfl) ?_
                  refine lv_bipush (v := 12) hx hb dX8_taken_62 (by decide) ?_
                  refine lv_iload hx hb dX8_taken_64 (lv_at hl 5 rfl) ?_
                  refine lv_iadd hx hb dX8_taken_66 ?_
                  obtain ⟨r_15, e_16, hf⟩ := xb_some hf
                  refine x_callVi (As := [.int x_8, .int (12 + x_11)]) (rest := []) S hK (c_X8_of l G z o M x_8 (12 + x_11) r_15 e_16) gX8_taken_X8_of rfl 2 (by decide +kernel) rfl ⟨Nat.le_of_ble_eq_true rfl, Nat.le_of_ble_eq_true rfl⟩ h_md 0 (by decide) rfl rfl rfl h_md hl.1 rfl (Nat.le_of_ble_eq_true rfl) dX8_taken_67 hL ⟨Nat.zero_le _, Nat.zero_le _⟩ (fun H1 locs hL hpost => ?_)
                  subst hpost
                  refine lv_iconst (v := 2) hx hb dX8_taken_70 (by decide) ?_
                  refine lv_icmp_eq (tgt := 106) hx hb dX8_taken_71 (by decide) (fun c_17 => ?_) (fun c_17 => ?_)
                  · have hf := (if_pos c_17).symm.trans hf
                    refine lv_iconst (v := 0) hx hb dX8_taken_106 (by decide) ?_
                    refine lv_istore (lv' := [(6, .int 0), (0, .ref o), (1, .int p1), (2, .int p2), (3, .int x_10), (4, .int x_8), (5, .int x_11)]) hx hb dX8_taken_107 hl (by decide) rfl (fun ls hl => ?_)
                    refine lv_aload_n hx hb dX8_taken_109 rfl (lv_at hl 1 rfl) ?_
                    refine lv_iload hx hb dX8_taken_110 (lv_at hl 5 rfl) ?_
                    refine lv_iconst (v := 2) hx hb dX8_taken_112 (by decide) ?_
                    obtain ⟨r_18, e_19, hf⟩ := xb_some hf
                    refine x_callVi (As := [.int x_8, .int 2]) (rest := []) S hK (c_X8_of l G z o M x_8 2 r_18 e_19) gX8_taken_X8_of rfl 2 (by decide +kernel) rfl ⟨Nat.le_of_ble_eq_true rfl, Nat.le_of_ble_eq_true rfl⟩ h_md 0 (by decide) rfl rfl rfl h_md hl.1 rfl (Nat.le_of_ble_eq_true rfl) dX8_taken_113 hL ⟨Nat.zero_le _, Nat.zero_le _⟩ (fun H1 locs hL hpost => ?_)
                    subst hpost
                    refine lv_istore (lv' := [(7, .int r_18), (6, .int 0), (0, .ref o), (1, .int p1), (2, .int p2), (3, .int x_10), (4, .int x_8), (5, .int x_11)]) hx hb dX8_taken_116 hl (by decide) rfl (fun ls hl => ?_)
                    have lp_118 : ∀ (K_118 : Int32 → Int32 → Option Int32), (∀ (x_20 : Int32) (x_21 : Int32) (locs : List Loc) (ls : Array Slot), (∀ q ∈ locs, z ≤ q.base) → lv_has ls 8 [(0, .ref o), (1, .int p1), (2, .int p2), (3, .int x_20), (4, .int x_8), (5, .int x_11)] → K_118 x_20 x_21 = some r0 → W p l e { frames := 3, cells := 0, slots := 0, locals := 65 } s m args below meth c s.heap locs 0 0 Q (F0 m 148 ls [])) → ∀ (n : Nat) (x_20 : Int32) (x_21 : Int32) (locs : List Loc) (ls : Array Slot), (∀ q ∈ locs, z ≤ q.base) → lv_has ls 8 [(0, .ref o), (1, .int p1), (2, .int p2), (3, .int x_20), (4, .int x_8), (5, .int x_11), (6, .int 0), (7, .int x_21)] → L_X8_taken_118 K_118 M x_8 n x_20 x_21 = some r0 → W p l e { frames := 3, cells := 0, slots := 0, locals := 65 } s m args below meth c s.heap locs 0 0 Q (F0 m 118 ls []) := by
                      intro K_118 hK_118 n
                      induction n with
                      | zero =>
                        intro x_20 x_21 locs ls hL hl hf
                        cases hf
                      | succ n ih_118 =>
                        intro x_20 x_21 locs ls hL hl hf
                        unfold L_X8_taken_118 at hf
                        refine lv_iload hx hb dX8_taken_118 (lv_at hl 7 rfl) ?_
                        refine lv_aload_n hx hb dX8_taken_120 rfl (lv_at hl 0 rfl) ?_
                        refine lv_iload hx hb dX8_taken_121 (lv_at hl 4 rfl) ?_
                        refine lv_iconst (v := 3) hx hb dX8_taken_123 (by decide) ?_
                        obtain ⟨r_22, e_23, hf⟩ := xb_some hf
                        refine x_callVi (As := [.int x_8, .int 3]) (rest := [.int x_21]) S hK (c_X8_of l G z o M x_8 3 r_22 e_23) gX8_taken_X8_of rfl 2 (by decide +kernel) rfl ⟨Nat.le_of_ble_eq_true rfl, Nat.le_of_ble_eq_true rfl⟩ h_md 0 (by decide) rfl rfl rfl h_md hl.1 rfl (Nat.le_of_ble_eq_true rfl) dX8_taken_124 hL ⟨Nat.zero_le _, Nat.zero_le _⟩ (fun H1 locs hL hpost => ?_)
                        subst hpost
                        refine lv_icmp_ge (tgt := 148) hx hb dX8_taken_127 (by decide) (fun c_24 => ?_) (fun c_24 => ?_)
                        · have hf := (if_pos c_24).symm.trans hf
                          exact hK_118 x_20 x_21 _ _ hL (lv_sub hl [0, 1, 2, 3, 4, 5] rfl) hf
                        · have hf := (if_neg c_24).symm.trans hf
                          refine lv_iload hx hb dX8_taken_130 (lv_at hl 6 rfl) ?_
                          refine lv_if_eq (tgt := 148) hx hb dX8_taken_132 (by decide) (fun _ => ?_) (fun h9 => absurd h9 (by decide))
                          exact hK_118 x_20 x_21 _ _ hL (lv_sub hl [0, 1, 2, 3, 4, 5] rfl) hf
                    refine lp_118 _ (fun x_25 x_26 locs ls hL hl hf => ?_) 100000 x_10 r_18 _ _ hL (lv_sub hl [2, 3, 4, 5, 6, 7, 1, 0] rfl) hf
                    obtain ⟨x_27, ex_27, hf⟩ := xl_some hf
                    refine lv_iinc (v := x_27) (lv' := [(5, .int x_27), (0, .ref o), (1, .int p1), (2, .int p2), (3, .int x_25), (4, .int x_8)]) hx hb dX8_taken_148 hl (k := 5) rfl (by rw [ex_27]; rfl) (by decide) rfl (fun ls hl => ?_)
                    refine lv_goto (tgt := 47) hx hb dX8_taken_151 (by decide) ?_
                    exact ih_47 x_25 x_27 _ _ hL (lv_sub hl [1, 2, 3, 4, 5, 0] rfl) hf
                  · have hf := (if_neg c_17).symm.trans hf
                    refine lv_aload_n hx hb dX8_taken_74 rfl (lv_at hl 0 rfl) ?_
                    refine lv_bipush (v := 20) hx hb dX8_taken_75 (by decide) ?_
                    refine lv_iload hx hb dX8_taken_77 (lv_at hl 4 rfl) ?_
                    refine lv_imul hx hb dX8_taken_79 ?_
                    refine lv_iload hx hb dX8_taken_80 (lv_at hl 5 rfl) ?_
                    refine lv_iadd hx hb dX8_taken_82 ?_
                    obtain ⟨r_28, e_29, hf⟩ := xb_some hf
                    refine x_callVi (As := [.int ((20 * x_8) + x_11)]) (rest := []) S hK (c_X8_dayOf l G z o M ((20 * x_8) + x_11) r_28 e_29) gX8_taken_X8_dayOf rfl 1 (by decide +kernel) rfl ⟨Nat.le_of_ble_eq_true rfl, Nat.le_of_ble_eq_true rfl⟩ h_md 0 (by decide) rfl rfl rfl h_md hl.1 rfl (Nat.le_of_ble_eq_true rfl) dX8_taken_83 hL ⟨Nat.zero_le _, Nat.zero_le _⟩ (fun H1 locs hL hpost => ?_)
                    subst hpost
                    refine lv_iload_n hx hb dX8_taken_86 rfl (lv_at hl 1 rfl) ?_
                    refine lv_icmp_ne (tgt := 106) hx hb dX8_taken_87 (by decide) (fun c_30 => ?_) (fun c_30 => ?_)
                    · have hf := (if_neg c_30).symm.trans hf
                      refine lv_iconst (v := 0) hx hb dX8_taken_106 (by decide) ?_
                      refine lv_istore (lv' := [(6, .int 0), (0, .ref o), (1, .int p1), (2, .int p2), (3, .int x_10), (4, .int x_8), (5, .int x_11)]) hx hb dX8_taken_107 hl (by decide) rfl (fun ls hl => ?_)
                      refine lv_aload_n hx hb dX8_taken_109 rfl (lv_at hl 1 rfl) ?_
                      refine lv_iload hx hb dX8_taken_110 (lv_at hl 5 rfl) ?_
                      refine lv_iconst (v := 2) hx hb dX8_taken_112 (by decide) ?_
                      obtain ⟨r_31, e_32, hf⟩ := xb_some hf
                      refine x_callVi (As := [.int x_8, .int 2]) (rest := []) S hK (c_X8_of l G z o M x_8 2 r_31 e_32) gX8_taken_X8_of rfl 2 (by decide +kernel) rfl ⟨Nat.le_of_ble_eq_true rfl, Nat.le_of_ble_eq_true rfl⟩ h_md 0 (by decide) rfl rfl rfl h_md hl.1 rfl (Nat.le_of_ble_eq_true rfl) dX8_taken_113 hL ⟨Nat.zero_le _, Nat.zero_le _⟩ (fun H1 locs hL hpost => ?_)
                      subst hpost
                      refine lv_istore (lv' := [(7, .int r_31), (6, .int 0), (0, .ref o), (1, .int p1), (2, .int p2), (3, .int x_10), (4, .int x_8), (5, .int x_11)]) hx hb dX8_taken_116 hl (by decide) rfl (fun ls hl => ?_)
                      have lp_118 : ∀ (K_118 : Int32 → Int32 → Option Int32), (∀ (x_33 : Int32) (x_34 : Int32) (locs : List Loc) (ls : Array Slot), (∀ q ∈ locs, z ≤ q.base) → lv_has ls 8 [(0, .ref o), (1, .int p1), (2, .int p2), (3, .int x_33), (4, .int x_8), (5, .int x_11)] → K_118 x_33 x_34 = some r0 → W p l e { frames := 3, cells := 0, slots := 0, locals := 65 } s m args below meth c s.heap locs 0 0 Q (F0 m 148 ls [])) → ∀ (n : Nat) (x_33 : Int32) (x_34 : Int32) (locs : List Loc) (ls : Array Slot), (∀ q ∈ locs, z ≤ q.base) → lv_has ls 8 [(0, .ref o), (1, .int p1), (2, .int p2), (3, .int x_33), (4, .int x_8), (5, .int x_11), (6, .int 0), (7, .int x_34)] → L_X8_taken_118a K_118 M x_8 n x_33 x_34 = some r0 → W p l e { frames := 3, cells := 0, slots := 0, locals := 65 } s m args below meth c s.heap locs 0 0 Q (F0 m 118 ls []) := by
                        intro K_118 hK_118 n
                        induction n with
                        | zero =>
                          intro x_33 x_34 locs ls hL hl hf
                          cases hf
                        | succ n ih_118 =>
                          intro x_33 x_34 locs ls hL hl hf
                          unfold L_X8_taken_118a at hf
                          refine lv_iload hx hb dX8_taken_118 (lv_at hl 7 rfl) ?_
                          refine lv_aload_n hx hb dX8_taken_120 rfl (lv_at hl 0 rfl) ?_
                          refine lv_iload hx hb dX8_taken_121 (lv_at hl 4 rfl) ?_
                          refine lv_iconst (v := 3) hx hb dX8_taken_123 (by decide) ?_
                          obtain ⟨r_35, e_36, hf⟩ := xb_some hf
                          refine x_callVi (As := [.int x_8, .int 3]) (rest := [.int x_34]) S hK (c_X8_of l G z o M x_8 3 r_35 e_36) gX8_taken_X8_of rfl 2 (by decide +kernel) rfl ⟨Nat.le_of_ble_eq_true rfl, Nat.le_of_ble_eq_true rfl⟩ h_md 0 (by decide) rfl rfl rfl h_md hl.1 rfl (Nat.le_of_ble_eq_true rfl) dX8_taken_124 hL ⟨Nat.zero_le _, Nat.zero_le _⟩ (fun H1 locs hL hpost => ?_)
                          subst hpost
                          refine lv_icmp_ge (tgt := 148) hx hb dX8_taken_127 (by decide) (fun c_37 => ?_) (fun c_37 => ?_)
                          · have hf := (if_pos c_37).symm.trans hf
                            exact hK_118 x_33 x_34 _ _ hL (lv_sub hl [0, 1, 2, 3, 4, 5] rfl) hf
                          · have hf := (if_neg c_37).symm.trans hf
                            refine lv_iload hx hb dX8_taken_130 (lv_at hl 6 rfl) ?_
                            refine lv_if_eq (tgt := 148) hx hb dX8_taken_132 (by decide) (fun _ => ?_) (fun h9 => absurd h9 (by decide))
                            exact hK_118 x_33 x_34 _ _ hL (lv_sub hl [0, 1, 2, 3, 4, 5] rfl) hf
                      refine lp_118 _ (fun x_38 x_39 locs ls hL hl hf => ?_) 100000 x_10 r_31 _ _ hL (lv_sub hl [2, 3, 4, 5, 6, 7, 1, 0] rfl) hf
                      obtain ⟨x_40, ex_40, hf⟩ := xl_some hf
                      refine lv_iinc (v := x_40) (lv' := [(5, .int x_40), (0, .ref o), (1, .int p1), (2, .int p2), (3, .int x_38), (4, .int x_8)]) hx hb dX8_taken_148 hl (k := 5) rfl (by rw [ex_40]; rfl) (by decide) rfl (fun ls hl => ?_)
                      refine lv_goto (tgt := 47) hx hb dX8_taken_151 (by decide) ?_
                      exact ih_47 x_38 x_40 _ _ hL (lv_sub hl [1, 2, 3, 4, 5, 0] rfl) hf
                    · have hf := (if_pos c_30).symm.trans hf
                      refine lv_aload_n hx hb dX8_taken_90 rfl (lv_at hl 0 rfl) ?_
                      refine lv_iload hx hb dX8_taken_91 (lv_at hl 4 rfl) ?_
                      refine lv_iconst (v := 1) hx hb dX8_taken_93 (by decide) ?_
                      obtain ⟨r_41, e_42, hf⟩ := xb_some hf
                      refine x_callVi (As := [.int x_8, .int 1]) (rest := []) S hK (c_X8_of l G z o M x_8 1 r_41 e_42) gX8_taken_X8_of rfl 2 (by decide +kernel) rfl ⟨Nat.le_of_ble_eq_true rfl, Nat.le_of_ble_eq_true rfl⟩ h_md 0 (by decide) rfl rfl rfl h_md hl.1 rfl (Nat.le_of_ble_eq_true rfl) dX8_taken_94 hL ⟨Nat.zero_le _, Nat.zero_le _⟩ (fun H1 locs hL hpost => ?_)
                      subst hpost
                      refine lv_iload_n hx hb dX8_taken_97 rfl (lv_at hl 2 rfl) ?_
                      refine lv_iand hx hb dX8_taken_98 ?_
                      refine lv_if_eq (tgt := 106) hx hb dX8_taken_99 (by decide) (fun c_43 => ?_) (fun c_43 => ?_)
                      · have hf := (if_pos c_43).symm.trans hf
                        refine lv_iconst (v := 0) hx hb dX8_taken_106 (by decide) ?_
                        refine lv_istore (lv' := [(6, .int 0), (0, .ref o), (1, .int p1), (2, .int p2), (3, .int x_10), (4, .int x_8), (5, .int x_11)]) hx hb dX8_taken_107 hl (by decide) rfl (fun ls hl => ?_)
                        refine lv_aload_n hx hb dX8_taken_109 rfl (lv_at hl 1 rfl) ?_
                        refine lv_iload hx hb dX8_taken_110 (lv_at hl 5 rfl) ?_
                        refine lv_iconst (v := 2) hx hb dX8_taken_112 (by decide) ?_
                        obtain ⟨r_44, e_45, hf⟩ := xb_some hf
                        refine x_callVi (As := [.int x_8, .int 2]) (rest := []) S hK (c_X8_of l G z o M x_8 2 r_44 e_45) gX8_taken_X8_of rfl 2 (by decide +kernel) rfl ⟨Nat.le_of_ble_eq_true rfl, Nat.le_of_ble_eq_true rfl⟩ h_md 0 (by decide) rfl rfl rfl h_md hl.1 rfl (Nat.le_of_ble_eq_true rfl) dX8_taken_113 hL ⟨Nat.zero_le _, Nat.zero_le _⟩ (fun H1 locs hL hpost => ?_)
                        subst hpost
                        refine lv_istore (lv' := [(7, .int r_44), (6, .int 0), (0, .ref o), (1, .int p1), (2, .int p2), (3, .int x_10), (4, .int x_8), (5, .int x_11)]) hx hb dX8_taken_116 hl (by decide) rfl (fun ls hl => ?_)
                        have lp_118 : ∀ (K_118 : Int32 → Int32 → Option Int32), (∀ (x_46 : Int32) (x_47 : Int32) (locs : List Loc) (ls : Array Slot), (∀ q ∈ locs, z ≤ q.base) → lv_has ls 8 [(0, .ref o), (1, .int p1), (2, .int p2), (3, .int x_46), (4, .int x_8), (5, .int x_11)] → K_118 x_46 x_47 = some r0 → W p l e { frames := 3, cells := 0, slots := 0, locals := 65 } s m args below meth c s.heap locs 0 0 Q (F0 m 148 ls [])) → ∀ (n : Nat) (x_46 : Int32) (x_47 : Int32) (locs : List Loc) (ls : Array Slot), (∀ q ∈ locs, z ≤ q.base) → lv_has ls 8 [(0, .ref o), (1, .int p1), (2, .int p2), (3, .int x_46), (4, .int x_8), (5, .int x_11), (6, .int 0), (7, .int x_47)] → L_X8_taken_118b K_118 M x_8 n x_46 x_47 = some r0 → W p l e { frames := 3, cells := 0, slots := 0, locals := 65 } s m args below meth c s.heap locs 0 0 Q (F0 m 118 ls []) := by
                          intro K_118 hK_118 n
                          induction n with
                          | zero =>
                            intro x_46 x_47 locs ls hL hl hf
                            cases hf
                          | succ n ih_118 =>
                            intro x_46 x_47 locs ls hL hl hf
                            unfold L_X8_taken_118b at hf
                            refine lv_iload hx hb dX8_taken_118 (lv_at hl 7 rfl) ?_
                            refine lv_aload_n hx hb dX8_taken_120 rfl (lv_at hl 0 rfl) ?_
                            refine lv_iload hx hb dX8_taken_121 (lv_at hl 4 rfl) ?_
                            refine lv_iconst (v := 3) hx hb dX8_taken_123 (by decide) ?_
                            obtain ⟨r_48, e_49, hf⟩ := xb_some hf
                            refine x_callVi (As := [.int x_8, .int 3]) (rest := [.int x_47]) S hK (c_X8_of l G z o M x_8 3 r_48 e_49) gX8_taken_X8_of rfl 2 (by decide +kernel) rfl ⟨Nat.le_of_ble_eq_true rfl, Nat.le_of_ble_eq_true rfl⟩ h_md 0 (by decide) rfl rfl rfl h_md hl.1 rfl (Nat.le_of_ble_eq_true rfl) dX8_taken_124 hL ⟨Nat.zero_le _, Nat.zero_le _⟩ (fun H1 locs hL hpost => ?_)
                            subst hpost
                            refine lv_icmp_ge (tgt := 148) hx hb dX8_taken_127 (by decide) (fun c_50 => ?_) (fun c_50 => ?_)
                            · have hf := (if_pos c_50).symm.trans hf
                              exact hK_118 x_46 x_47 _ _ hL (lv_sub hl [0, 1, 2, 3, 4, 5] rfl) hf
                            · have hf := (if_neg c_50).symm.trans hf
                              refine lv_iload hx hb dX8_taken_130 (lv_at hl 6 rfl) ?_
                              refine lv_if_eq (tgt := 148) hx hb dX8_taken_132 (by decide) (fun _ => ?_) (fun h9 => absurd h9 (by decide))
                              exact hK_118 x_46 x_47 _ _ hL (lv_sub hl [0, 1, 2, 3, 4, 5] rfl) hf
                        refine lp_118 _ (fun x_51 x_52 locs ls hL hl hf => ?_) 100000 x_10 r_44 _ _ hL (lv_sub hl [2, 3, 4, 5, 6, 7, 1, 0] rfl) hf
                        obtain ⟨x_53, ex_53, hf⟩ := xl_some hf
                        refine lv_iinc (v := x_53) (lv' := [(5, .int x_53), (0, .ref o), (1, .int p1), (2, .int p2), (3, .int x_51), (4, .int x_8)]) hx hb dX8_taken_148 hl (k := 5) rfl (by rw [ex_53]; rfl) (by decide) rfl (fun ls hl => ?_)
                        refine lv_goto (tgt := 47) hx hb dX8_taken_151 (by decide) ?_
                        exact ih_47 x_51 x_53 _ _ hL (lv_sub hl [1, 2, 3, 4, 5, 0] rfl) hf
                      · have hf := (if_neg c_43).symm.trans hf
                        refine lv_iconst (v := 1) hx hb dX8_taken_102 (by decide) ?_
                        refine lv_goto (tgt := 107) hx hb dX8_taken_103 (by decide) ?_
                        refine lv_istore (lv' := [(6, .int 1), (0, .ref o), (1, .int p1), (2, .int p2), (3, .int x_10), (4, .int x_8), (5, .int x_11)]) hx hb dX8_taken_107 hl (by decide) rfl (fun ls hl => ?_)
                        refine lv_aload_n hx hb dX8_taken_109 rfl (lv_at hl 1 rfl) ?_
                        refine lv_iload hx hb dX8_taken_110 (lv_at hl 5 rfl) ?_
                        refine lv_iconst (v := 2) hx hb dX8_taken_112 (by decide) ?_
                        obtain ⟨r_54, e_55, hf⟩ := xb_some hf
                        refine x_callVi (As := [.int x_8, .int 2]) (rest := []) S hK (c_X8_of l G z o M x_8 2 r_54 e_55) gX8_taken_X8_of rfl 2 (by decide +kernel) rfl ⟨Nat.le_of_ble_eq_true rfl, Nat.le_of_ble_eq_true rfl⟩ h_md 0 (by decide) rfl rfl rfl h_md hl.1 rfl (Nat.le_of_ble_eq_true rfl) dX8_taken_113 hL ⟨Nat.zero_le _, Nat.zero_le _⟩ (fun H1 locs hL hpost => ?_)
                        subst hpost
                        refine lv_istore (lv' := [(7, .int r_54), (6, .int 1), (0, .ref o), (1, .int p1), (2, .int p2), (3, .int x_10), (4, .int x_8), (5, .int x_11)]) hx hb dX8_taken_116 hl (by decide) rfl (fun ls hl => ?_)
                        have lp_118 : ∀ (K_118 : Int32 → Int32 → Option Int32), (∀ (x_56 : Int32) (x_57 : Int32) (locs : List Loc) (ls : Array Slot), (∀ q ∈ locs, z ≤ q.base) → lv_has ls 8 [(0, .ref o), (1, .int p1), (2, .int p2), (3, .int x_56), (4, .int x_8), (5, .int x_11)] → K_118 x_56 x_57 = some r0 → W p l e { frames := 3, cells := 0, slots := 0, locals := 65 } s m args below meth c s.heap locs 0 0 Q (F0 m 148 ls [])) → ∀ (n : Nat) (x_56 : Int32) (x_57 : Int32) (locs : List Loc) (ls : Array Slot), (∀ q ∈ locs, z ≤ q.base) → lv_has ls 8 [(0, .ref o), (1, .int p1), (2, .int p2), (3, .int x_56), (4, .int x_8), (5, .int x_11), (6, .int 1), (7, .int x_57)] → L_X8_taken_118c K_118 M x_8 n x_56 x_57 = some r0 → W p l e { frames := 3, cells := 0, slots := 0, locals := 65 } s m args below meth c s.heap locs 0 0 Q (F0 m 118 ls []) := by
                          intro K_118 hK_118 n
                          induction n with
                          | zero =>
                            intro x_56 x_57 locs ls hL hl hf
                            cases hf
                          | succ n ih_118 =>
                            intro x_56 x_57 locs ls hL hl hf
                            unfold L_X8_taken_118c at hf
                            refine lv_iload hx hb dX8_taken_118 (lv_at hl 7 rfl) ?_
                            refine lv_aload_n hx hb dX8_taken_120 rfl (lv_at hl 0 rfl) ?_
                            refine lv_iload hx hb dX8_taken_121 (lv_at hl 4 rfl) ?_
                            refine lv_iconst (v := 3) hx hb dX8_taken_123 (by decide) ?_
                            obtain ⟨r_58, e_59, hf⟩ := xb_some hf
                            refine x_callVi (As := [.int x_8, .int 3]) (rest := [.int x_57]) S hK (c_X8_of l G z o M x_8 3 r_58 e_59) gX8_taken_X8_of rfl 2 (by decide +kernel) rfl ⟨Nat.le_of_ble_eq_true rfl, Nat.le_of_ble_eq_true rfl⟩ h_md 0 (by decide) rfl rfl rfl h_md hl.1 rfl (Nat.le_of_ble_eq_true rfl) dX8_taken_124 hL ⟨Nat.zero_le _, Nat.zero_le _⟩ (fun H1 locs hL hpost => ?_)
                            subst hpost
                            refine lv_icmp_ge (tgt := 148) hx hb dX8_taken_127 (by decide) (fun c_60 => ?_) (fun c_60 => ?_)
                            · have hf := (if_pos c_60).symm.trans hf
                              exact hK_118 x_56 x_57 _ _ hL (lv_sub hl [0, 1, 2, 3, 4, 5] rfl) hf
                            · have hf := (if_neg c_60).symm.trans hf
                              refine lv_iload hx hb dX8_taken_130 (lv_at hl 6 rfl) ?_
                              refine lv_if_eq (tgt := 148) hx hb dX8_taken_132 (by decide) (fun h9 => absurd h9 (by decide)) (fun _ => ?_)
                              refine lv_iload_n hx hb dX8_taken_135 rfl (lv_at hl 3 rfl) ?_
                              refine lv_iconst (v := 1) hx hb dX8_taken_136 (by decide) ?_
                              refine lv_iload hx hb dX8_taken_137 (lv_at hl 7 rfl) ?_
                              refine lv_ishl hx hb dX8_taken_139 ?_
                              refine lv_ior hx hb dX8_taken_140 ?_
                              obtain ⟨x_61, ex_61, hf⟩ := xl_some hf
                              refine x_top ex_61 ?_
                              refine lv_istore_n (lv' := [(3, .int x_61), (0, .ref o), (1, .int p1), (2, .int p2), (4, .int x_8), (5, .int x_11), (6, .int 1), (7, .int x_57)]) hx hb dX8_taken_141 rfl hl (by decide) rfl (fun ls hl => ?_)
                              obtain ⟨x_62, ex_62, hf⟩ := xl_some hf
                              refine lv_iinc (v := x_62) (lv' := [(7, .int x_62), (3, .int x_61), (0, .ref o), (1, .int p1), (2, .int p2), (4, .int x_8), (5, .int x_11), (6, .int 1)]) hx hb dX8_taken_142 hl (k := 7) rfl (by rw [ex_62]; rfl) (by decide) rfl (fun ls hl => ?_)
                              refine lv_goto (tgt := 118) hx hb dX8_taken_145 (by decide) ?_
                              exact ih_118 x_61 x_62 _ _ hL (lv_sub hl [2, 3, 4, 1, 5, 6, 7, 0] rfl) hf
                        refine lp_118 _ (fun x_63 x_64 locs ls hL hl hf => ?_) 100000 x_10 r_54 _ _ hL (lv_sub hl [2, 3, 4, 5, 6, 7, 1, 0] rfl) hf
                        obtain ⟨x_65, ex_65, hf⟩ := xl_some hf
                        refine lv_iinc (v := x_65) (lv' := [(5, .int x_65), (0, .ref o), (1, .int p1), (2, .int p2), (3, .int x_63), (4, .int x_8)]) hx hb dX8_taken_148 hl (k := 5) rfl (by rw [ex_65]; rfl) (by decide) rfl (fun ls hl => ?_)
                        refine lv_goto (tgt := 47) hx hb dX8_taken_151 (by decide) ?_
                        exact ih_47 x_63 x_65 _ _ hL (lv_sub hl [1, 2, 3, 4, 5, 0] rfl) hf
            refine lp_47 _ (fun x_66 x_67 locs ls hL hl hf => ?_) 100000 x_7 0 _ _ hL (lv_sub hl [1, 2, 3, 4, 5, 0] rfl) hf
            obtain ⟨x_68, ex_68, hf⟩ := xl_some hf
            refine lv_iinc (v := x_68) (lv' := [(4, .int x_68), (0, .ref o), (1, .int p1), (2, .int p2), (3, .int x_66)]) hx hb dX8_taken_154 hl (k := 4) rfl (by rw [ex_68]; rfl) (by decide) rfl (fun ls hl => ?_)
            refine lv_goto (tgt := 32) hx hb dX8_taken_157 (by decide) ?_
            exact ih_32 x_66 x_68 _ _ hL (lv_sub hl [1, 2, 3, 4, 0] rfl) hf
      refine lp_32 _ (fun x_69 x_70 locs ls hL hl hf => ?_) 100000 0 0 _ _ hL (lv_sub hl [2, 3, 4, 1, 0] rfl) hf
      refine lv_iload_n hx hb dX8_taken_160 rfl (lv_at hl 0 rfl) ?_
      have q0 := Option.some.inj hf
      subst r0
      subst hQ
      refine x_iret (post := (fun H H1 => H1 = H)) S hr hlocks rfl ?_ hL dX8_taken_161
      exact rfl
    · have hf := (if_pos c_6).symm.trans hf
      refine lv_ldc (v := (-2000000001)) hx hb hown (hts _ (xm 3 rfl)) dX8_taken_24 ?_
      have q0 := Option.some.inj hf
      subst r0
      subst hQ
      refine x_iret (post := (fun H H1 => H1 = H)) S hr hlocks rfl ?_ hL dX8_taken_26
      exact rfl
set_option maxRecDepth 100000 in
set_option maxHeartbeats 4000000 in
theorem c_X8_textFault (l : Launch) (G : xG) (z : Nat) (o : Nat) (M : xV) (p1 : Int32) (r0 : Int32) (M' : xV) (hz_md : z ≤ o) (hf : f_X8_textFault M p1 = some (r0, M')) : xM l yX8_textFault wsX8_textFault 8 195 G z [.ref o, .int p1] (fun H => PX G o 5 (mdE G o) M H) (some (.int r0)) (fun H H1 => PX G o 5 (mdE G o) M' H1 ∧ XF (fun q => (o ≤ q ∧ q < o + 5)) H H1) := by
  refine xM.of (cc := cX8_textFault) (maxL := 3) (ret := (some .int)) (by decide +kernel) rfl (Nat.le_of_ble_eq_true rfl) ?_
  intro p e s m args below meth c ls Q hQ S hr hlocks hK hP hl
  obtain ⟨hx, hb, hml, hown, hts⟩ := id S
  have h_md := hP
  have hL : ∀ q ∈ ([] : List Loc), z ≤ q.base := fun q h => absurd h List.not_mem_nil
  have hF : XF (fun q => (o ≤ q ∧ q < o + 5)) s.heap s.heap := XF.rf
  have hl : lv_has ls 3 [(0, .ref o), (1, .int p1)] := hl
  have in8 : ∀ w ∈ u_ws RX8 TX8 18, w ∈ wsX8_textFault := fun _ h => List.mem_cons_of_mem _ (List.mem_append_right _ h)
  unfold f_X8_textFault at hf
  refine lv_iload_n hx hb dX8_textFault_0 rfl (lv_at hl 1 rfl) ?_
  refine lv_i2l (v := p1.toInt64) hx hb dX8_textFault_1 rfl ?_
  refine lv_lconst (v := 0) hx hb dX8_textFault_2 (by decide) ?_
  refine lv_lconst (v := 1) hx hb dX8_textFault_3 (by decide) ?_
  obtain ⟨r_1, e_2, hf⟩ := xb_some hf
  refine x_callTi (As := [.long (p1.toInt64), .long 0, .long 1]) (rest := []) S hK (c_X8_in l G z (p1.toInt64) 0 1 r_1 e_2) gX8_textFault_X8_in rfl 3 (by decide +kernel) rfl ⟨Nat.le_of_ble_eq_true rfl, Nat.le_of_ble_eq_true rfl⟩ rfl hl.1 rfl (Nat.le_of_ble_eq_true rfl) dX8_textFault_4 hL ⟨Nat.zero_le _, Nat.zero_le _⟩ (fun H1 locs hL hpost => ?_)
  subst hpost
  refine lv_if_ne (tgt := 13) hx hb dX8_textFault_7 (by decide) (fun c_3 => ?_) (fun c_3 => ?_)
  · have hf := (if_neg c_3).symm.trans hf
    refine lv_aload_n hx hb dX8_textFault_13 rfl (lv_at hl 0 rfl) ?_
    obtain ⟨M_4, e_5, hf⟩ := xb_some hf
    refine x_callVv (As := []) (rest := []) S hK (c_X8_laysAside l G z o M M_4 (by omega) e_5) gX8_textFault_X8_laysAside rfl 0 (by decide +kernel) rfl ⟨Nat.le_of_ble_eq_true rfl, Nat.le_of_ble_eq_true rfl⟩ h_md 0 (by decide) rfl rfl rfl h_md hl.1 rfl (Nat.le_of_ble_eq_true rfl) dX8_textFault_14 hL ⟨Nat.zero_le _, Nat.zero_le _⟩ (fun H1 locs hL hpost => ?_)
    obtain ⟨n_md, hfr⟩ := hpost
    have h_md := n_md
    have hF := hF.step hfr (fun q h => by (try dsimp only at h ⊢); omega)
    refine lv_aload_n hx hb dX8_textFault_17 rfl (lv_at hl 0 rfl) ?_
    obtain ⟨r_6, M_7, e_8, hf⟩ := xb2_some hf
    refine x_callVi (As := []) (rest := []) S hK (c_X8_makesAll l G z o M_4 r_6 M_7 (by omega) e_8) gX8_textFault_X8_makesAll rfl 0 (by decide +kernel) rfl ⟨Nat.le_of_ble_eq_true rfl, Nat.le_of_ble_eq_true rfl⟩ h_md 0 (by decide) rfl rfl rfl h_md hl.1 rfl (Nat.le_of_ble_eq_true rfl) dX8_textFault_18 hL ⟨Nat.zero_le _, Nat.zero_le _⟩ (fun H1 locs hL hpost => ?_)
    obtain ⟨n_md, hfr⟩ := hpost
    have h_md := n_md
    have hF := hF.step hfr (fun q h => by (try dsimp only at h ⊢); omega)
    refine lv_istore_n (lv' := [(2, .int r_6), (0, .ref o), (1, .int p1)]) hx hb dX8_textFault_21 rfl hl (by decide) rfl (fun ls hl => ?_)
    refine lv_aload_n hx hb dX8_textFault_22 rfl (lv_at hl 1 rfl) ?_
    obtain ⟨M_9, e_10, hf⟩ := xb_some hf
    refine x_callVv (As := []) (rest := []) S hK (c_X8_takesBack l G z o M_7 M_9 (by omega) e_10) gX8_textFault_X8_takesBack rfl 0 (by decide +kernel) rfl ⟨Nat.le_of_ble_eq_true rfl, Nat.le_of_ble_eq_true rfl⟩ h_md 0 (by decide) rfl rfl rfl h_md hl.1 rfl (Nat.le_of_ble_eq_true rfl) dX8_textFault_23 hL ⟨Nat.zero_le _, Nat.zero_le _⟩ (fun H1 locs hL hpost => ?_)
    obtain ⟨n_md, hfr⟩ := hpost
    have h_md := n_md
    have hF := hF.step hfr (fun q h => by (try dsimp only at h ⊢); omega)
    refine lv_iload_n hx hb dX8_textFault_26 rfl (lv_at hl 0 rfl) ?_
    refine lv_iconst (v := (-1)) hx hb dX8_textFault_27 (by decide) ?_
    refine lv_icmp_ne (tgt := 36) hx hb dX8_textFault_28 (by decide) (fun c_11 => ?_) (fun c_11 => ?_)
    · have hf := (if_neg c_11).symm.trans hf
      refine lv_iload_n hx hb dX8_textFault_36 rfl (lv_at hl 2 rfl) ?_
      refine lv_if_ne (tgt := 44) hx hb dX8_textFault_37 (by decide) (fun c_12 => ?_) (fun c_12 => ?_)
      · have hf := (if_neg c_12).symm.trans hf
        refine lv_aload_n hx hb dX8_textFault_44 rfl (lv_at hl 1 rfl) ?_
        refine x_get S hK h_md 0 (by decide) rfl rfl rfl in8 15 (by decide) (xm 3 rfl) (x := .int (M_9 0 15)) rfl dX8_textFault_45 ?_
        obtain ⟨q0, qq0⟩ := Prod.mk.inj (Option.some.inj hf)
        have q1 := qq0
        subst r0
        subst M'
        subst hQ
        refine x_iret (post := (fun H H1 => PX G o 5 (mdE G o) M_9 H1 ∧ XF (fun q => (o ≤ q ∧ q < o + 5)) H H1)) S hr hlocks rfl ?_ hL dX8_textFault_48
        exact ⟨h_md, hF⟩
      · have hf := (if_pos c_12).symm.trans hf
        refine lv_iload_n hx hb dX8_textFault_40 rfl (lv_at hl 0 rfl) ?_
        refine lv_goto (tgt := 48) hx hb dX8_textFault_41 (by decide) ?_
        obtain ⟨q0, qq0⟩ := Prod.mk.inj (Option.some.inj hf)
        have q1 := qq0
        subst r0
        subst M'
        subst hQ
        refine x_iret (post := (fun H H1 => PX G o 5 (mdE G o) M_9 H1 ∧ XF (fun q => (o ≤ q ∧ q < o + 5)) H H1)) S hr hlocks rfl ?_ hL dX8_textFault_48
        exact ⟨h_md, hF⟩
    · have hf := (if_pos c_11).symm.trans hf
      refine lv_ldc (v := (-2000000004)) hx hb hown (hts _ (xm 2 rfl)) dX8_textFault_31 ?_
      refine lv_goto (tgt := 48) hx hb dX8_textFault_33 (by decide) ?_
      obtain ⟨q0, qq0⟩ := Prod.mk.inj (Option.some.inj hf)
      have q1 := qq0
      subst r0
      subst M'
      subst hQ
      refine x_iret (post := (fun H H1 => PX G o 5 (mdE G o) M_9 H1 ∧ XF (fun q => (o ≤ q ∧ q < o + 5)) H H1)) S hr hlocks rfl ?_ hL dX8_textFault_48
      exact ⟨h_md, hF⟩
  · have hf := (if_pos c_3).symm.trans hf
    refine lv_ldc (v := (-2000000001)) hx hb hown (hts _ (xm 1 rfl)) dX8_textFault_10 ?_
    obtain ⟨q0, qq0⟩ := Prod.mk.inj (Option.some.inj hf)
    have q1 := qq0
    subst r0
    subst M'
    subst hQ
    refine x_iret (post := (fun H H1 => PX G o 5 (mdE G o) M H1 ∧ XF (fun q => (o ≤ q ∧ q < o + 5)) H H1)) S hr hlocks rfl ?_ hL dX8_textFault_12
    exact ⟨h_md, hF⟩
set_option maxRecDepth 100000 in
set_option maxHeartbeats 4000000 in
theorem c_X8_type (l : Launch) (G : xG) (z : Nat) (o : Nat) (M : xV) (p1 : Int32) (r0 : Int32) (M' : xV) (hz_md : z ≤ o) (hf : f_X8_type M p1 = some (r0, M')) : xM l yX8_type wsX8_type 1 25 G z [.ref o, .int p1] (fun H => PX G o 5 (mdE G o) M H) (some (.int r0)) (fun H H1 => PX G o 5 (mdE G o) M' H1 ∧ XF (fun q => (o ≤ q ∧ q < o + 5)) H H1) := by
  refine xM.of (cc := cX8_type) (maxL := 2) (ret := (some .int)) (by decide +kernel) rfl (Nat.le_of_ble_eq_true rfl) ?_
  intro p e s m args below meth c ls Q hQ S hr hlocks hK hP hl
  obtain ⟨hx, hb, hml, hown, hts⟩ := id S
  have h_md := hP
  have hL : ∀ q ∈ ([] : List Loc), z ≤ q.base := fun q h => absurd h List.not_mem_nil
  have hF : XF (fun q => (o ≤ q ∧ q < o + 5)) s.heap s.heap := XF.rf
  have hl : lv_has ls 2 [(0, .ref o), (1, .int p1)] := hl
  have in8 : ∀ w ∈ u_ws RX8 TX8 18, w ∈ wsX8_type := fun _ h => List.mem_cons_of_mem _ (List.mem_append_right _ h)
  unfold f_X8_type at hf
  refine lv_iload_n hx hb dX8_type_0 rfl (lv_at hl 1 rfl) ?_
  refine lv_i2l (v := p1.toInt64) hx hb dX8_type_1 rfl ?_
  refine lv_ldc2 (v := 32) hx hb hown (hts _ (xm 1 rfl)) dX8_type_2 ?_
  refine lv_ldc2 (v := 126) hx hb hown (hts _ (xm 2 rfl)) dX8_type_5 ?_
  obtain ⟨r_1, e_2, hf⟩ := xb_some hf
  refine x_callTi (As := [.long (p1.toInt64), .long 32, .long 126]) (rest := []) S hK (c_X8_in l G z (p1.toInt64) 32 126 r_1 e_2) gX8_type_X8_in rfl 3 (by decide +kernel) rfl ⟨Nat.le_of_ble_eq_true rfl, Nat.le_of_ble_eq_true rfl⟩ rfl hl.1 rfl (Nat.le_of_ble_eq_true rfl) dX8_type_8 hL ⟨Nat.zero_le _, Nat.zero_le _⟩ (fun H1 locs hL hpost => ?_)
  subst hpost
  refine lv_if_ne (tgt := 17) hx hb dX8_type_11 (by decide) (fun c_3 => ?_) (fun c_3 => ?_)
  · have hf := (if_neg c_3).symm.trans hf
    refine lv_aload_n hx hb dX8_type_17 rfl (lv_at hl 0 rfl) ?_
    refine x_get S hK h_md 0 (by decide) rfl rfl rfl in8 6 (by decide) (xm 4 rfl) (x := .int (M 0 6)) rfl dX8_type_18 ?_
    refine lv_bipush (v := 80) hx hb dX8_type_21 (by decide) ?_
    refine lv_icmp_ne (tgt := 29) hx hb dX8_type_23 (by decide) (fun c_4 => ?_) (fun c_4 => ?_)
    · have hf := (if_neg c_4).symm.trans hf
      refine lv_aload_n hx hb dX8_type_29 rfl (lv_at hl 0 rfl) ?_
      refine x_get S hK h_md 0 (by decide) rfl rfl rfl in8 5 (by decide) (xm 6 rfl) (x := .ref (o + 4)) rfl dX8_type_30 ?_
      refine lv_aload_n hx hb dX8_type_33 rfl (lv_at hl 0 rfl) ?_
      refine x_get S hK h_md 0 (by decide) rfl rfl rfl in8 6 (by decide) (xm 4 rfl) (x := .int (M 0 6)) rfl dX8_type_34 ?_
      refine lv_iload_n hx hb dX8_type_37 rfl (lv_at hl 1 rfl) ?_
      obtain ⟨g_5, hf⟩ := xg_some hf
      obtain ⟨M_6, eM_6, hf⟩ := xl_some hf
      refine x_iast S hK h_md hz_md hL 4 (by decide) rfl rfl (M 0 6).toNatClampNeg rfl g_5 rfl eM_6 dX8_type_38 (fun H1 locs hL h_md hfr => ?_)
      have hF := hF.step hfr (fun q h => by (try dsimp only at h ⊢); omega)
      refine lv_aload_n hx hb dX8_type_39 rfl (lv_at hl 0 rfl) ?_
      refine lv_dup hx hb dX8_type_40 rfl ?_
      refine x_get S hK h_md 0 (by decide) rfl rfl rfl in8 6 (by decide) (xm 4 rfl) (x := .int (M_6 0 6)) rfl dX8_type_41 ?_
      refine lv_iconst (v := 1) hx hb dX8_type_44 (by decide) ?_
      refine lv_iadd hx hb dX8_type_45 ?_
      obtain ⟨M_7, eM_7, hf⟩ := xl_some hf
      refine x_put S hK h_md hz_md hL 0 (by decide) rfl rfl rfl in8 tyX8 tyX8_ok nmX8 6 (by decide) (xm 4 rfl) rfl (vp_nar_int _) rfl (Nat.le_of_ble_eq_true rfl) rfl eM_7 dX8_type_46 (fun H1 locs hL h_md hfr => ?_)
      have hF := hF.step hfr (fun q h => by (try dsimp only at h ⊢); omega)
      refine lv_aload_n hx hb dX8_type_49 rfl (lv_at hl 0 rfl) ?_
      refine x_get S hK h_md 0 (by decide) rfl rfl rfl in8 6 (by decide) (xm 4 rfl) (x := .int (M_7 0 6)) rfl dX8_type_50 ?_
      obtain ⟨q0, qq0⟩ := Prod.mk.inj (Option.some.inj hf)
      have q1 := qq0
      subst r0
      subst M'
      subst hQ
      refine x_iret (post := (fun H H1 => PX G o 5 (mdE G o) M_7 H1 ∧ XF (fun q => (o ≤ q ∧ q < o + 5)) H H1)) S hr hlocks rfl ?_ hL dX8_type_53
      exact ⟨h_md, hF⟩
    · have hf := (if_pos c_4).symm.trans hf
      refine lv_ldc (v := (-2000000003)) hx hb hown (hts _ (xm 5 rfl)) dX8_type_26 ?_
      obtain ⟨q0, qq0⟩ := Prod.mk.inj (Option.some.inj hf)
      have q1 := qq0
      subst r0
      subst M'
      subst hQ
      refine x_iret (post := (fun H H1 => PX G o 5 (mdE G o) M H1 ∧ XF (fun q => (o ≤ q ∧ q < o + 5)) H H1)) S hr hlocks rfl ?_ hL dX8_type_28
      exact ⟨h_md, hF⟩
  · have hf := (if_pos c_3).symm.trans hf
    refine lv_ldc (v := (-2000000001)) hx hb hown (hts _ (xm 3 rfl)) dX8_type_14 ?_
    obtain ⟨q0, qq0⟩ := Prod.mk.inj (Option.some.inj hf)
    have q1 := qq0
    subst r0
    subst M'
    subst hQ
    refine x_iret (post := (fun H H1 => PX G o 5 (mdE G o) M H1 ∧ XF (fun q => (o ≤ q ∧ q < o + 5)) H H1)) S hr hlocks rfl ?_ hL dX8_type_16
    exact ⟨h_md, hF⟩
set_option maxRecDepth 100000 in
set_option maxHeartbeats 4000000 in
theorem c_X8_undo (l : Launch) (G : xG) (z : Nat) (o : Nat) (M : xV) (r0 : Int32) (M' : xV) (hz_md : z ≤ o) (hf : f_X8_undo M = some (r0, M')) : xM l yX8_undo wsX8_undo 0 0 G z [.ref o] (fun H => PX G o 5 (mdE G o) M H) (some (.int r0)) (fun H H1 => PX G o 5 (mdE G o) M' H1 ∧ XF (fun q => (o ≤ q ∧ q < o + 5)) H H1) := by
  refine xM.of (cc := cX8_undo) (maxL := 2) (ret := (some .int)) (by decide +kernel) rfl (Nat.le_of_ble_eq_true rfl) ?_
  intro p e s m args below meth c ls Q hQ S hr hlocks hK hP hl
  obtain ⟨hx, hb, hml, hown, hts⟩ := id S
  have h_md := hP
  have hL : ∀ q ∈ ([] : List Loc), z ≤ q.base := fun q h => absurd h List.not_mem_nil
  have hF : XF (fun q => (o ≤ q ∧ q < o + 5)) s.heap s.heap := XF.rf
  have hl : lv_has ls 2 [(0, .ref o)] := hl
  have in8 : ∀ w ∈ u_ws RX8 TX8 18, w ∈ wsX8_undo := fun _ h => List.mem_cons_of_mem _ (List.mem_append_right _ h)
  unfold f_X8_undo at hf
  refine lv_aload_n hx hb dX8_undo_0 rfl (lv_at hl 0 rfl) ?_
  refine x_get S hK h_md 0 (by decide) rfl rfl rfl in8 3 (by decide) (xm 1 rfl) (x := .int (M 0 3)) rfl dX8_undo_1 ?_
  refine lv_if_ne (tgt := 10) hx hb dX8_undo_4 (by decide) (fun c_1 => ?_) (fun c_1 => ?_)
  · have hf := (if_neg c_1).symm.trans hf
    refine lv_aload_n hx hb dX8_undo_10 rfl (lv_at hl 0 rfl) ?_
    refine lv_dup hx hb dX8_undo_11 rfl ?_
    refine x_get S hK h_md 0 (by decide) rfl rfl rfl in8 3 (by decide) (xm 1 rfl) (x := .int (M 0 3)) rfl dX8_undo_12 ?_
    refine lv_iconst (v := 1) hx hb dX8_undo_15 (by decide) ?_
    refine lv_isub hx hb dX8_undo_16 ?_
    obtain ⟨M_2, eM_2, hf⟩ := xl_some hf
    refine x_put S hK h_md hz_md hL 0 (by decide) rfl rfl rfl in8 tyX8 tyX8_ok nmX8 3 (by decide) (xm 1 rfl) rfl (vp_nar_int _) rfl (Nat.le_of_ble_eq_true rfl) rfl eM_2 dX8_undo_17 (fun H1 locs hL h_md hfr => ?_)
    have hF := hF.step hfr (fun q h => by (try dsimp only at h ⊢); omega)
    refine lv_iconst (v := 0) hx hb dX8_undo_20 (by decide) ?_
    refine lv_istore_n (lv' := [(1, .int 0), (0, .ref o)]) hx hb dX8_undo_21 rfl hl (by decide) rfl (fun ls hl => ?_)
    have lp_22 : ∀ (K_22 : Int32 → xV → Option (Int32 × xV)), (∀ (x_3 : Int32) (M_4 : xV) (H : Heap) (locs : List Loc) (ls : Array Slot), (∀ q ∈ locs, z ≤ q.base) → PX G o 5 (mdE G o) M_4 H → XF (fun q => (o ≤ q ∧ q < o + 5)) s.heap H → lv_has ls 2 [(0, .ref o)] → K_22 x_3 M_4 = some (r0, M') → W p l e { frames := 0, cells := 0, slots := 0, locals := 0 } s m args below meth c H locs 0 0 Q (F0 m 56 ls [])) → ∀ (n : Nat) (x_3 : Int32) (M_4 : xV) (H : Heap) (locs : List Loc) (ls : Array Slot), (∀ q ∈ locs, z ≤ q.base) → PX G o 5 (mdE G o) M_4 H → XF (fun q => (o ≤ q ∧ q < o + 5)) s.heap H → lv_has ls 2 [(0, .ref o), (1, .int x_3)] → L_X8_undo_22 K_22 n x_3 M_4 = some (r0, M') → W p l e { frames := 0, cells := 0, slots := 0, locals := 0 } s m args below meth c H locs 0 0 Q (F0 m 22 ls []) := by
      intro K_22 hK_22 n
      induction n with
      | zero =>
        intro x_3 M_4 H locs ls hL h_md hF hl hf
        cases hf
      | succ n ih_22 =>
        intro x_3 M_4 H locs ls hL h_md hF hl hf
        unfold L_X8_undo_22 at hf
        refine lv_iload_n hx hb dX8_undo_22 rfl (lv_at hl 1 rfl) ?_
        refine lv_sipush (v := 820) hx hb dX8_undo_23 (by decide) ?_
        refine lv_icmp_ge (tgt := 56) hx hb dX8_undo_26 (by decide) (fun c_5 => ?_) (fun c_5 => ?_)
        · have hf := (if_pos c_5).symm.trans hf
          exact hK_22 x_3 M_4 _ _ _ hL h_md hF (lv_sub hl [0] rfl) hf
        · have hf := (if_neg c_5).symm.trans hf
          refine lv_aload_n hx hb dX8_undo_29 rfl (lv_at hl 0 rfl) ?_
          refine x_get S hK h_md 0 (by decide) rfl rfl rfl in8 0 (by decide) (xm 3 rfl) (x := .ref (o + 1)) rfl dX8_undo_30 ?_
          refine lv_iload_n hx hb dX8_undo_33 rfl (lv_at hl 1 rfl) ?_
          refine lv_aload_n hx hb dX8_undo_34 rfl (lv_at hl 0 rfl) ?_
          refine x_get S hK h_md 0 (by decide) rfl rfl rfl in8 1 (by decide) (xm 4 rfl) (x := .ref (o + 2)) rfl dX8_undo_35 ?_
          refine lv_sipush (v := 820) hx hb dX8_undo_38 (by decide) ?_
          refine lv_aload_n hx hb dX8_undo_41 rfl (lv_at hl 0 rfl) ?_
          refine x_get S hK h_md 0 (by decide) rfl rfl rfl in8 3 (by decide) (xm 1 rfl) (x := .int (M_4 0 3)) rfl dX8_undo_42 ?_
          refine lv_imul hx hb dX8_undo_45 ?_
          refine lv_iload_n hx hb dX8_undo_46 rfl (lv_at hl 1 rfl) ?_
          refine lv_iadd hx hb dX8_undo_47 ?_
          obtain ⟨g_6, hf⟩ := xg_some hf
          refine x_iald S hK h_md 2 (by decide) rfl rfl ((820 * (M_4 0 3)) + x_3).toNatClampNeg rfl g_6 dX8_undo_48 ?_
          obtain ⟨g_7, hf⟩ := xg_some hf
          obtain ⟨M_8, eM_8, hf⟩ := xl_some hf
          refine x_iast S hK h_md hz_md hL 1 (by decide) rfl rfl x_3.toNatClampNeg rfl g_7 rfl eM_8 dX8_undo_49 (fun H1 locs hL h_md hfr => ?_)
          have hF := hF.step hfr (fun q h => by (try dsimp only at h ⊢); omega)
          obtain ⟨x_9, ex_9, hf⟩ := xl_some hf
          refine lv_iinc (v := x_9) (lv' := [(1, .int x_9), (0, .ref o)]) hx hb dX8_undo_50 hl (k := 1) rfl (by rw [ex_9]; rfl) (by decide) rfl (fun ls hl => ?_)
          refine lv_goto (tgt := 22) hx hb dX8_undo_53 (by decide) ?_
          exact ih_22 x_9 M_8 _ _ _ hL h_md hF (lv_sub hl [1, 0] rfl) hf
    refine lp_22 _ (fun x_10 M_11 H locs ls hL h_md hF hl hf => ?_) 100000 0 M_2 _ _ _ hL h_md hF (lv_sub hl [1, 0] rfl) hf
    refine lv_aload_n hx hb dX8_undo_56 rfl (lv_at hl 0 rfl) ?_
    refine x_get S hK h_md 0 (by decide) rfl rfl rfl in8 3 (by decide) (xm 1 rfl) (x := .int (M_11 0 3)) rfl dX8_undo_57 ?_
    obtain ⟨q0, qq0⟩ := Prod.mk.inj (Option.some.inj hf)
    have q1 := qq0
    subst r0
    subst M'
    subst hQ
    refine x_iret (post := (fun H H1 => PX G o 5 (mdE G o) M_11 H1 ∧ XF (fun q => (o ≤ q ∧ q < o + 5)) H H1)) S hr hlocks rfl ?_ hL dX8_undo_60
    exact ⟨h_md, hF⟩
  · have hf := (if_pos c_1).symm.trans hf
    refine lv_ldc (v := (-2000000002)) hx hb hown (hts _ (xm 2 rfl)) dX8_undo_7 ?_
    obtain ⟨q0, qq0⟩ := Prod.mk.inj (Option.some.inj hf)
    have q1 := qq0
    subst r0
    subst M'
    subst hQ
    refine x_iret (post := (fun H H1 => PX G o 5 (mdE G o) M H1 ∧ XF (fun q => (o ≤ q ∧ q < o + 5)) H H1)) S hr hlocks rfl ?_ hL dX8_undo_9
    exact ⟨h_md, hF⟩
