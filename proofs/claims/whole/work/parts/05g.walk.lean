/-! ===== the methods, walked (written by program) ===== -/
set_option maxRecDepth 100000 in
set_option maxHeartbeats 4000000 in
theorem c_X8_sessionPrice (l : Launch) (G : xG) (z : Nat) (o : Nat) (M : xV) (p1 : Int32) (p2 : Int32) (p3 : Int32) (r0 : Int32)  (hf : f_X8_sessionPrice M p1 p2 p3 = some r0) : xM l yX8_sessionPrice wsX8_sessionPrice 0 0 G z [.ref o, .int p1, .int p2, .int p3] (fun H => PX G o 5 (mdE G o) M H) (some (.int r0)) (fun H H1 => H1 = H) := by
  refine xM.of (cc := cX8_sessionPrice) (maxL := 8) (ret := (some .int)) (by decide +kernel) rfl (Nat.le_of_ble_eq_true rfl) ?_
  intro p e s m args below meth c ls Q hQ S hr hlocks hK hP hl
  obtain ⟨hx, hb, hml, hown, hts⟩ := id S
  have h_md := hP
  have hL : ∀ q ∈ ([] : List Loc), z ≤ q.base := fun q h => absurd h List.not_mem_nil
  have hl : lv_has ls 8 [(0, .ref o), (1, .int p1), (2, .int p2), (3, .int p3)] := hl
  have in8 : ∀ w ∈ u_ws RX8 TX8 18, w ∈ wsX8_sessionPrice := fun _ h => List.mem_cons_of_mem _ (List.mem_append_right _ h)
  unfold f_X8_sessionPrice at hf
  refine lv_iconst (v := 0) hx hb dX8_sessionPrice_0 (by decide) ?_
  refine lv_istore (lv' := [(4, .int 0), (0, .ref o), (1, .int p1), (2, .int p2), (3, .int p3)]) hx hb dX8_sessionPrice_1 hl (by decide) rfl (fun ls hl => ?_)
  refine lv_iconst (v := 0) hx hb dX8_sessionPrice_3 (by decide) ?_
  refine lv_istore (lv' := [(5, .int 0), (4, .int 0), (0, .ref o), (1, .int p1), (2, .int p2), (3, .int p3)]) hx hb dX8_sessionPrice_4 hl (by decide) rfl (fun ls hl => ?_)
  have lp_6 : ∀ (K_6 : Int32 → Int32 → Option Int32), (∀ (x_1 : Int32) (x_2 : Int32) (locs : List Loc) (ls : Array Slot), (∀ q ∈ locs, z ≤ q.base) → lv_has ls 8 [(4, .int x_1)] → K_6 x_1 x_2 = some r0 → W p l e { frames := 0, cells := 0, slots := 0, locals := 0 } s m args below meth c s.heap locs 0 0 Q (F0 m 89 ls [])) → ∀ (n : Nat) (x_1 : Int32) (x_2 : Int32) (locs : List Loc) (ls : Array Slot), (∀ q ∈ locs, z ≤ q.base) → lv_has ls 8 [(0, .ref o), (1, .int p1), (2, .int p2), (3, .int p3), (4, .int x_1), (5, .int x_2)] → L_X8_sessionPrice_6 K_6 M p1 p2 p3 n x_1 x_2 = some r0 → W p l e { frames := 0, cells := 0, slots := 0, locals := 0 } s m args below meth c s.heap locs 0 0 Q (F0 m 6 ls []) := by
    intro K_6 hK_6 n
    induction n with
    | zero =>
      intro x_1 x_2 locs ls hL hl hf
      cases hf
    | succ n ih_6 =>
      intro x_1 x_2 locs ls hL hl hf
      unfold L_X8_sessionPrice_6 at hf
      refine lv_iload hx hb dX8_sessionPrice_6 (lv_at hl 5 rfl) ?_
      refine lv_iconst (v := 3) hx hb dX8_sessionPrice_8 (by decide) ?_
      refine lv_icmp_ge (tgt := 89) hx hb dX8_sessionPrice_9 (by decide) (fun c_3 => ?_) (fun c_3 => ?_)
      · have hf := (if_pos c_3).symm.trans hf
        exact hK_6 x_1 x_2 _ _ hL (lv_sub hl [4] rfl) hf
      · have hf := (if_neg c_3).symm.trans hf
        refine lv_iload_n hx hb dX8_sessionPrice_12 rfl (lv_at hl 2 rfl) ?_
        refine lv_istore (lv' := [(6, .int p2), (0, .ref o), (1, .int p1), (2, .int p2), (3, .int p3), (4, .int x_1), (5, .int x_2)]) hx hb dX8_sessionPrice_13 hl (by decide) rfl (fun ls hl => ?_)
        have lp_15 : ∀ (K_15 : Int32 → Int32 → Option Int32), (∀ (x_4 : Int32) (x_5 : Int32) (locs : List Loc) (ls : Array Slot), (∀ q ∈ locs, z ≤ q.base) → lv_has ls 8 [(0, .ref o), (1, .int p1), (2, .int p2), (3, .int p3), (4, .int x_4), (5, .int x_2)] → K_15 x_4 x_5 = some r0 → W p l e { frames := 0, cells := 0, slots := 0, locals := 0 } s m args below meth c s.heap locs 0 0 Q (F0 m 83 ls [])) → ∀ (n : Nat) (x_4 : Int32) (x_5 : Int32) (locs : List Loc) (ls : Array Slot), (∀ q ∈ locs, z ≤ q.base) → lv_has ls 8 [(0, .ref o), (1, .int p1), (2, .int p2), (3, .int p3), (4, .int x_4), (5, .int x_2), (6, .int x_5)] → L_X8_sessionPrice_15 K_15 M p1 p3 x_2 n x_4 x_5 = some r0 → W p l e { frames := 0, cells := 0, slots := 0, locals := 0 } s m args below meth c s.heap locs 0 0 Q (F0 m 15 ls []) := by
          intro K_15 hK_15 n
          induction n with
          | zero =>
            intro x_4 x_5 locs ls hL hl hf
            cases hf
          | succ n ih_15 =>
            intro x_4 x_5 locs ls hL hl hf
            unfold L_X8_sessionPrice_15 at hf
            refine lv_iload hx hb dX8_sessionPrice_15 (lv_at hl 6 rfl) ?_
            refine lv_iload_n hx hb dX8_sessionPrice_17 rfl (lv_at hl 3 rfl) ?_
            refine lv_icmp_ge (tgt := 83) hx hb dX8_sessionPrice_18 (by decide) (fun c_6 => ?_) (fun c_6 => ?_)
            · have hf := (if_pos c_6).symm.trans hf
              exact hK_15 x_4 x_5 _ _ hL (lv_sub hl [0, 1, 2, 3, 4, 5] rfl) hf
            · have hf := (if_neg c_6).symm.trans hf
              refine lv_iload_n hx hb dX8_sessionPrice_21 rfl (lv_at hl 1 rfl) ?_
              refine lv_iload hx hb dX8_sessionPrice_22 (lv_at hl 5 rfl) ?_
              refine lv_ishr hx hb dX8_sessionPrice_24 ?_
              refine lv_iconst (v := 1) hx hb dX8_sessionPrice_25 (by decide) ?_
              refine lv_iand hx hb dX8_sessionPrice_26 ?_
              refine lv_iconst (v := 1) hx hb dX8_sessionPrice_27 (by decide) ?_
              refine lv_icmp_ne (tgt := 43) hx hb dX8_sessionPrice_28 (by decide) (fun c_7 => ?_) (fun c_7 => ?_)
              · have hf := (if_neg c_7).symm.trans hf
                refine lv_iconst (v := 0) hx hb dX8_sessionPrice_43 (by decide) ?_
                refine lv_istore (lv' := [(7, .int 0), (0, .ref o), (1, .int p1), (2, .int p2), (3, .int p3), (4, .int x_4), (5, .int x_2), (6, .int x_5)]) hx hb dX8_sessionPrice_44 hl (by decide) rfl (fun ls hl => ?_)
                refine lv_iload hx hb dX8_sessionPrice_46 (lv_at hl 5 rfl) ?_
                refine lv_iload hx hb dX8_sessionPrice_48 (lv_at hl 0 rfl) ?_
                refine lv_iload hx hb dX8_sessionPrice_50 (lv_at hl 7 rfl) ?_
                refine lv_bipush (v := 18) hx hb dX8_sessionPrice_52 (by decide) ?_
                refine lv_icmp_ge (tgt := 61) hx hb dX8_sessionPrice_54 (by decide) (fun c_8 => ?_) (fun c_8 => ?_)
                · have hf := (if_pos c_8).symm.trans hf
                  refine lv_iload hx hb dX8_sessionPrice_61 (lv_at hl 0 rfl) ?_
                  refine lv_aload_n hx hb dX8_sessionPrice_63 rfl (lv_at hl 1 rfl) ?_
                  refine x_get S hK h_md 0 (by decide) rfl rfl rfl in8 0 (by decide) (xm 1 rfl) (x := .ref (o + 1)) rfl dX8_sessionPrice_64 ?_
                  refine lv_iconst (v := 4) hx hb dX8_sessionPrice_67 (by decide) ?_
                  refine x_iald S hK h_md 1 (by decide) rfl rfl 4 (by decide) (by decide) dX8_sessionPrice_68 ?_
                  refine lv_imul hx hb dX8_sessionPrice_69 ?_
                  refine lv_bipush (v := 100) hx hb dX8_sessionPrice_70 (by decide) ?_
                  refine lv_idiv hx hb dX8_sessionPrice_72 (by decide) ?_
                  refine lv_iadd hx hb dX8_sessionPrice_73 ?_
                  refine lv_iadd hx hb dX8_sessionPrice_74 ?_
                  obtain ⟨x_9, ex_9, hf⟩ := xl_some hf
                  refine x_top ex_9 ?_
                  refine lv_istore (lv' := [(4, .int x_9), (7, .int 0), (0, .ref o), (1, .int p1), (2, .int p2), (3, .int p3), (5, .int x_2), (6, .int x_5)]) hx hb dX8_sessionPrice_75 hl (by decide) rfl (fun ls hl => ?_)
                  obtain ⟨x_10, ex_10, hf⟩ := xl_some hf
                  refine lv_iinc (v := x_10) (lv' := [(6, .int x_10), (4, .int x_9), (7, .int 0), (0, .ref o), (1, .int p1), (2, .int p2), (3, .int p3), (5, .int x_2)]) hx hb dX8_sessionPrice_77 hl (k := 7) rfl (by rw [ex_10]; rfl) (by decide) rfl (fun ls hl => ?_)
                  refine lv_goto (tgt := 15) hx hb dX8_sessionPrice_80 (by decide) ?_
                  exact ih_15 x_9 x_10 _ _ hL (lv_sub hl [3, 4, 5, 6, 1, 7, 0] rfl) hf
                · have hf := (if_neg c_8).symm.trans hf
                  refine lv_iconst (v := 0) hx hb dX8_sessionPrice_57 (by decide) ?_
                  refine lv_goto (tgt := 73) hx hb dX8_sessionPrice_58 (by decide) ?_
                  refine lv_iadd hx hb dX8_sessionPrice_73 ?_
                  refine x_top (x := 0) (by decide) ?_
                  refine lv_iadd hx hb dX8_sessionPrice_74 ?_
                  obtain ⟨x_11, ex_11, hf⟩ := xl_some hf
                  refine x_top ex_11 ?_
                  refine lv_istore (lv' := [(4, .int x_11), (7, .int 0), (0, .ref o), (1, .int p1), (2, .int p2), (3, .int p3), (5, .int x_2), (6, .int x_5)]) hx hb dX8_sessionPrice_75 hl (by decide) rfl (fun ls hl => ?_)
                  obtain ⟨x_12, ex_12, hf⟩ := xl_some hf
                  refine lv_iinc (v := x_12) (lv' := [(6, .int x_12), (4, .int x_11), (7, .int 0), (0, .ref o), (1, .int p1), (2, .int p2), (3, .int p3), (5, .int x_2)]) hx hb dX8_sessionPrice_77 hl (k := 7) rfl (by rw [ex_12]; rfl) (by decide) rfl (fun ls hl => ?_)
                  refine lv_goto (tgt := 15) hx hb dX8_sessionPrice_80 (by decide) ?_
                  exact ih_15 x_11 x_12 _ _ hL (lv_sub hl [3, 4, 5, 6, 1, 7, 0] rfl) hf
              · have hf := (if_pos c_7).symm.trans hf
                refine lv_aload_n hx hb dX8_sessionPrice_31 rfl (lv_at hl 0 rfl) ?_
                refine x_get S hK h_md 0 (by decide) rfl rfl rfl in8 0 (by decide) (xm 1 rfl) (x := .ref (o + 1)) rfl dX8_sessionPrice_32 ?_
                refine lv_iconst (v := 1) hx hb dX8_sessionPrice_35 (by decide) ?_
                refine lv_iload hx hb dX8_sessionPrice_36 (lv_at hl 5 rfl) ?_
                refine lv_iadd hx hb dX8_sessionPrice_38 ?_
                obtain ⟨g_13, hf⟩ := xg_some hf
                refine x_iald S hK h_md 1 (by decide) rfl rfl (1 + x_2).toNatClampNeg rfl g_13 dX8_sessionPrice_39 ?_
                refine lv_goto (tgt := 44) hx hb dX8_sessionPrice_40 (by decide) ?_
                obtain ⟨x_14, ex_14, hf⟩ := xl_some hf
                refine x_top ex_14 ?_
                refine lv_istore (lv' := [(7, .int x_14), (0, .ref o), (1, .int p1), (2, .int p2), (3, .int p3), (4, .int x_4), (5, .int x_2), (6, .int x_5)]) hx hb dX8_sessionPrice_44 hl (by decide) rfl (fun ls hl => ?_)
                refine lv_iload hx hb dX8_sessionPrice_46 (lv_at hl 5 rfl) ?_
                refine lv_iload hx hb dX8_sessionPrice_48 (lv_at hl 0 rfl) ?_
                refine lv_iload hx hb dX8_sessionPrice_50 (lv_at hl 7 rfl) ?_
                refine lv_bipush (v := 18) hx hb dX8_sessionPrice_52 (by decide) ?_
                refine lv_icmp_ge (tgt := 61) hx hb dX8_sessionPrice_54 (by decide) (fun c_15 => ?_) (fun c_15 => ?_)
                · have hf := (if_pos c_15).symm.trans hf
                  refine lv_iload hx hb dX8_sessionPrice_61 (lv_at hl 0 rfl) ?_
                  refine lv_aload_n hx hb dX8_sessionPrice_63 rfl (lv_at hl 1 rfl) ?_
                  refine x_get S hK h_md 0 (by decide) rfl rfl rfl in8 0 (by decide) (xm 1 rfl) (x := .ref (o + 1)) rfl dX8_sessionPrice_64 ?_
                  refine lv_iconst (v := 4) hx hb dX8_sessionPrice_67 (by decide) ?_
                  refine x_iald S hK h_md 1 (by decide) rfl rfl 4 (by decide) (by decide) dX8_sessionPrice_68 ?_
                  refine lv_imul hx hb dX8_sessionPrice_69 ?_
                  refine lv_bipush (v := 100) hx hb dX8_sessionPrice_70 (by decide) ?_
                  refine lv_idiv hx hb dX8_sessionPrice_72 (by decide) ?_
                  refine lv_iadd hx hb dX8_sessionPrice_73 ?_
                  refine lv_iadd hx hb dX8_sessionPrice_74 ?_
                  obtain ⟨x_16, ex_16, hf⟩ := xl_some hf
                  refine x_top ex_16 ?_
                  refine lv_istore (lv' := [(4, .int x_16), (7, .int x_14), (0, .ref o), (1, .int p1), (2, .int p2), (3, .int p3), (5, .int x_2), (6, .int x_5)]) hx hb dX8_sessionPrice_75 hl (by decide) rfl (fun ls hl => ?_)
                  obtain ⟨x_17, ex_17, hf⟩ := xl_some hf
                  refine lv_iinc (v := x_17) (lv' := [(6, .int x_17), (4, .int x_16), (7, .int x_14), (0, .ref o), (1, .int p1), (2, .int p2), (3, .int p3), (5, .int x_2)]) hx hb dX8_sessionPrice_77 hl (k := 7) rfl (by rw [ex_17]; rfl) (by decide) rfl (fun ls hl => ?_)
                  refine lv_goto (tgt := 15) hx hb dX8_sessionPrice_80 (by decide) ?_
                  exact ih_15 x_16 x_17 _ _ hL (lv_sub hl [3, 4, 5, 6, 1, 7, 0] rfl) hf
                · have hf := (if_neg c_15).symm.trans hf
                  refine lv_iconst (v := 0) hx hb dX8_sessionPrice_57 (by decide) ?_
                  refine lv_goto (tgt := 73) hx hb dX8_sessionPrice_58 (by decide) ?_
                  refine lv_iadd hx hb dX8_sessionPrice_73 ?_
                  refine lv_iadd hx hb dX8_sessionPrice_74 ?_
                  obtain ⟨x_18, ex_18, hf⟩ := xl_some hf
                  refine x_top ex_18 ?_
                  refine lv_istore (lv' := [(4, .int x_18), (7, .int x_14), (0, .ref o), (1, .int p1), (2, .int p2), (3, .int p3), (5, .int x_2), (6, .int x_5)]) hx hb dX8_sessionPrice_75 hl (by decide) rfl (fun ls hl => ?_)
                  obtain ⟨x_19, ex_19, hf⟩ := xl_some hf
                  refine lv_iinc (v := x_19) (lv' := [(6, .int x_19), (4, .int x_18), (7, .int x_14), (0, .ref o), (1, .int p1), (2, .int p2), (3, .int p3), (5, .int x_2)]) hx hb dX8_sessionPrice_77 hl (k := 7) rfl (by rw [ex_19]; rfl) (by decide) rfl (fun ls hl => ?_)
                  refine lv_goto (tgt := 15) hx hb dX8_sessionPrice_80 (by decide) ?_
                  exact ih_15 x_18 x_19 _ _ hL (lv_sub hl [3, 4, 5, 6, 1, 7, 0] rfl) hf
        refine lp_15 _ (fun x_20 x_21 locs ls hL hl hf => ?_) 100000 x_1 p2 _ _ hL (lv_sub hl [1, 2, 3, 4, 5, 6, 0] rfl) hf
        obtain ⟨x_22, ex_22, hf⟩ := xl_some hf
        refine lv_iinc (v := x_22) (lv' := [(5, .int x_22), (0, .ref o), (1, .int p1), (2, .int p2), (3, .int p3), (4, .int x_20)]) hx hb dX8_sessionPrice_83 hl (k := 5) rfl (by rw [ex_22]; rfl) (by decide) rfl (fun ls hl => ?_)
        refine lv_goto (tgt := 6) hx hb dX8_sessionPrice_86 (by decide) ?_
        exact ih_6 x_20 x_22 _ _ hL (lv_sub hl [1, 2, 3, 4, 5, 0] rfl) hf
  refine lp_6 _ (fun x_23 x_24 locs ls hL hl hf => ?_) 100000 0 0 _ _ hL (lv_sub hl [2, 3, 4, 5, 1, 0] rfl) hf
  refine lv_iload hx hb dX8_sessionPrice_89 (lv_at hl 0 rfl) ?_
  have q0 := Option.some.inj hf
  subst r0
  subst hQ
  refine x_iret (post := (fun H H1 => H1 = H)) S hr hlocks rfl ?_ hL dX8_sessionPrice_91
  exact rfl
set_option maxRecDepth 100000 in
set_option maxHeartbeats 4000000 in
theorem c_X8_priceOf (l : Launch) (G : xG) (z : Nat) (o : Nat) (M : xV) (p1 : Int32) (p2 : Int32) (p3 : Int32) (p4 : Int32) (r0 : Int32)  (hf : f_X8_priceOf M p1 p2 p3 p4 = some r0) : xM l yX8_priceOf wsX8_priceOf 1 27 G z [.ref o, .int p1, .int p2, .int p3, .int p4] (fun H => PX G o 5 (mdE G o) M H) (some (.int r0)) (fun H H1 => H1 = H) := by
  refine xM.of (cc := cX8_priceOf) (maxL := 6) (ret := (some .int)) (by decide +kernel) rfl (Nat.le_of_ble_eq_true rfl) ?_
  intro p e s m args below meth c ls Q hQ S hr hlocks hK hP hl
  obtain ⟨hx, hb, hml, hown, hts⟩ := id S
  have h_md := hP
  have hL : ∀ q ∈ ([] : List Loc), z ≤ q.base := fun q h => absurd h List.not_mem_nil
  have hl : lv_has ls 6 [(0, .ref o), (1, .int p1), (2, .int p2), (3, .int p3), (4, .int p4)] := hl
  unfold f_X8_priceOf at hf
  refine lv_iload hx hb dX8_priceOf_0 (lv_at hl 4 rfl) ?_
  refine lv_aload_n hx hb dX8_priceOf_2 rfl (lv_at hl 0 rfl) ?_
  refine lv_iload_n hx hb dX8_priceOf_3 rfl (lv_at hl 1 rfl) ?_
  refine lv_iload_n hx hb dX8_priceOf_4 rfl (lv_at hl 2 rfl) ?_
  refine lv_iload_n hx hb dX8_priceOf_5 rfl (lv_at hl 3 rfl) ?_
  obtain ⟨r_1, e_2, hf⟩ := xb_some hf
  refine x_callVi (As := [.int p1, .int p2, .int p3]) (rest := [.int p4]) S hK (c_X8_sessionPrice l G z o M p1 p2 p3 r_1 e_2) gX8_priceOf_X8_sessionPrice rfl 3 (by decide +kernel) rfl ⟨Nat.le_of_ble_eq_true rfl, Nat.le_of_ble_eq_true rfl⟩ h_md 0 (by decide) rfl rfl rfl h_md hl.1 rfl (Nat.le_of_ble_eq_true rfl) dX8_priceOf_6 hL ⟨Nat.zero_le _, Nat.zero_le _⟩ (fun H1 locs hL hpost => ?_)
  subst hpost
  refine lv_imul hx hb dX8_priceOf_9 ?_
  obtain ⟨x_3, ex_3, hf⟩ := xl_some hf
  refine x_top ex_3 ?_
  refine lv_istore (lv' := [(5, .int x_3), (0, .ref o), (1, .int p1), (2, .int p2), (3, .int p3), (4, .int p4)]) hx hb dX8_priceOf_10 hl (by decide) rfl (fun ls hl => ?_)
  refine lv_iload hx hb dX8_priceOf_12 (lv_at hl 0 rfl) ?_
  refine lv_iload hx hb dX8_priceOf_14 (lv_at hl 0 rfl) ?_
  refine lv_iload hx hb dX8_priceOf_16 (lv_at hl 5 rfl) ?_
  obtain ⟨r_4, e_5, hf⟩ := xb_some hf
  refine x_callTi (As := [.int p4]) (rest := [.int x_3, .int x_3]) S hK (c_X8_discountOf l G z p4 r_4 e_5) gX8_priceOf_X8_discountOf rfl 1 (by decide +kernel) rfl ⟨Nat.le_of_ble_eq_true rfl, Nat.le_of_ble_eq_true rfl⟩ rfl hl.1 rfl (Nat.le_of_ble_eq_true rfl) dX8_priceOf_18 hL ⟨Nat.zero_le _, Nat.zero_le _⟩ (fun H1 locs hL hpost => ?_)
  subst hpost
  refine lv_imul hx hb dX8_priceOf_21 ?_
  refine lv_bipush (v := 100) hx hb dX8_priceOf_22 (by decide) ?_
  refine lv_idiv hx hb dX8_priceOf_24 (by decide) ?_
  refine lv_isub hx hb dX8_priceOf_25 ?_
  have q0 := Option.some.inj hf
  subst r0
  subst hQ
  refine x_iret (post := (fun H H1 => H1 = H)) S hr hlocks rfl ?_ hL dX8_priceOf_26
  exact rfl
set_option maxRecDepth 100000 in
set_option maxHeartbeats 4000000 in
theorem c_X8_makes (l : Launch) (G : xG) (z : Nat) (o : Nat) (M : xV) (p1 : Int32) (p2 : Int32) (p3 : Int32) (p4 : Int32) (p5 : Int32) (p6 : Int32) (p7 : Int32) (M' : xV) (hz_md : z ≤ o) (hf : f_X8_makes M p1 p2 p3 p4 p5 p6 p7 = some M') : xM l yX8_makes wsX8_makes 2 52 G z [.ref o, .int p1, .int p2, .int p3, .int p4, .int p5, .int p6, .int p7] (fun H => PX G o 5 (mdE G o) M H) none (fun H H1 => PX G o 5 (mdE G o) M' H1 ∧ XF (fun q => (o ≤ q ∧ q < o + 5)) H H1) := by
  refine xM.of (cc := cX8_makes) (maxL := 12) (ret := none) (by decide +kernel) rfl (Nat.le_of_ble_eq_true rfl) ?_
  intro p e s m args below meth c ls Q hQ S hr hlocks hK hP hl
  obtain ⟨hx, hb, hml, hown, hts⟩ := id S
  have h_md := hP
  have hL : ∀ q ∈ ([] : List Loc), z ≤ q.base := fun q h => absurd h List.not_mem_nil
  have hF : XF (fun q => (o ≤ q ∧ q < o + 5)) s.heap s.heap := XF.rf
  have hl : lv_has ls 12 [(0, .ref o), (1, .int p1), (2, .int p2), (3, .int p3), (4, .int p4), (5, .int p5), (6, .int p6), (7, .int p7)] := hl
  have in8 : ∀ w ∈ u_ws RX8 TX8 18, w ∈ wsX8_makes := fun _ h => List.mem_cons_of_mem _ (List.mem_append_right _ h)
  unfold f_X8_makes at hf
  refine lv_aload_n hx hb dX8_makes_0 rfl (lv_at hl 0 rfl) ?_
  refine x_get S hK h_md 0 (by decide) rfl rfl rfl in8 0 (by decide) (xm 1 rfl) (x := .ref (o + 1)) rfl dX8_makes_1 ?_
  refine lv_bipush (v := 10) hx hb dX8_makes_4 (by decide) ?_
  refine x_iald S hK h_md 1 (by decide) rfl rfl 10 (by decide) (by decide) dX8_makes_6 ?_
  obtain ⟨x_1, ex_1, hf⟩ := xl_some hf
  refine x_top ex_1 ?_
  refine lv_istore (lv' := [(8, .int x_1), (0, .ref o), (1, .int p1), (2, .int p2), (3, .int p3), (4, .int p4), (5, .int p5), (6, .int p6), (7, .int p7)]) hx hb dX8_makes_7 hl (by decide) rfl (fun ls hl => ?_)
  refine lv_aload_n hx hb dX8_makes_9 rfl (lv_at hl 1 rfl) ?_
  refine lv_iload_n hx hb dX8_makes_10 rfl (lv_at hl 3 rfl) ?_
  refine lv_iload hx hb dX8_makes_11 (lv_at hl 5 rfl) ?_
  refine lv_iload hx hb dX8_makes_13 (lv_at hl 6 rfl) ?_
  refine lv_iload hx hb dX8_makes_15 (lv_at hl 7 rfl) ?_
  obtain ⟨r_2, e_3, hf⟩ := xb_some hf
  refine x_callVi (As := [.int p2, .int p4, .int p5, .int p6]) (rest := []) S hK (c_X8_priceOf l G z o M p2 p4 p5 p6 r_2 e_3) gX8_makes_X8_priceOf rfl 4 (by decide +kernel) rfl ⟨Nat.le_of_ble_eq_true rfl, Nat.le_of_ble_eq_true rfl⟩ h_md 0 (by decide) rfl rfl rfl h_md hl.1 rfl (Nat.le_of_ble_eq_true rfl) dX8_makes_17 hL ⟨Nat.zero_le _, Nat.zero_le _⟩ (fun H1 locs hL hpost => ?_)
  subst hpost
  refine lv_istore (lv' := [(9, .int r_2), (8, .int x_1), (0, .ref o), (1, .int p1), (2, .int p2), (3, .int p3), (4, .int p4), (5, .int p5), (6, .int p6), (7, .int p7)]) hx hb dX8_makes_20 hl (by decide) rfl (fun ls hl => ?_)
  refine lv_aload_n hx hb dX8_makes_22 rfl (lv_at hl 2 rfl) ?_
  refine x_get S hK h_md 0 (by decide) rfl rfl rfl in8 0 (by decide) (xm 1 rfl) (x := .ref (o + 1)) rfl dX8_makes_23 ?_
  refine lv_bipush (v := 6) hx hb dX8_makes_26 (by decide) ?_
  refine x_iald S hK h_md 1 (by decide) rfl rfl 6 (by decide) (by decide) dX8_makes_28 ?_
  obtain ⟨x_4, ex_4, hf⟩ := xl_some hf
  refine x_top ex_4 ?_
  refine lv_istore (lv' := [(10, .int x_4), (9, .int r_2), (8, .int x_1), (0, .ref o), (1, .int p1), (2, .int p2), (3, .int p3), (4, .int p4), (5, .int p5), (6, .int p6), (7, .int p7)]) hx hb dX8_makes_29 hl (by decide) rfl (fun ls hl => ?_)
  refine lv_iconst (v := 0) hx hb dX8_makes_31 (by decide) ?_
  refine lv_istore (lv' := [(11, .int 0), (10, .int x_4), (9, .int r_2), (8, .int x_1), (0, .ref o), (1, .int p1), (2, .int p2), (3, .int p3), (4, .int p4), (5, .int p5), (6, .int p6), (7, .int p7)]) hx hb dX8_makes_32 hl (by decide) rfl (fun ls hl => ?_)
  have lp_34 : ∀ (K_34 : Int32 → xV → Option xV), (∀ (x_5 : Int32) (M_6 : xV) (H : Heap) (locs : List Loc) (ls : Array Slot), (∀ q ∈ locs, z ≤ q.base) → PX G o 5 (mdE G o) M_6 H → XF (fun q => (o ≤ q ∧ q < o + 5)) s.heap H → lv_has ls 12 [(0, .ref o), (1, .int p1), (2, .int p2), (3, .int p3), (4, .int p4), (5, .int p5), (6, .int p6), (7, .int p7), (8, .int x_1), (9, .int r_2), (10, .int x_4)] → K_34 x_5 M_6 = some M' → W p l e { frames := 2, cells := 0, slots := 0, locals := 52 } s m args below meth c H locs 0 0 Q (F0 m 60 ls [])) → ∀ (n : Nat) (x_5 : Int32) (M_6 : xV) (H : Heap) (locs : List Loc) (ls : Array Slot), (∀ q ∈ locs, z ≤ q.base) → PX G o 5 (mdE G o) M_6 H → XF (fun q => (o ≤ q ∧ q < o + 5)) s.heap H → lv_has ls 12 [(0, .ref o), (1, .int p1), (2, .int p2), (3, .int p3), (4, .int p4), (5, .int p5), (6, .int p6), (7, .int p7), (8, .int x_1), (9, .int r_2), (10, .int x_4), (11, .int x_5)] → L_X8_makes_34 K_34 x_1 n x_5 M_6 = some M' → W p l e { frames := 2, cells := 0, slots := 0, locals := 52 } s m args below meth c H locs 0 0 Q (F0 m 34 ls []) := by
    intro K_34 hK_34 n
    induction n with
    | zero =>
      intro x_5 M_6 H locs ls hL h_md hF hl hf
      cases hf
    | succ n ih_34 =>
      intro x_5 M_6 H locs ls hL h_md hF hl hf
      unfold L_X8_makes_34 at hf
      refine lv_iload hx hb dX8_makes_34 (lv_at hl 11 rfl) ?_
      refine lv_bipush (v := 64) hx hb dX8_makes_36 (by decide) ?_
      refine lv_icmp_ge (tgt := 60) hx hb dX8_makes_38 (by decide) (fun c_7 => ?_) (fun c_7 => ?_)
      · have hf := (if_pos c_7).symm.trans hf
        exact hK_34 x_5 M_6 _ _ _ hL h_md hF (lv_sub hl [0, 1, 2, 3, 4, 5, 6, 7, 8, 9, 10] rfl) hf
      · have hf := (if_neg c_7).symm.trans hf
        refine lv_aload_n hx hb dX8_makes_41 rfl (lv_at hl 0 rfl) ?_
        refine x_get S hK h_md 0 (by decide) rfl rfl rfl in8 0 (by decide) (xm 1 rfl) (x := .ref (o + 1)) rfl dX8_makes_42 ?_
        refine lv_iload hx hb dX8_makes_45 (lv_at hl 8 rfl) ?_
        refine lv_iload hx hb dX8_makes_47 (lv_at hl 11 rfl) ?_
        obtain ⟨r_8, e_9, hf⟩ := xb_some hf
        refine x_callTi (As := [.int x_1, .int x_5]) (rest := [.ref (o + 1)]) S hK (c_X8_at l G z x_1 x_5 r_8 e_9) gX8_makes_X8_at rfl 2 (by decide +kernel) rfl ⟨Nat.le_of_ble_eq_true rfl, Nat.le_of_ble_eq_true rfl⟩ rfl hl.1 rfl (Nat.le_of_ble_eq_true rfl) dX8_makes_49 hL ⟨Nat.zero_le _, Nat.zero_le _⟩ (fun H1 locs hL hpost => ?_)
        subst hpost
        refine lv_iconst (v := 0) hx hb dX8_makes_52 (by decide) ?_
        obtain ⟨g_10, hf⟩ := xg_some hf
        obtain ⟨M_11, eM_11, hf⟩ := xl_some hf
        refine x_iast S hK h_md hz_md hL 1 (by decide) rfl rfl r_8.toNatClampNeg rfl g_10 rfl eM_11 dX8_makes_53 (fun H1 locs hL h_md hfr => ?_)
        have hF := hF.step hfr (fun q h => by (try dsimp only at h ⊢); omega)
        obtain ⟨x_12, ex_12, hf⟩ := xl_some hf
        refine lv_iinc (v := x_12) (lv' := [(11, .int x_12), (0, .ref o), (1, .int p1), (2, .int p2), (3, .int p3), (4, .int p4), (5, .int p5), (6, .int p6), (7, .int p7), (8, .int x_1), (9, .int r_2), (10, .int x_4)]) hx hb dX8_makes_54 hl (k := 11) rfl (by rw [ex_12]; rfl) (by decide) rfl (fun ls hl => ?_)
        refine lv_goto (tgt := 34) hx hb dX8_makes_57 (by decide) ?_
        exact ih_34 x_12 M_11 _ _ _ hL h_md hF (lv_sub hl [1, 2, 3, 4, 5, 6, 7, 8, 9, 10, 11, 0] rfl) hf
  refine lp_34 _ (fun x_13 M_14 H locs ls hL h_md hF hl hf => ?_) 100000 0 M _ _ _ hL h_md hF (lv_sub hl [4, 5, 6, 7, 8, 9, 10, 11, 3, 2, 1, 0] rfl) hf
  refine lv_aload_n hx hb dX8_makes_60 rfl (lv_at hl 0 rfl) ?_
  refine x_get S hK h_md 0 (by decide) rfl rfl rfl in8 0 (by decide) (xm 1 rfl) (x := .ref (o + 1)) rfl dX8_makes_61 ?_
  refine lv_iload hx hb dX8_makes_64 (lv_at hl 8 rfl) ?_
  refine lv_iconst (v := 0) hx hb dX8_makes_66 (by decide) ?_
  obtain ⟨r_15, e_16, hf⟩ := xb_some hf
  refine x_callTi (As := [.int x_1, .int 0]) (rest := [.ref (o + 1)]) S hK (c_X8_at l G z x_1 0 r_15 e_16) gX8_makes_X8_at rfl 2 (by decide +kernel) rfl ⟨Nat.le_of_ble_eq_true rfl, Nat.le_of_ble_eq_true rfl⟩ rfl hl.1 rfl (Nat.le_of_ble_eq_true rfl) dX8_makes_67 hL ⟨Nat.zero_le _, Nat.zero_le _⟩ (fun H1 locs hL hpost => ?_)
  subst hpost
  refine lv_iload_n hx hb dX8_makes_70 rfl (lv_at hl 1 rfl) ?_
  obtain ⟨g_17, hf⟩ := xg_some hf
  obtain ⟨M_18, eM_18, hf⟩ := xl_some hf
  refine x_iast S hK h_md hz_md hL 1 (by decide) rfl rfl r_15.toNatClampNeg rfl g_17 rfl eM_18 dX8_makes_71 (fun H1 locs hL h_md hfr => ?_)
  have hF := hF.step hfr (fun q h => by (try dsimp only at h ⊢); omega)
  refine lv_aload_n hx hb dX8_makes_72 rfl (lv_at hl 0 rfl) ?_
  refine x_get S hK h_md 0 (by decide) rfl rfl rfl in8 0 (by decide) (xm 1 rfl) (x := .ref (o + 1)) rfl dX8_makes_73 ?_
  refine lv_iload hx hb dX8_makes_76 (lv_at hl 8 rfl) ?_
  refine lv_iconst (v := 1) hx hb dX8_makes_78 (by decide) ?_
  obtain ⟨r_19, e_20, hf⟩ := xb_some hf
  refine x_callTi (As := [.int x_1, .int 1]) (rest := [.ref (o + 1)]) S hK (c_X8_at l G z x_1 1 r_19 e_20) gX8_makes_X8_at rfl 2 (by decide +kernel) rfl ⟨Nat.le_of_ble_eq_true rfl, Nat.le_of_ble_eq_true rfl⟩ rfl hl.1 rfl (Nat.le_of_ble_eq_true rfl) dX8_makes_79 hL ⟨Nat.zero_le _, Nat.zero_le _⟩ (fun H1 locs hL hpost => ?_)
  subst hpost
  refine lv_iload_n hx hb dX8_makes_82 rfl (lv_at hl 2 rfl) ?_
  obtain ⟨g_21, hf⟩ := xg_some hf
  obtain ⟨M_22, eM_22, hf⟩ := xl_some hf
  refine x_iast S hK h_md hz_md hL 1 (by decide) rfl rfl r_19.toNatClampNeg rfl g_21 rfl eM_22 dX8_makes_83 (fun H1 locs hL h_md hfr => ?_)
  have hF := hF.step hfr (fun q h => by (try dsimp only at h ⊢); omega)
  refine lv_aload_n hx hb dX8_makes_84 rfl (lv_at hl 0 rfl) ?_
  refine x_get S hK h_md 0 (by decide) rfl rfl rfl in8 0 (by decide) (xm 1 rfl) (x := .ref (o + 1)) rfl dX8_makes_85 ?_
  refine lv_iload hx hb dX8_makes_88 (lv_at hl 8 rfl) ?_
  refine lv_iconst (v := 2) hx hb dX8_makes_90 (by decide) ?_
  obtain ⟨r_23, e_24, hf⟩ := xb_some hf
  refine x_callTi (As := [.int x_1, .int 2]) (rest := [.ref (o + 1)]) S hK (c_X8_at l G z x_1 2 r_23 e_24) gX8_makes_X8_at rfl 2 (by decide +kernel) rfl ⟨Nat.le_of_ble_eq_true rfl, Nat.le_of_ble_eq_true rfl⟩ rfl hl.1 rfl (Nat.le_of_ble_eq_true rfl) dX8_makes_91 hL ⟨Nat.zero_le _, Nat.zero_le _⟩ (fun H1 locs hL hpost => ?_)
  subst hpost
  refine lv_iload hx hb dX8_makes_94 (lv_at hl 4 rfl) ?_
  obtain ⟨g_25, hf⟩ := xg_some hf
  obtain ⟨M_26, eM_26, hf⟩ := xl_some hf
  refine x_iast S hK h_md hz_md hL 1 (by decide) rfl rfl r_23.toNatClampNeg rfl g_25 rfl eM_26 dX8_makes_96 (fun H1 locs hL h_md hfr => ?_)
  have hF := hF.step hfr (fun q h => by (try dsimp only at h ⊢); omega)
  refine lv_aload_n hx hb dX8_makes_97 rfl (lv_at hl 0 rfl) ?_
  refine x_get S hK h_md 0 (by decide) rfl rfl rfl in8 0 (by decide) (xm 1 rfl) (x := .ref (o + 1)) rfl dX8_makes_98 ?_
  refine lv_iload hx hb dX8_makes_101 (lv_at hl 8 rfl) ?_
  refine lv_iconst (v := 3) hx hb dX8_makes_103 (by decide) ?_
  obtain ⟨r_27, e_28, hf⟩ := xb_some hf
  refine x_callTi (As := [.int x_1, .int 3]) (rest := [.ref (o + 1)]) S hK (c_X8_at l G z x_1 3 r_27 e_28) gX8_makes_X8_at rfl 2 (by decide +kernel) rfl ⟨Nat.le_of_ble_eq_true rfl, Nat.le_of_ble_eq_true rfl⟩ rfl hl.1 rfl (Nat.le_of_ble_eq_true rfl) dX8_makes_104 hL ⟨Nat.zero_le _, Nat.zero_le _⟩ (fun H1 locs hL hpost => ?_)
  subst hpost
  refine lv_iload hx hb dX8_makes_107 (lv_at hl 5 rfl) ?_
  obtain ⟨g_29, hf⟩ := xg_some hf
  obtain ⟨M_30, eM_30, hf⟩ := xl_some hf
  refine x_iast S hK h_md hz_md hL 1 (by decide) rfl rfl r_27.toNatClampNeg rfl g_29 rfl eM_30 dX8_makes_109 (fun H1 locs hL h_md hfr => ?_)
  have hF := hF.step hfr (fun q h => by (try dsimp only at h ⊢); omega)
  refine lv_aload_n hx hb dX8_makes_110 rfl (lv_at hl 0 rfl) ?_
  refine x_get S hK h_md 0 (by decide) rfl rfl rfl in8 0 (by decide) (xm 1 rfl) (x := .ref (o + 1)) rfl dX8_makes_111 ?_
  refine lv_iload hx hb dX8_makes_114 (lv_at hl 8 rfl) ?_
  refine lv_iconst (v := 4) hx hb dX8_makes_116 (by decide) ?_
  obtain ⟨r_31, e_32, hf⟩ := xb_some hf
  refine x_callTi (As := [.int x_1, .int 4]) (rest := [.ref (o + 1)]) S hK (c_X8_at l G z x_1 4 r_31 e_32) gX8_makes_X8_at rfl 2 (by decide +kernel) rfl ⟨Nat.le_of_ble_eq_true rfl, Nat.le_of_ble_eq_true rfl⟩ rfl hl.1 rfl (Nat.le_of_ble_eq_true rfl) dX8_makes_117 hL ⟨Nat.zero_le _, Nat.zero_le _⟩ (fun H1 locs hL hpost => ?_)
  subst hpost
  refine lv_iload hx hb dX8_makes_120 (lv_at hl 6 rfl) ?_
  obtain ⟨g_33, hf⟩ := xg_some hf
  obtain ⟨M_34, eM_34, hf⟩ := xl_some hf
  refine x_iast S hK h_md hz_md hL 1 (by decide) rfl rfl r_31.toNatClampNeg rfl g_33 rfl eM_34 dX8_makes_122 (fun H1 locs hL h_md hfr => ?_)
  have hF := hF.step hfr (fun q h => by (try dsimp only at h ⊢); omega)
  refine lv_aload_n hx hb dX8_makes_123 rfl (lv_at hl 0 rfl) ?_
  refine x_get S hK h_md 0 (by decide) rfl rfl rfl in8 0 (by decide) (xm 1 rfl) (x := .ref (o + 1)) rfl dX8_makes_124 ?_
  refine lv_iload hx hb dX8_makes_127 (lv_at hl 8 rfl) ?_
  refine lv_iconst (v := 5) hx hb dX8_makes_129 (by decide) ?_
  obtain ⟨r_35, e_36, hf⟩ := xb_some hf
  refine x_callTi (As := [.int x_1, .int 5]) (rest := [.ref (o + 1)]) S hK (c_X8_at l G z x_1 5 r_35 e_36) gX8_makes_X8_at rfl 2 (by decide +kernel) rfl ⟨Nat.le_of_ble_eq_true rfl, Nat.le_of_ble_eq_true rfl⟩ rfl hl.1 rfl (Nat.le_of_ble_eq_true rfl) dX8_makes_130 hL ⟨Nat.zero_le _, Nat.zero_le _⟩ (fun H1 locs hL hpost => ?_)
  subst hpost
  refine lv_iload_n hx hb dX8_makes_133 rfl (lv_at hl 3 rfl) ?_
  obtain ⟨g_37, hf⟩ := xg_some hf
  obtain ⟨M_38, eM_38, hf⟩ := xl_some hf
  refine x_iast S hK h_md hz_md hL 1 (by decide) rfl rfl r_35.toNatClampNeg rfl g_37 rfl eM_38 dX8_makes_134 (fun H1 locs hL h_md hfr => ?_)
  have hF := hF.step hfr (fun q h => by (try dsimp only at h ⊢); omega)
  refine lv_aload_n hx hb dX8_makes_135 rfl (lv_at hl 0 rfl) ?_
  refine x_get S hK h_md 0 (by decide) rfl rfl rfl in8 0 (by decide) (xm 1 rfl) (x := .ref (o + 1)) rfl dX8_makes_136 ?_
  refine lv_iload hx hb dX8_makes_139 (lv_at hl 8 rfl) ?_
  refine lv_bipush (v := 6) hx hb dX8_makes_141 (by decide) ?_
  obtain ⟨r_39, e_40, hf⟩ := xb_some hf
  refine x_callTi (As := [.int x_1, .int 6]) (rest := [.ref (o + 1)]) S hK (c_X8_at l G z x_1 6 r_39 e_40) gX8_makes_X8_at rfl 2 (by decide +kernel) rfl ⟨Nat.le_of_ble_eq_true rfl, Nat.le_of_ble_eq_true rfl⟩ rfl hl.1 rfl (Nat.le_of_ble_eq_true rfl) dX8_makes_143 hL ⟨Nat.zero_le _, Nat.zero_le _⟩ (fun H1 locs hL hpost => ?_)
  subst hpost
  refine lv_iload hx hb dX8_makes_146 (lv_at hl 7 rfl) ?_
  obtain ⟨g_41, hf⟩ := xg_some hf
  obtain ⟨M_42, eM_42, hf⟩ := xl_some hf
  refine x_iast S hK h_md hz_md hL 1 (by decide) rfl rfl r_39.toNatClampNeg rfl g_41 rfl eM_42 dX8_makes_148 (fun H1 locs hL h_md hfr => ?_)
  have hF := hF.step hfr (fun q h => by (try dsimp only at h ⊢); omega)
  refine lv_aload_n hx hb dX8_makes_149 rfl (lv_at hl 0 rfl) ?_
  refine x_get S hK h_md 0 (by decide) rfl rfl rfl in8 0 (by decide) (xm 1 rfl) (x := .ref (o + 1)) rfl dX8_makes_150 ?_
  refine lv_iload hx hb dX8_makes_153 (lv_at hl 8 rfl) ?_
  refine lv_bipush (v := 7) hx hb dX8_makes_155 (by decide) ?_
  obtain ⟨r_43, e_44, hf⟩ := xb_some hf
  refine x_callTi (As := [.int x_1, .int 7]) (rest := [.ref (o + 1)]) S hK (c_X8_at l G z x_1 7 r_43 e_44) gX8_makes_X8_at rfl 2 (by decide +kernel) rfl ⟨Nat.le_of_ble_eq_true rfl, Nat.le_of_ble_eq_true rfl⟩ rfl hl.1 rfl (Nat.le_of_ble_eq_true rfl) dX8_makes_157 hL ⟨Nat.zero_le _, Nat.zero_le _⟩ (fun H1 locs hL hpost => ?_)
  subst hpost
  refine lv_iload hx hb dX8_makes_160 (lv_at hl 9 rfl) ?_
  obtain ⟨g_45, hf⟩ := xg_some hf
  obtain ⟨M_46, eM_46, hf⟩ := xl_some hf
  refine x_iast S hK h_md hz_md hL 1 (by decide) rfl rfl r_43.toNatClampNeg rfl g_45 rfl eM_46 dX8_makes_162 (fun H1 locs hL h_md hfr => ?_)
  have hF := hF.step hfr (fun q h => by (try dsimp only at h ⊢); omega)
  refine lv_aload_n hx hb dX8_makes_163 rfl (lv_at hl 0 rfl) ?_
  refine x_get S hK h_md 0 (by decide) rfl rfl rfl in8 0 (by decide) (xm 1 rfl) (x := .ref (o + 1)) rfl dX8_makes_164 ?_
  refine lv_iload hx hb dX8_makes_167 (lv_at hl 8 rfl) ?_
  refine lv_bipush (v := 8) hx hb dX8_makes_169 (by decide) ?_
  obtain ⟨r_47, e_48, hf⟩ := xb_some hf
  refine x_callTi (As := [.int x_1, .int 8]) (rest := [.ref (o + 1)]) S hK (c_X8_at l G z x_1 8 r_47 e_48) gX8_makes_X8_at rfl 2 (by decide +kernel) rfl ⟨Nat.le_of_ble_eq_true rfl, Nat.le_of_ble_eq_true rfl⟩ rfl hl.1 rfl (Nat.le_of_ble_eq_true rfl) dX8_makes_171 hL ⟨Nat.zero_le _, Nat.zero_le _⟩ (fun H1 locs hL hpost => ?_)
  subst hpost
  refine lv_iload hx hb dX8_makes_174 (lv_at hl 6 rfl) ?_
  obtain ⟨r_49, e_50, hf⟩ := xb_some hf
  refine x_callTi (As := [.int p6]) (rest := [.int r_47, .ref (o + 1)]) S hK (c_X8_discountOf l G z p6 r_49 e_50) gX8_makes_X8_discountOf rfl 1 (by decide +kernel) rfl ⟨Nat.le_of_ble_eq_true rfl, Nat.le_of_ble_eq_true rfl⟩ rfl hl.1 rfl (Nat.le_of_ble_eq_true rfl) dX8_makes_176 hL ⟨Nat.zero_le _, Nat.zero_le _⟩ (fun H1 locs hL hpost => ?_)
  subst hpost
  obtain ⟨g_51, hf⟩ := xg_some hf
  obtain ⟨M_52, eM_52, hf⟩ := xl_some hf
  refine x_iast S hK h_md hz_md hL 1 (by decide) rfl rfl r_47.toNatClampNeg rfl g_51 rfl eM_52 dX8_makes_179 (fun H1 locs hL h_md hfr => ?_)
  have hF := hF.step hfr (fun q h => by (try dsimp only at h ⊢); omega)
  refine lv_aload_n hx hb dX8_makes_180 rfl (lv_at hl 0 rfl) ?_
  refine x_get S hK h_md 0 (by decide) rfl rfl rfl in8 0 (by decide) (xm 1 rfl) (x := .ref (o + 1)) rfl dX8_makes_181 ?_
  refine lv_iload hx hb dX8_makes_184 (lv_at hl 8 rfl) ?_
  refine lv_bipush (v := 9) hx hb dX8_makes_186 (by decide) ?_
  obtain ⟨r_53, e_54, hf⟩ := xb_some hf
  refine x_callTi (As := [.int x_1, .int 9]) (rest := [.ref (o + 1)]) S hK (c_X8_at l G z x_1 9 r_53 e_54) gX8_makes_X8_at rfl 2 (by decide +kernel) rfl ⟨Nat.le_of_ble_eq_true rfl, Nat.le_of_ble_eq_true rfl⟩ rfl hl.1 rfl (Nat.le_of_ble_eq_true rfl) dX8_makes_188 hL ⟨Nat.zero_le _, Nat.zero_le _⟩ (fun H1 locs hL hpost => ?_)
  subst hpost
  refine lv_iload hx hb dX8_makes_191 (lv_at hl 10 rfl) ?_
  obtain ⟨g_55, hf⟩ := xg_some hf
  obtain ⟨M_56, eM_56, hf⟩ := xl_some hf
  refine x_iast S hK h_md hz_md hL 1 (by decide) rfl rfl r_53.toNatClampNeg rfl g_55 rfl eM_56 dX8_makes_193 (fun H1 locs hL h_md hfr => ?_)
  have hF := hF.step hfr (fun q h => by (try dsimp only at h ⊢); omega)
  refine lv_aload_n hx hb dX8_makes_194 rfl (lv_at hl 0 rfl) ?_
  refine lv_iload_n hx hb dX8_makes_195 rfl (lv_at hl 1 rfl) ?_
  refine lv_iload hx hb dX8_makes_196 (lv_at hl 9 rfl) ?_
  refine lv_iload hx hb dX8_makes_198 (lv_at hl 10 rfl) ?_
  refine lv_iadd hx hb dX8_makes_200 ?_
  obtain ⟨M_57, e_58, hf⟩ := xb_some hf
  refine x_callVv (As := [.int p1, .int (r_2 + x_4)]) (rest := []) S hK (c_X8_charges l G z o M_56 p1 (r_2 + x_4) M_57 (by omega) e_58) gX8_makes_X8_charges rfl 2 (by decide +kernel) rfl ⟨Nat.le_of_ble_eq_true rfl, Nat.le_of_ble_eq_true rfl⟩ h_md 0 (by decide) rfl rfl rfl h_md hl.1 rfl (Nat.le_of_ble_eq_true rfl) dX8_makes_201 hL ⟨Nat.zero_le _, Nat.zero_le _⟩ (fun H1 locs hL hpost => ?_)
  obtain ⟨n_md, hfr⟩ := hpost
  have h_md := n_md
  have hF := hF.step hfr (fun q h => by (try dsimp only at h ⊢); omega)
  refine lv_aload_n hx hb dX8_makes_204 rfl (lv_at hl 0 rfl) ?_
  refine x_get S hK h_md 0 (by decide) rfl rfl rfl in8 0 (by decide) (xm 1 rfl) (x := .ref (o + 1)) rfl dX8_makes_205 ?_
  refine lv_bipush (v := 11) hx hb dX8_makes_208 (by decide) ?_
  refine lv_dup2_11 hx hb dX8_makes_210 rfl rfl ?_
  refine x_iald S hK h_md 1 (by decide) rfl rfl 11 (by decide) (by decide) dX8_makes_211 ?_
  refine lv_iload hx hb dX8_makes_212 (lv_at hl 9 rfl) ?_
  refine lv_iadd hx hb dX8_makes_214 ?_
  obtain ⟨M_59, eM_59, hf⟩ := xl_some hf
  refine x_iast S hK h_md hz_md hL 1 (by decide) rfl rfl 11 (by decide) (by decide) rfl eM_59 dX8_makes_215 (fun H1 locs hL h_md hfr => ?_)
  have hF := hF.step hfr (fun q h => by (try dsimp only at h ⊢); omega)
  refine lv_aload_n hx hb dX8_makes_216 rfl (lv_at hl 0 rfl) ?_
  refine x_get S hK h_md 0 (by decide) rfl rfl rfl in8 0 (by decide) (xm 1 rfl) (x := .ref (o + 1)) rfl dX8_makes_217 ?_
  refine lv_bipush (v := 13) hx hb dX8_makes_220 (by decide) ?_
  refine lv_dup2_11 hx hb dX8_makes_222 rfl rfl ?_
  refine x_iald S hK h_md 1 (by decide) rfl rfl 13 (by decide) (by decide) dX8_makes_223 ?_
  refine lv_iload hx hb dX8_makes_224 (lv_at hl 10 rfl) ?_
  refine lv_iadd hx hb dX8_makes_226 ?_
  obtain ⟨M_60, eM_60, hf⟩ := xl_some hf
  refine x_iast S hK h_md hz_md hL 1 (by decide) rfl rfl 13 (by decide) (by decide) rfl eM_60 dX8_makes_227 (fun H1 locs hL h_md hfr => ?_)
  have hF := hF.step hfr (fun q h => by (try dsimp only at h ⊢); omega)
  refine lv_aload_n hx hb dX8_makes_228 rfl (lv_at hl 0 rfl) ?_
  refine x_get S hK h_md 0 (by decide) rfl rfl rfl in8 0 (by decide) (xm 1 rfl) (x := .ref (o + 1)) rfl dX8_makes_229 ?_
  refine lv_bipush (v := 14) hx hb dX8_makes_232 (by decide) ?_
  refine lv_dup2_11 hx hb dX8_makes_234 rfl rfl ?_
  refine x_iald S hK h_md 1 (by decide) rfl rfl 14 (by decide) (by decide) dX8_makes_235 ?_
  refine lv_iload hx hb dX8_makes_236 (lv_at hl 10 rfl) ?_
  refine lv_iadd hx hb dX8_makes_238 ?_
  obtain ⟨M_61, eM_61, hf⟩ := xl_some hf
  refine x_iast S hK h_md hz_md hL 1 (by decide) rfl rfl 14 (by decide) (by decide) rfl eM_61 dX8_makes_239 (fun H1 locs hL h_md hfr => ?_)
  have hF := hF.step hfr (fun q h => by (try dsimp only at h ⊢); omega)
  refine lv_aload_n hx hb dX8_makes_240 rfl (lv_at hl 0 rfl) ?_
  refine x_get S hK h_md 0 (by decide) rfl rfl rfl in8 0 (by decide) (xm 1 rfl) (x := .ref (o + 1)) rfl dX8_makes_241 ?_
  refine lv_bipush (v := 10) hx hb dX8_makes_244 (by decide) ?_
  refine lv_dup2_11 hx hb dX8_makes_246 rfl rfl ?_
  refine x_iald S hK h_md 1 (by decide) rfl rfl 10 (by decide) (by decide) dX8_makes_247 ?_
  refine lv_iconst (v := 1) hx hb dX8_makes_248 (by decide) ?_
  refine lv_iadd hx hb dX8_makes_249 ?_
  obtain ⟨M_62, eM_62, hf⟩ := xl_some hf
  refine x_iast S hK h_md hz_md hL 1 (by decide) rfl rfl 10 (by decide) (by decide) rfl eM_62 dX8_makes_250 (fun H1 locs hL h_md hfr => ?_)
  have hF := hF.step hfr (fun q h => by (try dsimp only at h ⊢); omega)
  have q0 := Option.some.inj hf
  subst M'
  subst hQ
  refine x_vret (post := (fun H H1 => PX G o 5 (mdE G o) M_62 H1 ∧ XF (fun q => (o ≤ q ∧ q < o + 5)) H H1)) S hr hlocks rfl ?_ hL dX8_makes_251
  exact ⟨h_md, hF⟩
set_option maxRecDepth 100000 in
set_option maxHeartbeats 4000000 in
theorem c_X8_here (l : Launch) (G : xG) (z : Nat) (o : Nat) (M : xV) (r0 : Int32)  (hf : f_X8_here M = some r0) : xM l yX8_here wsX8_here 0 0 G z [.ref o] (fun H => PX G o 5 (mdE G o) M H) (some (.int r0)) (fun H H1 => H1 = H) := by
  refine xM.of (cc := cX8_here) (maxL := 1) (ret := (some .int)) (by decide +kernel) rfl (Nat.le_of_ble_eq_true rfl) ?_
  intro p e s m args below meth c ls Q hQ S hr hlocks hK hP hl
  obtain ⟨hx, hb, hml, hown, hts⟩ := id S
  have h_md := hP
  have hL : ∀ q ∈ ([] : List Loc), z ≤ q.base := fun q h => absurd h List.not_mem_nil
  have hl : lv_has ls 1 [(0, .ref o)] := hl
  have in8 : ∀ w ∈ u_ws RX8 TX8 18, w ∈ wsX8_here := fun _ h => List.mem_cons_of_mem _ (List.mem_append_right _ h)
  unfold f_X8_here at hf
  refine lv_aload_n hx hb dX8_here_0 rfl (lv_at hl 0 rfl) ?_
  refine x_get S hK h_md 0 (by decide) rfl rfl rfl in8 7 (by decide) (xm 1 rfl) (x := .int (M 0 7)) rfl dX8_here_1 ?_
  refine lv_aload_n hx hb dX8_here_4 rfl (lv_at hl 0 rfl) ?_
  refine x_get S hK h_md 0 (by decide) rfl rfl rfl in8 6 (by decide) (xm 2 rfl) (x := .int (M 0 6)) rfl dX8_here_5 ?_
  refine lv_icmp_ge (tgt := 23) hx hb dX8_here_8 (by decide) (fun c_1 => ?_) (fun c_1 => ?_)
  · have hf := (if_pos c_1).symm.trans hf
    refine lv_iconst (v := (-1)) hx hb dX8_here_23 (by decide) ?_
    have q0 := Option.some.inj hf
    subst r0
    subst hQ
    refine x_iret (post := (fun H H1 => H1 = H)) S hr hlocks rfl ?_ hL dX8_here_24
    exact rfl
  · have hf := (if_neg c_1).symm.trans hf
    refine lv_aload_n hx hb dX8_here_11 rfl (lv_at hl 0 rfl) ?_
    refine x_get S hK h_md 0 (by decide) rfl rfl rfl in8 5 (by decide) (xm 3 rfl) (x := .ref (o + 4)) rfl dX8_here_12 ?_
    refine lv_aload_n hx hb dX8_here_15 rfl (lv_at hl 0 rfl) ?_
    refine x_get S hK h_md 0 (by decide) rfl rfl rfl in8 7 (by decide) (xm 1 rfl) (x := .int (M 0 7)) rfl dX8_here_16 ?_
    obtain ⟨g_2, hf⟩ := xg_some hf
    refine x_iald S hK h_md 4 (by decide) rfl rfl (M 0 7).toNatClampNeg rfl g_2 dX8_here_19 ?_
    refine lv_goto (tgt := 24) hx hb dX8_here_20 (by decide) ?_
    have q0 := Option.some.inj hf
    subst r0
    subst hQ
    refine x_iret (post := (fun H H1 => H1 = H)) S hr hlocks rfl ?_ hL dX8_here_24
    exact rfl
set_option maxRecDepth 100000 in
set_option maxHeartbeats 4000000 in
theorem c_X8_passes (l : Launch) (G : xG) (z : Nat) (o : Nat) (M : xV) (p1 : Int32) (r0 : Int32) (M' : xV) (hz_md : z ≤ o) (hf : f_X8_passes M p1 = some (r0, M')) : xM l yX8_passes wsX8_passes 1 20 G z [.ref o, .int p1] (fun H => PX G o 5 (mdE G o) M H) (some (.int r0)) (fun H H1 => PX G o 5 (mdE G o) M' H1 ∧ XF (fun q => (o ≤ q ∧ q < o + 5)) H H1) := by
  refine xM.of (cc := cX8_passes) (maxL := 3) (ret := (some .boolean)) (by decide +kernel) rfl (Nat.le_of_ble_eq_true rfl) ?_
  intro p e s m args below meth c ls Q hQ S hr hlocks hK hP hl
  obtain ⟨hx, hb, hml, hown, hts⟩ := id S
  have h_md := hP
  have hL : ∀ q ∈ ([] : List Loc), z ≤ q.base := fun q h => absurd h List.not_mem_nil
  have hF : XF (fun q => (o ≤ q ∧ q < o + 5)) s.heap s.heap := XF.rf
  have hl : lv_has ls 3 [(0, .ref o), (1, .int p1)] := hl
  have in8 : ∀ w ∈ u_ws RX8 TX8 18, w ∈ wsX8_passes := fun _ h => List.mem_cons_of_mem _ (List.mem_append_right _ h)
  unfold f_X8_passes at hf
  refine lv_aload_n hx hb dX8_passes_0 rfl (lv_at hl 0 rfl) ?_
  obtain ⟨r_1, e_2, hf⟩ := xb_some hf
  refine x_callVi (As := []) (rest := []) S hK (c_X8_here l G z o M r_1 e_2) gX8_passes_X8_here rfl 0 (by decide +kernel) rfl ⟨Nat.le_of_ble_eq_true rfl, Nat.le_of_ble_eq_true rfl⟩ h_md 0 (by decide) rfl rfl rfl h_md hl.1 rfl (Nat.le_of_ble_eq_true rfl) dX8_passes_1 hL ⟨Nat.zero_le _, Nat.zero_le _⟩ (fun H1 locs hL hpost => ?_)
  subst hpost
  refine lv_iload_n hx hb dX8_passes_4 rfl (lv_at hl 1 rfl) ?_
  refine lv_icmp_ne (tgt := 12) hx hb dX8_passes_5 (by decide) (fun c_3 => ?_) (fun c_3 => ?_)
  · have hf := (if_neg c_3).symm.trans hf
    refine lv_iconst (v := 0) hx hb dX8_passes_12 (by decide) ?_
    refine lv_istore_n (lv' := [(2, .int 0), (0, .ref o), (1, .int p1)]) hx hb dX8_passes_13 rfl hl (by decide) rfl (fun ls hl => ?_)
    refine lv_aload_n hx hb dX8_passes_14 rfl (lv_at hl 1 rfl) ?_
    refine lv_dup hx hb dX8_passes_15 rfl ?_
    refine x_get S hK h_md 0 (by decide) rfl rfl rfl in8 7 (by decide) (xm 1 rfl) (x := .int (M 0 7)) rfl dX8_passes_16 ?_
    refine lv_iload_n hx hb dX8_passes_19 rfl (lv_at hl 0 rfl) ?_
    refine lv_if_eq (tgt := 27) hx hb dX8_passes_20 (by decide) (fun _ => ?_) (fun h9 => absurd h9 (by decide))
    refine lv_iconst (v := 0) hx hb dX8_passes_27 (by decide) ?_
    refine lv_iadd hx hb dX8_passes_28 ?_
    obtain ⟨M_4, eM_4, hf⟩ := xl_some hf
    refine x_put S hK h_md hz_md hL 0 (by decide) rfl rfl rfl in8 tyX8 tyX8_ok nmX8 7 (by decide) (xm 1 rfl) rfl (vp_nar_int _) rfl (Nat.le_of_ble_eq_true rfl) rfl eM_4 dX8_passes_29 (fun H1 locs hL h_md hfr => ?_)
    have hF := hF.step hfr (fun q h => by (try dsimp only at h ⊢); omega)
    refine lv_iload_n hx hb dX8_passes_32 rfl (lv_at hl 0 rfl) ?_
    obtain ⟨q0, qq0⟩ := Prod.mk.inj (Option.some.inj hf)
    have q1 := qq0
    subst r0
    subst M'
    subst hQ
    refine x_zret (post := (fun H H1 => PX G o 5 (mdE G o) M_4 H1 ∧ XF (fun q => (o ≤ q ∧ q < o + 5)) H H1)) S hr hlocks (by decide) rfl ?_ hL dX8_passes_33
    exact ⟨h_md, hF⟩
  · have hf := (if_pos c_3).symm.trans hf
    refine lv_iconst (v := 1) hx hb dX8_passes_8 (by decide) ?_
    refine lv_goto (tgt := 13) hx hb dX8_passes_9 (by decide) ?_
    refine lv_istore_n (lv' := [(2, .int 1), (0, .ref o), (1, .int p1)]) hx hb dX8_passes_13 rfl hl (by decide) rfl (fun ls hl => ?_)
    refine lv_aload_n hx hb dX8_passes_14 rfl (lv_at hl 1 rfl) ?_
    refine lv_dup hx hb dX8_passes_15 rfl ?_
    refine x_get S hK h_md 0 (by decide) rfl rfl rfl in8 7 (by decide) (xm 1 rfl) (x := .int (M 0 7)) rfl dX8_passes_16 ?_
    refine lv_iload_n hx hb dX8_passes_19 rfl (lv_at hl 0 rfl) ?_
    refine lv_if_eq (tgt := 27) hx hb dX8_passes_20 (by decide) (fun h9 => absurd h9 (by decide)) (fun _ => ?_)
    refine lv_iconst (v := 1) hx hb dX8_passes_23 (by decide) ?_
    refine lv_goto (tgt := 28) hx hb dX8_passes_24 (by decide) ?_
    refine lv_iadd hx hb dX8_passes_28 ?_
    obtain ⟨M_5, eM_5, hf⟩ := xl_some hf
    refine x_put S hK h_md hz_md hL 0 (by decide) rfl rfl rfl in8 tyX8 tyX8_ok nmX8 7 (by decide) (xm 1 rfl) rfl (vp_nar_int _) rfl (Nat.le_of_ble_eq_true rfl) rfl eM_5 dX8_passes_29 (fun H1 locs hL h_md hfr => ?_)
    have hF := hF.step hfr (fun q h => by (try dsimp only at h ⊢); omega)
    refine lv_iload_n hx hb dX8_passes_32 rfl (lv_at hl 0 rfl) ?_
    obtain ⟨q0, qq0⟩ := Prod.mk.inj (Option.some.inj hf)
    have q1 := qq0
    subst r0
    subst M'
    subst hQ
    refine x_zret (post := (fun H H1 => PX G o 5 (mdE G o) M_5 H1 ∧ XF (fun q => (o ≤ q ∧ q < o + 5)) H H1)) S hr hlocks (by decide) rfl ?_ hL dX8_passes_33
    exact ⟨h_md, hF⟩
set_option maxRecDepth 100000 in
set_option maxHeartbeats 4000000 in
theorem c_X8_readNumber (l : Launch) (G : xG) (z : Nat) (o : Nat) (M : xV) (p1 : Int32) (r0 : Int32) (M' : xV) (hz_md : z ≤ o) (hf : f_X8_readNumber M p1 = some (r0, M')) : xM l yX8_readNumber wsX8_readNumber 1 25 G z [.ref o, .int p1] (fun H => PX G o 5 (mdE G o) M H) (some (.int r0)) (fun H H1 => PX G o 5 (mdE G o) M' H1 ∧ XF (fun q => (o ≤ q ∧ q < o + 5)) H H1) := by
  refine xM.of (cc := cX8_readNumber) (maxL := 4) (ret := (some .int)) (by decide +kernel) rfl (Nat.le_of_ble_eq_true rfl) ?_
  intro p e s m args below meth c ls Q hQ S hr hlocks hK hP hl
  obtain ⟨hx, hb, hml, hown, hts⟩ := id S
  have h_md := hP
  have hL : ∀ q ∈ ([] : List Loc), z ≤ q.base := fun q h => absurd h List.not_mem_nil
  have hF : XF (fun q => (o ≤ q ∧ q < o + 5)) s.heap s.heap := XF.rf
  have hl : lv_has ls 4 [(0, .ref o), (1, .int p1)] := hl
  have in8 : ∀ w ∈ u_ws RX8 TX8 18, w ∈ wsX8_readNumber := fun _ h => List.mem_cons_of_mem _ (List.mem_append_right _ h)
  unfold f_X8_readNumber at hf
  refine lv_aload_n hx hb dX8_readNumber_0 rfl (lv_at hl 0 rfl) ?_
  refine x_get S hK h_md 0 (by decide) rfl rfl rfl in8 7 (by decide) (xm 1 rfl) (x := .int (M 0 7)) rfl dX8_readNumber_1 ?_
  obtain ⟨x_1, ex_1, hf⟩ := xl_some hf
  refine x_top ex_1 ?_
  refine lv_istore_n (lv' := [(2, .int x_1), (0, .ref o), (1, .int p1)]) hx hb dX8_readNumber_4 rfl hl (by decide) rfl (fun ls hl => ?_)
  refine lv_iconst (v := 0) hx hb dX8_readNumber_5 (by decide) ?_
  refine lv_istore_n (lv' := [(3, .int 0), (2, .int x_1), (0, .ref o), (1, .int p1)]) hx hb dX8_readNumber_6 rfl hl (by decide) rfl (fun ls hl => ?_)
  have lp_7 : ∀ (K_7 : Int32 → xV → Option (Int32 × xV)), (∀ (x_2 : Int32) (M_3 : xV) (H : Heap) (locs : List Loc) (ls : Array Slot), (∀ q ∈ locs, z ≤ q.base) → PX G o 5 (mdE G o) M_3 H → XF (fun q => (o ≤ q ∧ q < o + 5)) s.heap H → lv_has ls 4 [(0, .ref o), (2, .int x_1), (3, .int x_2)] → K_7 x_2 M_3 = some (r0, M') → W p l e { frames := 1, cells := 0, slots := 0, locals := 25 } s m args below meth c H locs 0 0 Q (F0 m 60 ls [])) → ∀ (n : Nat) (x_2 : Int32) (M_3 : xV) (H : Heap) (locs : List Loc) (ls : Array Slot), (∀ q ∈ locs, z ≤ q.base) → PX G o 5 (mdE G o) M_3 H → XF (fun q => (o ≤ q ∧ q < o + 5)) s.heap H → lv_has ls 4 [(0, .ref o), (1, .int p1), (2, .int x_1), (3, .int x_2)] → L_X8_readNumber_7 K_7 p1 x_1 n x_2 M_3 = some (r0, M') → W p l e { frames := 1, cells := 0, slots := 0, locals := 25 } s m args below meth c H locs 0 0 Q (F0 m 7 ls []) := by
    intro K_7 hK_7 n
    induction n with
    | zero =>
      intro x_2 M_3 H locs ls hL h_md hF hl hf
      cases hf
    | succ n ih_7 =>
      intro x_2 M_3 H locs ls hL h_md hF hl hf
      unfold L_X8_readNumber_7 at hf
      refine lv_aload_n hx hb dX8_readNumber_7 rfl (lv_at hl 0 rfl) ?_
      obtain ⟨r_4, e_5, hf⟩ := xb_some hf
      refine x_callVi (As := []) (rest := []) S hK (c_X8_here l G z o M_3 r_4 e_5) gX8_readNumber_X8_here rfl 0 (by decide +kernel) rfl ⟨Nat.le_of_ble_eq_true rfl, Nat.le_of_ble_eq_true rfl⟩ h_md 0 (by decide) rfl rfl rfl h_md hl.1 rfl (Nat.le_of_ble_eq_true rfl) dX8_readNumber_8 hL ⟨Nat.zero_le _, Nat.zero_le _⟩ (fun H1 locs hL hpost => ?_)
      subst hpost
      refine lv_i2l (v := r_4.toInt64) hx hb dX8_readNumber_11 rfl ?_
      refine lv_ldc2 (v := 48) hx hb hown (hts _ (xm 2 rfl)) dX8_readNumber_12 ?_
      refine lv_ldc2 (v := 57) hx hb hown (hts _ (xm 3 rfl)) dX8_readNumber_15 ?_
      obtain ⟨r_6, e_7, hf⟩ := xb_some hf
      refine x_callTi (As := [.long (r_4.toInt64), .long 48, .long 57]) (rest := []) S hK (c_X8_in l G z (r_4.toInt64) 48 57 r_6 e_7) gX8_readNumber_X8_in rfl 3 (by decide +kernel) rfl ⟨Nat.le_of_ble_eq_true rfl, Nat.le_of_ble_eq_true rfl⟩ rfl hl.1 rfl (Nat.le_of_ble_eq_true rfl) dX8_readNumber_18 hL ⟨Nat.zero_le _, Nat.zero_le _⟩ (fun H1 locs hL hpost => ?_)
      subst hpost
      refine lv_if_eq (tgt := 60) hx hb dX8_readNumber_21 (by decide) (fun c_8 => ?_) (fun c_8 => ?_)
      · have hf := (if_pos c_8).symm.trans hf
        exact hK_7 x_2 M_3 _ _ _ hL h_md hF (lv_sub hl [0, 2, 3] rfl) hf
      · have hf := (if_neg c_8).symm.trans hf
        refine lv_aload_n hx hb dX8_readNumber_24 rfl (lv_at hl 0 rfl) ?_
        refine x_get S hK h_md 0 (by decide) rfl rfl rfl in8 7 (by decide) (xm 1 rfl) (x := .int (M_3 0 7)) rfl dX8_readNumber_25 ?_
        refine lv_iload_n hx hb dX8_readNumber_28 rfl (lv_at hl 2 rfl) ?_
        refine lv_iload_n hx hb dX8_readNumber_29 rfl (lv_at hl 1 rfl) ?_
        refine lv_iadd hx hb dX8_readNumber_30 ?_
        refine lv_icmp_ge (tgt := 60) hx hb dX8_readNumber_31 (by decide) (fun c_9 => ?_) (fun c_9 => ?_)
        · have hf := (if_pos c_9).symm.trans hf
          exact hK_7 x_2 M_3 _ _ _ hL h_md hF (lv_sub hl [0, 2, 3] rfl) hf
        · have hf := (if_neg c_9).symm.trans hf
          refine lv_bipush (v := 10) hx hb dX8_readNumber_34 (by decide) ?_
          refine lv_iload_n hx hb dX8_readNumber_36 rfl (lv_at hl 3 rfl) ?_
          refine lv_imul hx hb dX8_readNumber_37 ?_
          refine lv_aload_n hx hb dX8_readNumber_38 rfl (lv_at hl 0 rfl) ?_
          obtain ⟨r_10, e_11, hf⟩ := xb_some hf
          refine x_callVi (As := []) (rest := [.int (10 * x_2)]) S hK (c_X8_here l G z o M_3 r_10 e_11) gX8_readNumber_X8_here rfl 0 (by decide +kernel) rfl ⟨Nat.le_of_ble_eq_true rfl, Nat.le_of_ble_eq_true rfl⟩ h_md 0 (by decide) rfl rfl rfl h_md hl.1 rfl (Nat.le_of_ble_eq_true rfl) dX8_readNumber_39 hL ⟨Nat.zero_le _, Nat.zero_le _⟩ (fun H1 locs hL hpost => ?_)
          subst hpost
          refine lv_iadd hx hb dX8_readNumber_42 ?_
          refine lv_bipush (v := 48) hx hb dX8_readNumber_43 (by decide) ?_
          refine lv_isub hx hb dX8_readNumber_45 ?_
          obtain ⟨x_12, ex_12, hf⟩ := xl_some hf
          refine x_top ex_12 ?_
          refine lv_istore_n (lv' := [(3, .int x_12), (0, .ref o), (1, .int p1), (2, .int x_1)]) hx hb dX8_readNumber_46 rfl hl (by decide) rfl (fun ls hl => ?_)
          refine lv_aload_n hx hb dX8_readNumber_47 rfl (lv_at hl 1 rfl) ?_
          refine lv_dup hx hb dX8_readNumber_48 rfl ?_
          refine x_get S hK h_md 0 (by decide) rfl rfl rfl in8 7 (by decide) (xm 1 rfl) (x := .int (M_3 0 7)) rfl dX8_readNumber_49 ?_
          refine lv_iconst (v := 1) hx hb dX8_readNumber_52 (by decide) ?_
          refine lv_iadd hx hb dX8_readNumber_53 ?_
          obtain ⟨M_13, eM_13, hf⟩ := xl_some hf
          refine x_put S hK h_md hz_md hL 0 (by decide) rfl rfl rfl in8 tyX8 tyX8_ok nmX8 7 (by decide) (xm 1 rfl) rfl (vp_nar_int _) rfl (Nat.le_of_ble_eq_true rfl) rfl eM_13 dX8_readNumber_54 (fun H1 locs hL h_md hfr => ?_)
          have hF := hF.step hfr (fun q h => by (try dsimp only at h ⊢); omega)
          refine lv_goto (tgt := 7) hx hb dX8_readNumber_57 (by decide) ?_
          exact ih_7 x_12 M_13 _ _ _ hL h_md hF (lv_sub hl [1, 2, 3, 0] rfl) hf
  refine lp_7 _ (fun x_14 M_15 H locs ls hL h_md hF hl hf => ?_) 100000 0 M _ _ _ hL h_md hF (lv_sub hl [2, 3, 1, 0] rfl) hf
  refine lv_aload_n hx hb dX8_readNumber_60 rfl (lv_at hl 0 rfl) ?_
  refine x_get S hK h_md 0 (by decide) rfl rfl rfl in8 7 (by decide) (xm 1 rfl) (x := .int (M_15 0 7)) rfl dX8_readNumber_61 ?_
  refine lv_iload_n hx hb dX8_readNumber_64 rfl (lv_at hl 1 rfl) ?_
  refine lv_icmp_eq (tgt := 85) hx hb dX8_readNumber_65 (by decide) (fun c_16 => ?_) (fun c_16 => ?_)
  · have hf := (if_pos c_16).symm.trans hf
    refine lv_iconst (v := (-1)) hx hb dX8_readNumber_85 (by decide) ?_
    refine lv_goto (tgt := 90) hx hb dX8_readNumber_86 (by decide) ?_
    obtain ⟨q0, qq0⟩ := Prod.mk.inj (Option.some.inj hf)
    have q1 := qq0
    subst r0
    subst M'
    subst hQ
    refine x_iret (post := (fun H H1 => PX G o 5 (mdE G o) M_15 H1 ∧ XF (fun q => (o ≤ q ∧ q < o + 5)) H H1)) S hr hlocks rfl ?_ hL dX8_readNumber_90
    exact ⟨h_md, hF⟩
  · have hf := (if_neg c_16).symm.trans hf
    refine lv_aload_n hx hb dX8_readNumber_68 rfl (lv_at hl 0 rfl) ?_
    obtain ⟨r_17, e_18, hf⟩ := xb_some hf
    refine x_callVi (As := []) (rest := []) S hK (c_X8_here l G z o M_15 r_17 e_18) gX8_readNumber_X8_here rfl 0 (by decide +kernel) rfl ⟨Nat.le_of_ble_eq_true rfl, Nat.le_of_ble_eq_true rfl⟩ h_md 0 (by decide) rfl rfl rfl h_md hl.1 rfl (Nat.le_of_ble_eq_true rfl) dX8_readNumber_69 hL ⟨Nat.zero_le _, Nat.zero_le _⟩ (fun H1 locs hL hpost => ?_)
    subst hpost
    refine lv_i2l (v := r_17.toInt64) hx hb dX8_readNumber_72 rfl ?_
    refine lv_ldc2 (v := 48) hx hb hown (hts _ (xm 2 rfl)) dX8_readNumber_73 ?_
    refine lv_ldc2 (v := 57) hx hb hown (hts _ (xm 3 rfl)) dX8_readNumber_76 ?_
    obtain ⟨r_19, e_20, hf⟩ := xb_some hf
    refine x_callTi (As := [.long (r_17.toInt64), .long 48, .long 57]) (rest := []) S hK (c_X8_in l G z (r_17.toInt64) 48 57 r_19 e_20) gX8_readNumber_X8_in rfl 3 (by decide +kernel) rfl ⟨Nat.le_of_ble_eq_true rfl, Nat.le_of_ble_eq_true rfl⟩ rfl hl.1 rfl (Nat.le_of_ble_eq_true rfl) dX8_readNumber_79 hL ⟨Nat.zero_le _, Nat.zero_le _⟩ (fun H1 locs hL hpost => ?_)
    subst hpost
    refine lv_if_eq (tgt := 89) hx hb dX8_readNumber_82 (by decide) (fun c_21 => ?_) (fun c_21 => ?_)
    · have hf := (if_pos c_21).symm.trans hf
      refine lv_iload_n hx hb dX8_readNumber_89 rfl (lv_at hl 2 rfl) ?_
      obtain ⟨q0, qq0⟩ := Prod.mk.inj (Option.some.inj hf)
      have q1 := qq0
      subst r0
      subst M'
      subst hQ
      refine x_iret (post := (fun H H1 => PX G o 5 (mdE G o) M_15 H1 ∧ XF (fun q => (o ≤ q ∧ q < o + 5)) H H1)) S hr hlocks rfl ?_ hL dX8_readNumber_90
      exact ⟨h_md, hF⟩
    · have hf := (if_neg c_21).symm.trans hf
      refine lv_iconst (v := (-1)) hx hb dX8_readNumber_85 (by decide) ?_
      refine lv_goto (tgt := 90) hx hb dX8_readNumber_86 (by decide) ?_
      obtain ⟨q0, qq0⟩ := Prod.mk.inj (Option.some.inj hf)
      have q1 := qq0
      subst r0
      subst M'
      subst hQ
      refine x_iret (post := (fun H H1 => PX G o 5 (mdE G o) M_15 H1 ∧ XF (fun q => (o ≤ q ∧ q < o + 5)) H H1)) S hr hlocks rfl ?_ hL dX8_readNumber_90
      exact ⟨h_md, hF⟩
set_option maxRecDepth 100000 in
set_option maxHeartbeats 4000000 in
theorem c_X8_readsRooms (l : Launch) (G : xG) (z : Nat) (o : Nat) (M : xV) (r0 : Int32) (M' : xV) (hz_md : z ≤ o) (hf : f_X8_readsRooms M = some (r0, M')) : xM l yX8_readsRooms wsX8_readsRooms 2 42 G z [.ref o] (fun H => PX G o 5 (mdE G o) M H) (some (.int r0)) (fun H H1 => PX G o 5 (mdE G o) M' H1 ∧ XF (fun q => (o ≤ q ∧ q < o + 5)) H H1) := by
  refine xM.of (cc := cX8_readsRooms) (maxL := 2) (ret := (some .boolean)) (by decide +kernel) rfl (Nat.le_of_ble_eq_true rfl) ?_
  intro p e s m args below meth c ls Q hQ S hr hlocks hK hP hl
  obtain ⟨hx, hb, hml, hown, hts⟩ := id S
  have h_md := hP
  have hL : ∀ q ∈ ([] : List Loc), z ≤ q.base := fun q h => absurd h List.not_mem_nil
  have hF : XF (fun q => (o ≤ q ∧ q < o + 5)) s.heap s.heap := XF.rf
  have hl : lv_has ls 2 [(0, .ref o)] := hl
  have in8 : ∀ w ∈ u_ws RX8 TX8 18, w ∈ wsX8_readsRooms := fun _ h => List.mem_cons_of_mem _ (List.mem_append_right _ h)
  unfold f_X8_readsRooms at hf
  refine lv_aload_n hx hb dX8_readsRooms_0 rfl (lv_at hl 0 rfl) ?_
  refine lv_bipush (v := 104) hx hb dX8_readsRooms_1 (by decide) ?_
  obtain ⟨r_1, M_2, e_3, hf⟩ := xb2_some hf
  refine x_callVi (As := [.int 104]) (rest := []) S hK (c_X8_passes l G z o M 104 r_1 M_2 (by omega) e_3) gX8_readsRooms_X8_passes rfl 1 (by decide +kernel) rfl ⟨Nat.le_of_ble_eq_true rfl, Nat.le_of_ble_eq_true rfl⟩ h_md 0 (by decide) rfl rfl rfl h_md hl.1 rfl (Nat.le_of_ble_eq_true rfl) dX8_readsRooms_3 hL ⟨Nat.zero_le _, Nat.zero_le _⟩ (fun H1 locs hL hpost => ?_)
  obtain ⟨n_md, hfr⟩ := hpost
  have h_md := n_md
  have hF := hF.step hfr (fun q h => by (try dsimp only at h ⊢); omega)
  refine lv_if_eq (tgt := 13) hx hb dX8_readsRooms_6 (by decide) (fun c_4 => ?_) (fun c_4 => ?_)
  · have hf := (if_pos c_4).symm.trans hf
    refine lv_iconst (v := 0) hx hb dX8_readsRooms_13 (by decide) ?_
    refine lv_istore_n (lv' := [(1, .int 0), (0, .ref o)]) hx hb dX8_readsRooms_14 rfl hl (by decide) rfl (fun ls hl => ?_)
    refine lv_iload_n hx hb dX8_readsRooms_15 rfl (lv_at hl 0 rfl) ?_
    refine lv_aload_n hx hb dX8_readsRooms_16 rfl (lv_at hl 1 rfl) ?_
    refine lv_bipush (v := 107) hx hb dX8_readsRooms_17 (by decide) ?_
    obtain ⟨r_5, M_6, e_7, hf⟩ := xb2_some hf
    refine x_callVi (As := [.int 107]) (rest := [.int 0]) S hK (c_X8_passes l G z o M_2 107 r_5 M_6 (by omega) e_7) gX8_readsRooms_X8_passes rfl 1 (by decide +kernel) rfl ⟨Nat.le_of_ble_eq_true rfl, Nat.le_of_ble_eq_true rfl⟩ h_md 0 (by decide) rfl rfl rfl h_md hl.1 rfl (Nat.le_of_ble_eq_true rfl) dX8_readsRooms_19 hL ⟨Nat.zero_le _, Nat.zero_le _⟩ (fun H1 locs hL hpost => ?_)
    obtain ⟨n_md, hfr⟩ := hpost
    have h_md := n_md
    have hF := hF.step hfr (fun q h => by (try dsimp only at h ⊢); omega)
    refine lv_if_eq (tgt := 29) hx hb dX8_readsRooms_22 (by decide) (fun c_8 => ?_) (fun c_8 => ?_)
    · have hf := (if_pos c_8).symm.trans hf
      refine lv_iconst (v := 0) hx hb dX8_readsRooms_29 (by decide) ?_
      refine lv_iadd hx hb dX8_readsRooms_30 ?_
      refine x_top (x := 0) (by decide) ?_
      refine lv_istore_n (lv' := [(1, .int 0), (0, .ref o)]) hx hb dX8_readsRooms_31 rfl hl (by decide) rfl (fun ls hl => ?_)
      refine lv_iload_n hx hb dX8_readsRooms_32 rfl (lv_at hl 0 rfl) ?_
      refine lv_aload_n hx hb dX8_readsRooms_33 rfl (lv_at hl 1 rfl) ?_
      refine lv_bipush (v := 109) hx hb dX8_readsRooms_34 (by decide) ?_
      obtain ⟨r_9, M_10, e_11, hf⟩ := xb2_some hf
      refine x_callVi (As := [.int 109]) (rest := [.int 0]) S hK (c_X8_passes l G z o M_6 109 r_9 M_10 (by omega) e_11) gX8_readsRooms_X8_passes rfl 1 (by decide +kernel) rfl ⟨Nat.le_of_ble_eq_true rfl, Nat.le_of_ble_eq_true rfl⟩ h_md 0 (by decide) rfl rfl rfl h_md hl.1 rfl (Nat.le_of_ble_eq_true rfl) dX8_readsRooms_36 hL ⟨Nat.zero_le _, Nat.zero_le _⟩ (fun H1 locs hL hpost => ?_)
      obtain ⟨n_md, hfr⟩ := hpost
      have h_md := n_md
      have hF := hF.step hfr (fun q h => by (try dsimp only at h ⊢); omega)
      refine lv_if_eq (tgt := 46) hx hb dX8_readsRooms_39 (by decide) (fun c_12 => ?_) (fun c_12 => ?_)
      · have hf := (if_pos c_12).symm.trans hf
        refine lv_iconst (v := 0) hx hb dX8_readsRooms_46 (by decide) ?_
        refine lv_iadd hx hb dX8_readsRooms_47 ?_
        refine x_top (x := 0) (by decide) ?_
        refine lv_istore_n (lv' := [(1, .int 0), (0, .ref o)]) hx hb dX8_readsRooms_48 rfl hl (by decide) rfl (fun ls hl => ?_)
        refine lv_aload_n hx hb dX8_readsRooms_49 rfl (lv_at hl 1 rfl) ?_
        refine lv_iload_n hx hb dX8_readsRooms_50 rfl (lv_at hl 0 rfl) ?_
        obtain ⟨M_13, eM_13, hf⟩ := xl_some hf
        refine x_put S hK h_md hz_md hL 0 (by decide) rfl rfl rfl in8 tyX8 tyX8_ok nmX8 12 (by decide) (xm 1 rfl) rfl (vp_nar_int _) rfl (Nat.le_of_ble_eq_true rfl) rfl eM_13 dX8_readsRooms_51 (fun H1 locs hL h_md hfr => ?_)
        have hF := hF.step hfr (fun q h => by (try dsimp only at h ⊢); omega)
        refine lv_iload_n hx hb dX8_readsRooms_54 rfl (lv_at hl 0 rfl) ?_
        refine lv_if_le (tgt := 62) hx hb dX8_readsRooms_55 (by decide) (fun _ => ?_) (fun h9 => absurd h9 (by decide))
        refine lv_iconst (v := 0) hx hb dX8_readsRooms_62 (by decide) ?_
        obtain ⟨q0, qq0⟩ := Prod.mk.inj (Option.some.inj hf)
        have q1 := qq0
        subst r0
        subst M'
        subst hQ
        refine x_zret (post := (fun H H1 => PX G o 5 (mdE G o) M_13 H1 ∧ XF (fun q => (o ≤ q ∧ q < o + 5)) H H1)) S hr hlocks (by decide) rfl ?_ hL dX8_readsRooms_63
        exact ⟨h_md, hF⟩
      · have hf := (if_neg c_12).symm.trans hf
        refine lv_iconst (v := 4) hx hb dX8_readsRooms_42 (by decide) ?_
        refine lv_goto (tgt := 47) hx hb dX8_readsRooms_43 (by decide) ?_
        refine lv_iadd hx hb dX8_readsRooms_47 ?_
        refine x_top (x := 4) (by decide) ?_
        refine lv_istore_n (lv' := [(1, .int 4), (0, .ref o)]) hx hb dX8_readsRooms_48 rfl hl (by decide) rfl (fun ls hl => ?_)
        refine lv_aload_n hx hb dX8_readsRooms_49 rfl (lv_at hl 1 rfl) ?_
        refine lv_iload_n hx hb dX8_readsRooms_50 rfl (lv_at hl 0 rfl) ?_
        obtain ⟨M_14, eM_14, hf⟩ := xl_some hf
        refine x_put S hK h_md hz_md hL 0 (by decide) rfl rfl rfl in8 tyX8 tyX8_ok nmX8 12 (by decide) (xm 1 rfl) rfl (vp_nar_int _) rfl (Nat.le_of_ble_eq_true rfl) rfl eM_14 dX8_readsRooms_51 (fun H1 locs hL h_md hfr => ?_)
        have hF := hF.step hfr (fun q h => by (try dsimp only at h ⊢); omega)
        refine lv_iload_n hx hb dX8_readsRooms_54 rfl (lv_at hl 0 rfl) ?_
        refine lv_if_le (tgt := 62) hx hb dX8_readsRooms_55 (by decide) (fun h9 => absurd h9 (by decide)) (fun _ => ?_)
        refine lv_iconst (v := 1) hx hb dX8_readsRooms_58 (by decide) ?_
        refine lv_goto (tgt := 63) hx hb dX8_readsRooms_59 (by decide) ?_
        obtain ⟨q0, qq0⟩ := Prod.mk.inj (Option.some.inj hf)
        have q1 := qq0
        subst r0
        subst M'
        subst hQ
        refine x_zret (post := (fun H H1 => PX G o 5 (mdE G o) M_14 H1 ∧ XF (fun q => (o ≤ q ∧ q < o + 5)) H H1)) S hr hlocks (by decide) rfl ?_ hL dX8_readsRooms_63
        exact ⟨h_md, hF⟩
    · have hf := (if_neg c_8).symm.trans hf
      refine lv_iconst (v := 2) hx hb dX8_readsRooms_25 (by decide) ?_
      refine lv_goto (tgt := 30) hx hb dX8_readsRooms_26 (by decide) ?_
      refine lv_iadd hx hb dX8_readsRooms_30 ?_
      refine x_top (x := 2) (by decide) ?_
      refine lv_istore_n (lv' := [(1, .int 2), (0, .ref o)]) hx hb dX8_readsRooms_31 rfl hl (by decide) rfl (fun ls hl => ?_)
      refine lv_iload_n hx hb dX8_readsRooms_32 rfl (lv_at hl 0 rfl) ?_
      refine lv_aload_n hx hb dX8_readsRooms_33 rfl (lv_at hl 1 rfl) ?_
      refine lv_bipush (v := 109) hx hb dX8_readsRooms_34 (by decide) ?_
      obtain ⟨r_15, M_16, e_17, hf⟩ := xb2_some hf
      refine x_callVi (As := [.int 109]) (rest := [.int 2]) S hK (c_X8_passes l G z o M_6 109 r_15 M_16 (by omega) e_17) gX8_readsRooms_X8_passes rfl 1 (by decide +kernel) rfl ⟨Nat.le_of_ble_eq_true rfl, Nat.le_of_ble_eq_true rfl⟩ h_md 0 (by decide) rfl rfl rfl h_md hl.1 rfl (Nat.le_of_ble_eq_true rfl) dX8_readsRooms_36 hL ⟨Nat.zero_le _, Nat.zero_le _⟩ (fun H1 locs hL hpost => ?_)
      obtain ⟨n_md, hfr⟩ := hpost
      have h_md := n_md
      have hF := hF.step hfr (fun q h => by (try dsimp only at h ⊢); omega)
      refine lv_if_eq (tgt := 46) hx hb dX8_readsRooms_39 (by decide) (fun c_18 => ?_) (fun c_18 => ?_)
      · have hf := (if_pos c_18).symm.trans hf
        refine lv_iconst (v := 0) hx hb dX8_readsRooms_46 (by decide) ?_
        refine lv_iadd hx hb dX8_readsRooms_47 ?_
        refine x_top (x := 2) (by decide) ?_
        refine lv_istore_n (lv' := [(1, .int 2), (0, .ref o)]) hx hb dX8_readsRooms_48 rfl hl (by decide) rfl (fun ls hl => ?_)
        refine lv_aload_n hx hb dX8_readsRooms_49 rfl (lv_at hl 1 rfl) ?_
        refine lv_iload_n hx hb dX8_readsRooms_50 rfl (lv_at hl 0 rfl) ?_
        obtain ⟨M_19, eM_19, hf⟩ := xl_some hf
        refine x_put S hK h_md hz_md hL 0 (by decide) rfl rfl rfl in8 tyX8 tyX8_ok nmX8 12 (by decide) (xm 1 rfl) rfl (vp_nar_int _) rfl (Nat.le_of_ble_eq_true rfl) rfl eM_19 dX8_readsRooms_51 (fun H1 locs hL h_md hfr => ?_)
        have hF := hF.step hfr (fun q h => by (try dsimp only at h ⊢); omega)
        refine lv_iload_n hx hb dX8_readsRooms_54 rfl (lv_at hl 0 rfl) ?_
        refine lv_if_le (tgt := 62) hx hb dX8_readsRooms_55 (by decide) (fun h9 => absurd h9 (by decide)) (fun _ => ?_)
        refine lv_iconst (v := 1) hx hb dX8_readsRooms_58 (by decide) ?_
        refine lv_goto (tgt := 63) hx hb dX8_readsRooms_59 (by decide) ?_
        obtain ⟨q0, qq0⟩ := Prod.mk.inj (Option.some.inj hf)
        have q1 := qq0
        subst r0
        subst M'
        subst hQ
        refine x_zret (post := (fun H H1 => PX G o 5 (mdE G o) M_19 H1 ∧ XF (fun q => (o ≤ q ∧ q < o + 5)) H H1)) S hr hlocks (by decide) rfl ?_ hL dX8_readsRooms_63
        exact ⟨h_md, hF⟩
      · have hf := (if_neg c_18).symm.trans hf
        refine lv_iconst (v := 4) hx hb dX8_readsRooms_42 (by decide) ?_
        refine lv_goto (tgt := 47) hx hb dX8_readsRooms_43 (by decide) ?_
        refine lv_iadd hx hb dX8_readsRooms_47 ?_
        refine x_top (x := 6) (by decide) ?_
        refine lv_istore_n (lv' := [(1, .int 6), (0, .ref o)]) hx hb dX8_readsRooms_48 rfl hl (by decide) rfl (fun ls hl => ?_)
        refine lv_aload_n hx hb dX8_readsRooms_49 rfl (lv_at hl 1 rfl) ?_
        refine lv_iload_n hx hb dX8_readsRooms_50 rfl (lv_at hl 0 rfl) ?_
        obtain ⟨M_20, eM_20, hf⟩ := xl_some hf
        refine x_put S hK h_md hz_md hL 0 (by decide) rfl rfl rfl in8 tyX8 tyX8_ok nmX8 12 (by decide) (xm 1 rfl) rfl (vp_nar_int _) rfl (Nat.le_of_ble_eq_true rfl) rfl eM_20 dX8_readsRooms_51 (fun H1 locs hL h_md hfr => ?_)
        have hF := hF.step hfr (fun q h => by (try dsimp only at h ⊢); omega)
        refine lv_iload_n hx hb dX8_readsRooms_54 rfl (lv_at hl 0 rfl) ?_
        refine lv_if_le (tgt := 62) hx hb dX8_readsRooms_55 (by decide) (fun h9 => absurd h9 (by decide)) (fun _ => ?_)
        refine lv_iconst (v := 1) hx hb dX8_readsRooms_58 (by decide) ?_
        refine lv_goto (tgt := 63) hx hb dX8_readsRooms_59 (by decide) ?_
        obtain ⟨q0, qq0⟩ := Prod.mk.inj (Option.some.inj hf)
        have q1 := qq0
        subst r0
        subst M'
        subst hQ
        refine x_zret (post := (fun H H1 => PX G o 5 (mdE G o) M_20 H1 ∧ XF (fun q => (o ≤ q ∧ q < o + 5)) H H1)) S hr hlocks (by decide) rfl ?_ hL dX8_readsRooms_63
        exact ⟨h_md, hF⟩
  · have hf := (if_neg c_4).symm.trans hf
    refine lv_iconst (v := 1) hx hb dX8_readsRooms_9 (by decide) ?_
    refine lv_goto (tgt := 14) hx hb dX8_readsRooms_10 (by decide) ?_
    refine lv_istore_n (lv' := [(1, .int 1), (0, .ref o)]) hx hb dX8_readsRooms_14 rfl hl (by decide) rfl (fun ls hl => ?_)
    refine lv_iload_n hx hb dX8_readsRooms_15 rfl (lv_at hl 0 rfl) ?_
    refine lv_aload_n hx hb dX8_readsRooms_16 rfl (lv_at hl 1 rfl) ?_
    refine lv_bipush (v := 107) hx hb dX8_readsRooms_17 (by decide) ?_
    obtain ⟨r_21, M_22, e_23, hf⟩ := xb2_some hf
    refine x_callVi (As := [.int 107]) (rest := [.int 1]) S hK (c_X8_passes l G z o M_2 107 r_21 M_22 (by omega) e_23) gX8_readsRooms_X8_passes rfl 1 (by decide +kernel) rfl ⟨Nat.le_of_ble_eq_true rfl, Nat.le_of_ble_eq_true rfl⟩ h_md 0 (by decide) rfl rfl rfl h_md hl.1 rfl (Nat.le_of_ble_eq_true rfl) dX8_readsRooms_19 hL ⟨Nat.zero_le _, Nat.zero_le _⟩ (fun H1 locs hL hpost => ?_)
    obtain ⟨n_md, hfr⟩ := hpost
    have h_md := n_md
    have hF := hF.step hfr (fun q h => by (try dsimp only at h ⊢); omega)
    refine lv_if_eq (tgt := 29) hx hb dX8_readsRooms_22 (by decide) (fun c_24 => ?_) (fun c_24 => ?_)
    · have hf := (if_pos c_24).symm.trans hf
      refine lv_iconst (v := 0) hx hb dX8_readsRooms_29 (by decide) ?_
      refine lv_iadd hx hb dX8_readsRooms_30 ?_
      refine x_top (x := 1) (by decide) ?_
      refine lv_istore_n (lv' := [(1, .int 1), (0, .ref o)]) hx hb dX8_readsRooms_31 rfl hl (by decide) rfl (fun ls hl => ?_)
      refine lv_iload_n hx hb dX8_readsRooms_32 rfl (lv_at hl 0 rfl) ?_
      refine lv_aload_n hx hb dX8_readsRooms_33 rfl (lv_at hl 1 rfl) ?_
      refine lv_bipush (v := 109) hx hb dX8_readsRooms_34 (by decide) ?_
      obtain ⟨r_25, M_26, e_27, hf⟩ := xb2_some hf
      refine x_callVi (As := [.int 109]) (rest := [.int 1]) S hK (c_X8_passes l G z o M_22 109 r_25 M_26 (by omega) e_27) gX8_readsRooms_X8_passes rfl 1 (by decide +kernel) rfl ⟨Nat.le_of_ble_eq_true rfl, Nat.le_of_ble_eq_true rfl⟩ h_md 0 (by decide) rfl rfl rfl h_md hl.1 rfl (Nat.le_of_ble_eq_true rfl) dX8_readsRooms_36 hL ⟨Nat.zero_le _, Nat.zero_le _⟩ (fun H1 locs hL hpost => ?_)
      obtain ⟨n_md, hfr⟩ := hpost
      have h_md := n_md
      have hF := hF.step hfr (fun q h => by (try dsimp only at h ⊢); omega)
      refine lv_if_eq (tgt := 46) hx hb dX8_readsRooms_39 (by decide) (fun c_28 => ?_) (fun c_28 => ?_)
      · have hf := (if_pos c_28).symm.trans hf
        refine lv_iconst (v := 0) hx hb dX8_readsRooms_46 (by decide) ?_
        refine lv_iadd hx hb dX8_readsRooms_47 ?_
        refine x_top (x := 1) (by decide) ?_
        refine lv_istore_n (lv' := [(1, .int 1), (0, .ref o)]) hx hb dX8_readsRooms_48 rfl hl (by decide) rfl (fun ls hl => ?_)
        refine lv_aload_n hx hb dX8_readsRooms_49 rfl (lv_at hl 1 rfl) ?_
        refine lv_iload_n hx hb dX8_readsRooms_50 rfl (lv_at hl 0 rfl) ?_
        obtain ⟨M_29, eM_29, hf⟩ := xl_some hf
        refine x_put S hK h_md hz_md hL 0 (by decide) rfl rfl rfl in8 tyX8 tyX8_ok nmX8 12 (by decide) (xm 1 rfl) rfl (vp_nar_int _) rfl (Nat.le_of_ble_eq_true rfl) rfl eM_29 dX8_readsRooms_51 (fun H1 locs hL h_md hfr => ?_)
        have hF := hF.step hfr (fun q h => by (try dsimp only at h ⊢); omega)
        refine lv_iload_n hx hb dX8_readsRooms_54 rfl (lv_at hl 0 rfl) ?_
        refine lv_if_le (tgt := 62) hx hb dX8_readsRooms_55 (by decide) (fun h9 => absurd h9 (by decide)) (fun _ => ?_)
        refine lv_iconst (v := 1) hx hb dX8_readsRooms_58 (by decide) ?_
        refine lv_goto (tgt := 63) hx hb dX8_readsRooms_59 (by decide) ?_
        obtain ⟨q0, qq0⟩ := Prod.mk.inj (Option.some.inj hf)
        have q1 := qq0
        subst r0
        subst M'
        subst hQ
        refine x_zret (post := (fun H H1 => PX G o 5 (mdE G o) M_29 H1 ∧ XF (fun q => (o ≤ q ∧ q < o + 5)) H H1)) S hr hlocks (by decide) rfl ?_ hL dX8_readsRooms_63
        exact ⟨h_md, hF⟩
      · have hf := (if_neg c_28).symm.trans hf
        refine lv_iconst (v := 4) hx hb dX8_readsRooms_42 (by decide) ?_
        refine lv_goto (tgt := 47) hx hb dX8_readsRooms_43 (by decide) ?_
        refine lv_iadd hx hb dX8_readsRooms_47 ?_
        refine x_top (x := 5) (by decide) ?_
        refine lv_istore_n (lv' := [(1, .int 5), (0, .ref o)]) hx hb dX8_readsRooms_48 rfl hl (by decide) rfl (fun ls hl => ?_)
        refine lv_aload_n hx hb dX8_readsRooms_49 rfl (lv_at hl 1 rfl) ?_
        refine lv_iload_n hx hb dX8_readsRooms_50 rfl (lv_at hl 0 rfl) ?_
        obtain ⟨M_30, eM_30, hf⟩ := xl_some hf
        refine x_put S hK h_md hz_md hL 0 (by decide) rfl rfl rfl in8 tyX8 tyX8_ok nmX8 12 (by decide) (xm 1 rfl) rfl (vp_nar_int _) rfl (Nat.le_of_ble_eq_true rfl) rfl eM_30 dX8_readsRooms_51 (fun H1 locs hL h_md hfr => ?_)
        have hF := hF.step hfr (fun q h => by (try dsimp only at h ⊢); omega)
        refine lv_iload_n hx hb dX8_readsRooms_54 rfl (lv_at hl 0 rfl) ?_
        refine lv_if_le (tgt := 62) hx hb dX8_readsRooms_55 (by decide) (fun h9 => absurd h9 (by decide)) (fun _ => ?_)
        refine lv_iconst (v := 1) hx hb dX8_readsRooms_58 (by decide) ?_
        refine lv_goto (tgt := 63) hx hb dX8_readsRooms_59 (by decide) ?_
        obtain ⟨q0, qq0⟩ := Prod.mk.inj (Option.some.inj hf)
        have q1 := qq0
        subst r0
        subst M'
        subst hQ
        refine x_zret (post := (fun H H1 => PX G o 5 (mdE G o) M_30 H1 ∧ XF (fun q => (o ≤ q ∧ q < o + 5)) H H1)) S hr hlocks (by decide) rfl ?_ hL dX8_readsRooms_63
        exact ⟨h_md, hF⟩
    · have hf := (if_neg c_24).symm.trans hf
      refine lv_iconst (v := 2) hx hb dX8_readsRooms_25 (by decide) ?_
      refine lv_goto (tgt := 30) hx hb dX8_readsRooms_26 (by decide) ?_
      refine lv_iadd hx hb dX8_readsRooms_30 ?_
      refine x_top (x := 3) (by decide) ?_
      refine lv_istore_n (lv' := [(1, .int 3), (0, .ref o)]) hx hb dX8_readsRooms_31 rfl hl (by decide) rfl (fun ls hl => ?_)
      refine lv_iload_n hx hb dX8_readsRooms_32 rfl (lv_at hl 0 rfl) ?_
      refine lv_aload_n hx hb dX8_readsRooms_33 rfl (lv_at hl 1 rfl) ?_
      refine lv_bipush (v := 109) hx hb dX8_readsRooms_34 (by decide) ?_
      obtain ⟨r_31, M_32, e_33, hf⟩ := xb2_some hf
      refine x_callVi (As := [.int 109]) (rest := [.int 3]) S hK (c_X8_passes l G z o M_22 109 r_31 M_32 (by omega) e_33) gX8_readsRooms_X8_passes rfl 1 (by decide +kernel) rfl ⟨Nat.le_of_ble_eq_true rfl, Nat.le_of_ble_eq_true rfl⟩ h_md 0 (by decide) rfl rfl rfl h_md hl.1 rfl (Nat.le_of_ble_eq_true rfl) dX8_readsRooms_36 hL ⟨Nat.zero_le _, Nat.zero_le _⟩ (fun H1 locs hL hpost => ?_)
      obtain ⟨n_md, hfr⟩ := hpost
      have h_md := n_md
      have hF := hF.step hfr (fun q h => by (try dsimp only at h ⊢); omega)
      refine lv_if_eq (tgt := 46) hx hb dX8_readsRooms_39 (by decide) (fun c_34 => ?_) (fun c_34 => ?_)
      · have hf := (if_pos c_34).symm.trans hf
        refine lv_iconst (v := 0) hx hb dX8_readsRooms_46 (by decide) ?_
        refine lv_iadd hx hb dX8_readsRooms_47 ?_
        refine x_top (x := 3) (by decide) ?_
        refine lv_istore_n (lv' := [(1, .int 3), (0, .ref o)]) hx hb dX8_readsRooms_48 rfl hl (by decide) rfl (fun ls hl => ?_)
        refine lv_aload_n hx hb dX8_readsRooms_49 rfl (lv_at hl 1 rfl) ?_
        refine lv_iload_n hx hb dX8_readsRooms_50 rfl (lv_at hl 0 rfl) ?_
        obtain ⟨M_35, eM_35, hf⟩ := xl_some hf
        refine x_put S hK h_md hz_md hL 0 (by decide) rfl rfl rfl in8 tyX8 tyX8_ok nmX8 12 (by decide) (xm 1 rfl) rfl (vp_nar_int _) rfl (Nat.le_of_ble_eq_true rfl) rfl eM_35 dX8_readsRooms_51 (fun H1 locs hL h_md hfr => ?_)
        have hF := hF.step hfr (fun q h => by (try dsimp only at h ⊢); omega)
        refine lv_iload_n hx hb dX8_readsRooms_54 rfl (lv_at hl 0 rfl) ?_
        refine lv_if_le (tgt := 62) hx hb dX8_readsRooms_55 (by decide) (fun h9 => absurd h9 (by decide)) (fun _ => ?_)
        refine lv_iconst (v := 1) hx hb dX8_readsRooms_58 (by decide) ?_
        refine lv_goto (tgt := 63) hx hb dX8_readsRooms_59 (by decide) ?_
        obtain ⟨q0, qq0⟩ := Prod.mk.inj (Option.some.inj hf)
        have q1 := qq0
        subst r0
        subst M'
        subst hQ
        refine x_zret (post := (fun H H1 => PX G o 5 (mdE G o) M_35 H1 ∧ XF (fun q => (o ≤ q ∧ q < o + 5)) H H1)) S hr hlocks (by decide) rfl ?_ hL dX8_readsRooms_63
        exact ⟨h_md, hF⟩
      · have hf := (if_neg c_34).symm.trans hf
        refine lv_iconst (v := 4) hx hb dX8_readsRooms_42 (by decide) ?_
        refine lv_goto (tgt := 47) hx hb dX8_readsRooms_43 (by decide) ?_
        refine lv_iadd hx hb dX8_readsRooms_47 ?_
        refine x_top (x := 7) (by decide) ?_
        refine lv_istore_n (lv' := [(1, .int 7), (0, .ref o)]) hx hb dX8_readsRooms_48 rfl hl (by decide) rfl (fun ls hl => ?_)
        refine lv_aload_n hx hb dX8_readsRooms_49 rfl (lv_at hl 1 rfl) ?_
        refine lv_iload_n hx hb dX8_readsRooms_50 rfl (lv_at hl 0 rfl) ?_
        obtain ⟨M_36, eM_36, hf⟩ := xl_some hf
        refine x_put S hK h_md hz_md hL 0 (by decide) rfl rfl rfl in8 tyX8 tyX8_ok nmX8 12 (by decide) (xm 1 rfl) rfl (vp_nar_int _) rfl (Nat.le_of_ble_eq_true rfl) rfl eM_36 dX8_readsRooms_51 (fun H1 locs hL h_md hfr => ?_)
        have hF := hF.step hfr (fun q h => by (try dsimp only at h ⊢); omega)
        refine lv_iload_n hx hb dX8_readsRooms_54 rfl (lv_at hl 0 rfl) ?_
        refine lv_if_le (tgt := 62) hx hb dX8_readsRooms_55 (by decide) (fun h9 => absurd h9 (by decide)) (fun _ => ?_)
        refine lv_iconst (v := 1) hx hb dX8_readsRooms_58 (by decide) ?_
        refine lv_goto (tgt := 63) hx hb dX8_readsRooms_59 (by decide) ?_
        obtain ⟨q0, qq0⟩ := Prod.mk.inj (Option.some.inj hf)
        have q1 := qq0
        subst r0
        subst M'
        subst hQ
        refine x_zret (post := (fun H H1 => PX G o 5 (mdE G o) M_36 H1 ∧ XF (fun q => (o ≤ q ∧ q < o + 5)) H H1)) S hr hlocks (by decide) rfl ?_ hL dX8_readsRooms_63
        exact ⟨h_md, hF⟩
set_option maxRecDepth 100000 in
set_option maxHeartbeats 4000000 in
theorem c_X8_readsHire (l : Launch) (G : xG) (z : Nat) (o : Nat) (M : xV) (r0 : Int32) (M' : xV) (hz_md : z ≤ o) (hf : f_X8_readsHire M = some (r0, M')) : xM l yX8_readsHire wsX8_readsHire 3 63 G z [.ref o] (fun H => PX G o 5 (mdE G o) M H) (some (.int r0)) (fun H H1 => PX G o 5 (mdE G o) M' H1 ∧ XF (fun q => (o ≤ q ∧ q < o + 5)) H H1) := by
  refine xM.of (cc := cX8_readsHire) (maxL := 1) (ret := (some .boolean)) (by decide +kernel) rfl (Nat.le_of_ble_eq_true rfl) ?_
  intro p e s m args below meth c ls Q hQ S hr hlocks hK hP hl
  obtain ⟨hx, hb, hml, hown, hts⟩ := id S
  have h_md := hP
  have hL : ∀ q ∈ ([] : List Loc), z ≤ q.base := fun q h => absurd h List.not_mem_nil
  have hF : XF (fun q => (o ≤ q ∧ q < o + 5)) s.heap s.heap := XF.rf
  have hl : lv_has ls 1 [(0, .ref o)] := hl
  have in8 : ∀ w ∈ u_ws RX8 TX8 18, w ∈ wsX8_readsHire := fun _ h => List.mem_cons_of_mem _ (List.mem_append_right _ h)
  unfold f_X8_readsHire at hf
  refine lv_aload_n hx hb dX8_readsHire_0 rfl (lv_at hl 0 rfl) ?_
  refine lv_aload_n hx hb dX8_readsHire_1 rfl (lv_at hl 0 rfl) ?_
  refine lv_iconst (v := 1) hx hb dX8_readsHire_2 (by decide) ?_
  obtain ⟨r_1, M_2, e_3, hf⟩ := xb2_some hf
  refine x_callVi (As := [.int 1]) (rest := [.ref o]) S hK (c_X8_readNumber l G z o M 1 r_1 M_2 (by omega) e_3) gX8_readsHire_X8_readNumber rfl 1 (by decide +kernel) rfl ⟨Nat.le_of_ble_eq_true rfl, Nat.le_of_ble_eq_true rfl⟩ h_md 0 (by decide) rfl rfl rfl h_md hl.1 rfl (Nat.le_of_ble_eq_true rfl) dX8_readsHire_3 hL ⟨Nat.zero_le _, Nat.zero_le _⟩ (fun H1 locs hL hpost => ?_)
  obtain ⟨n_md, hfr⟩ := hpost
  have h_md := n_md
  have hF := hF.step hfr (fun q h => by (try dsimp only at h ⊢); omega)
  obtain ⟨M_4, eM_4, hf⟩ := xl_some hf
  refine x_put S hK h_md hz_md hL 0 (by decide) rfl rfl rfl in8 tyX8 tyX8_ok nmX8 8 (by decide) (xm 1 rfl) rfl (vp_nar_int _) rfl (Nat.le_of_ble_eq_true rfl) rfl eM_4 dX8_readsHire_6 (fun H1 locs hL h_md hfr => ?_)
  have hF := hF.step hfr (fun q h => by (try dsimp only at h ⊢); omega)
  refine lv_aload_n hx hb dX8_readsHire_9 rfl (lv_at hl 0 rfl) ?_
  refine x_get S hK h_md 0 (by decide) rfl rfl rfl in8 8 (by decide) (xm 1 rfl) (x := .int (M_4 0 8)) rfl dX8_readsHire_10 ?_
  refine lv_iconst (v := (-1)) hx hb dX8_readsHire_13 (by decide) ?_
  refine lv_icmp_eq (tgt := 26) hx hb dX8_readsHire_14 (by decide) (fun c_5 => ?_) (fun c_5 => ?_)
  · have hf := (if_pos c_5).symm.trans hf
    refine lv_iconst (v := 0) hx hb dX8_readsHire_26 (by decide) ?_
    obtain ⟨q0, qq0⟩ := Prod.mk.inj (Option.some.inj hf)
    have q1 := qq0
    subst r0
    subst M'
    subst hQ
    refine x_zret (post := (fun H H1 => PX G o 5 (mdE G o) M_4 H1 ∧ XF (fun q => (o ≤ q ∧ q < o + 5)) H H1)) S hr hlocks (by decide) rfl ?_ hL dX8_readsHire_27
    exact ⟨h_md, hF⟩
  · have hf := (if_neg c_5).symm.trans hf
    refine lv_aload_n hx hb dX8_readsHire_17 rfl (lv_at hl 0 rfl) ?_
    refine lv_bipush (v := 58) hx hb dX8_readsHire_18 (by decide) ?_
    obtain ⟨r_6, M_7, e_8, hf⟩ := xb2_some hf
    refine x_callVi (As := [.int 58]) (rest := []) S hK (c_X8_passes l G z o M_4 58 r_6 M_7 (by omega) e_8) gX8_readsHire_X8_passes rfl 1 (by decide +kernel) rfl ⟨Nat.le_of_ble_eq_true rfl, Nat.le_of_ble_eq_true rfl⟩ h_md 0 (by decide) rfl rfl rfl h_md hl.1 rfl (Nat.le_of_ble_eq_true rfl) dX8_readsHire_20 hL ⟨Nat.zero_le _, Nat.zero_le _⟩ (fun H1 locs hL hpost => ?_)
    obtain ⟨n_md, hfr⟩ := hpost
    have h_md := n_md
    have hF := hF.step hfr (fun q h => by (try dsimp only at h ⊢); omega)
    refine lv_if_ne (tgt := 28) hx hb dX8_readsHire_23 (by decide) (fun c_9 => ?_) (fun c_9 => ?_)
    · have hf := (if_neg c_9).symm.trans hf
      refine lv_aload_n hx hb dX8_readsHire_28 rfl (lv_at hl 0 rfl) ?_
      refine lv_aload_n hx hb dX8_readsHire_29 rfl (lv_at hl 0 rfl) ?_
      refine lv_iconst (v := 3) hx hb dX8_readsHire_30 (by decide) ?_
      obtain ⟨r_10, M_11, e_12, hf⟩ := xb2_some hf
      refine x_callVi (As := [.int 3]) (rest := [.ref o]) S hK (c_X8_readNumber l G z o M_7 3 r_10 M_11 (by omega) e_12) gX8_readsHire_X8_readNumber rfl 1 (by decide +kernel) rfl ⟨Nat.le_of_ble_eq_true rfl, Nat.le_of_ble_eq_true rfl⟩ h_md 0 (by decide) rfl rfl rfl h_md hl.1 rfl (Nat.le_of_ble_eq_true rfl) dX8_readsHire_31 hL ⟨Nat.zero_le _, Nat.zero_le _⟩ (fun H1 locs hL hpost => ?_)
      obtain ⟨n_md, hfr⟩ := hpost
      have h_md := n_md
      have hF := hF.step hfr (fun q h => by (try dsimp only at h ⊢); omega)
      obtain ⟨M_13, eM_13, hf⟩ := xl_some hf
      refine x_put S hK h_md hz_md hL 0 (by decide) rfl rfl rfl in8 tyX8 tyX8_ok nmX8 9 (by decide) (xm 2 rfl) rfl (vp_nar_int _) rfl (Nat.le_of_ble_eq_true rfl) rfl eM_13 dX8_readsHire_34 (fun H1 locs hL h_md hfr => ?_)
      have hF := hF.step hfr (fun q h => by (try dsimp only at h ⊢); omega)
      refine lv_aload_n hx hb dX8_readsHire_37 rfl (lv_at hl 0 rfl) ?_
      refine x_get S hK h_md 0 (by decide) rfl rfl rfl in8 9 (by decide) (xm 2 rfl) (x := .int (M_13 0 9)) rfl dX8_readsHire_38 ?_
      refine lv_iconst (v := (-1)) hx hb dX8_readsHire_41 (by decide) ?_
      refine lv_icmp_eq (tgt := 54) hx hb dX8_readsHire_42 (by decide) (fun c_14 => ?_) (fun c_14 => ?_)
      · have hf := (if_pos c_14).symm.trans hf
        refine lv_iconst (v := 0) hx hb dX8_readsHire_54 (by decide) ?_
        obtain ⟨q0, qq0⟩ := Prod.mk.inj (Option.some.inj hf)
        have q1 := qq0
        subst r0
        subst M'
        subst hQ
        refine x_zret (post := (fun H H1 => PX G o 5 (mdE G o) M_13 H1 ∧ XF (fun q => (o ≤ q ∧ q < o + 5)) H H1)) S hr hlocks (by decide) rfl ?_ hL dX8_readsHire_55
        exact ⟨h_md, hF⟩
      · have hf := (if_neg c_14).symm.trans hf
        refine lv_aload_n hx hb dX8_readsHire_45 rfl (lv_at hl 0 rfl) ?_
        refine lv_bipush (v := 64) hx hb dX8_readsHire_46 (by decide) ?_
        obtain ⟨r_15, M_16, e_17, hf⟩ := xb2_some hf
        refine x_callVi (As := [.int 64]) (rest := []) S hK (c_X8_passes l G z o M_13 64 r_15 M_16 (by omega) e_17) gX8_readsHire_X8_passes rfl 1 (by decide +kernel) rfl ⟨Nat.le_of_ble_eq_true rfl, Nat.le_of_ble_eq_true rfl⟩ h_md 0 (by decide) rfl rfl rfl h_md hl.1 rfl (Nat.le_of_ble_eq_true rfl) dX8_readsHire_48 hL ⟨Nat.zero_le _, Nat.zero_le _⟩ (fun H1 locs hL hpost => ?_)
        obtain ⟨n_md, hfr⟩ := hpost
        have h_md := n_md
        have hF := hF.step hfr (fun q h => by (try dsimp only at h ⊢); omega)
        refine lv_if_ne (tgt := 56) hx hb dX8_readsHire_51 (by decide) (fun c_18 => ?_) (fun c_18 => ?_)
        · have hf := (if_neg c_18).symm.trans hf
          refine lv_aload_n hx hb dX8_readsHire_56 rfl (lv_at hl 0 rfl) ?_
          refine lv_aload_n hx hb dX8_readsHire_57 rfl (lv_at hl 0 rfl) ?_
          refine lv_iconst (v := 3) hx hb dX8_readsHire_58 (by decide) ?_
          obtain ⟨r_19, M_20, e_21, hf⟩ := xb2_some hf
          refine x_callVi (As := [.int 3]) (rest := [.ref o]) S hK (c_X8_readNumber l G z o M_16 3 r_19 M_20 (by omega) e_21) gX8_readsHire_X8_readNumber rfl 1 (by decide +kernel) rfl ⟨Nat.le_of_ble_eq_true rfl, Nat.le_of_ble_eq_true rfl⟩ h_md 0 (by decide) rfl rfl rfl h_md hl.1 rfl (Nat.le_of_ble_eq_true rfl) dX8_readsHire_59 hL ⟨Nat.zero_le _, Nat.zero_le _⟩ (fun H1 locs hL hpost => ?_)
          obtain ⟨n_md, hfr⟩ := hpost
          have h_md := n_md
          have hF := hF.step hfr (fun q h => by (try dsimp only at h ⊢); omega)
          obtain ⟨M_22, eM_22, hf⟩ := xl_some hf
          refine x_put S hK h_md hz_md hL 0 (by decide) rfl rfl rfl in8 tyX8 tyX8_ok nmX8 10 (by decide) (xm 3 rfl) rfl (vp_nar_int _) rfl (Nat.le_of_ble_eq_true rfl) rfl eM_22 dX8_readsHire_62 (fun H1 locs hL h_md hfr => ?_)
          have hF := hF.step hfr (fun q h => by (try dsimp only at h ⊢); omega)
          refine lv_aload_n hx hb dX8_readsHire_65 rfl (lv_at hl 0 rfl) ?_
          refine x_get S hK h_md 0 (by decide) rfl rfl rfl in8 10 (by decide) (xm 3 rfl) (x := .int (M_22 0 10)) rfl dX8_readsHire_66 ?_
          refine lv_iconst (v := (-1)) hx hb dX8_readsHire_69 (by decide) ?_
          refine lv_icmp_eq (tgt := 82) hx hb dX8_readsHire_70 (by decide) (fun c_23 => ?_) (fun c_23 => ?_)
          · have hf := (if_pos c_23).symm.trans hf
            refine lv_iconst (v := 0) hx hb dX8_readsHire_82 (by decide) ?_
            obtain ⟨q0, qq0⟩ := Prod.mk.inj (Option.some.inj hf)
            have q1 := qq0
            subst r0
            subst M'
            subst hQ
            refine x_zret (post := (fun H H1 => PX G o 5 (mdE G o) M_22 H1 ∧ XF (fun q => (o ≤ q ∧ q < o + 5)) H H1)) S hr hlocks (by decide) rfl ?_ hL dX8_readsHire_83
            exact ⟨h_md, hF⟩
          · have hf := (if_neg c_23).symm.trans hf
            refine lv_aload_n hx hb dX8_readsHire_73 rfl (lv_at hl 0 rfl) ?_
            refine lv_bipush (v := 45) hx hb dX8_readsHire_74 (by decide) ?_
            obtain ⟨r_24, M_25, e_26, hf⟩ := xb2_some hf
            refine x_callVi (As := [.int 45]) (rest := []) S hK (c_X8_passes l G z o M_22 45 r_24 M_25 (by omega) e_26) gX8_readsHire_X8_passes rfl 1 (by decide +kernel) rfl ⟨Nat.le_of_ble_eq_true rfl, Nat.le_of_ble_eq_true rfl⟩ h_md 0 (by decide) rfl rfl rfl h_md hl.1 rfl (Nat.le_of_ble_eq_true rfl) dX8_readsHire_76 hL ⟨Nat.zero_le _, Nat.zero_le _⟩ (fun H1 locs hL hpost => ?_)
            obtain ⟨n_md, hfr⟩ := hpost
            have h_md := n_md
            have hF := hF.step hfr (fun q h => by (try dsimp only at h ⊢); omega)
            refine lv_if_ne (tgt := 84) hx hb dX8_readsHire_79 (by decide) (fun c_27 => ?_) (fun c_27 => ?_)
            · have hf := (if_neg c_27).symm.trans hf
              refine lv_aload_n hx hb dX8_readsHire_84 rfl (lv_at hl 0 rfl) ?_
              refine lv_aload_n hx hb dX8_readsHire_85 rfl (lv_at hl 0 rfl) ?_
              refine lv_iconst (v := 3) hx hb dX8_readsHire_86 (by decide) ?_
              obtain ⟨r_28, M_29, e_30, hf⟩ := xb2_some hf
              refine x_callVi (As := [.int 3]) (rest := [.ref o]) S hK (c_X8_readNumber l G z o M_25 3 r_28 M_29 (by omega) e_30) gX8_readsHire_X8_readNumber rfl 1 (by decide +kernel) rfl ⟨Nat.le_of_ble_eq_true rfl, Nat.le_of_ble_eq_true rfl⟩ h_md 0 (by decide) rfl rfl rfl h_md hl.1 rfl (Nat.le_of_ble_eq_true rfl) dX8_readsHire_87 hL ⟨Nat.zero_le _, Nat.zero_le _⟩ (fun H1 locs hL hpost => ?_)
              obtain ⟨n_md, hfr⟩ := hpost
              have h_md := n_md
              have hF := hF.step hfr (fun q h => by (try dsimp only at h ⊢); omega)
              obtain ⟨M_31, eM_31, hf⟩ := xl_some hf
              refine x_put S hK h_md hz_md hL 0 (by decide) rfl rfl rfl in8 tyX8 tyX8_ok nmX8 11 (by decide) (xm 4 rfl) rfl (vp_nar_int _) rfl (Nat.le_of_ble_eq_true rfl) rfl eM_31 dX8_readsHire_90 (fun H1 locs hL h_md hfr => ?_)
              have hF := hF.step hfr (fun q h => by (try dsimp only at h ⊢); omega)
              refine lv_aload_n hx hb dX8_readsHire_93 rfl (lv_at hl 0 rfl) ?_
              refine x_get S hK h_md 0 (by decide) rfl rfl rfl in8 11 (by decide) (xm 4 rfl) (x := .int (M_31 0 11)) rfl dX8_readsHire_94 ?_
              refine lv_iconst (v := (-1)) hx hb dX8_readsHire_97 (by decide) ?_
              refine lv_icmp_eq (tgt := 117) hx hb dX8_readsHire_98 (by decide) (fun c_32 => ?_) (fun c_32 => ?_)
              · have hf := (if_pos c_32).symm.trans hf
                refine lv_iconst (v := 0) hx hb dX8_readsHire_117 (by decide) ?_
                obtain ⟨q0, qq0⟩ := Prod.mk.inj (Option.some.inj hf)
                have q1 := qq0
                subst r0
                subst M'
                subst hQ
                refine x_zret (post := (fun H H1 => PX G o 5 (mdE G o) M_31 H1 ∧ XF (fun q => (o ≤ q ∧ q < o + 5)) H H1)) S hr hlocks (by decide) rfl ?_ hL dX8_readsHire_118
                exact ⟨h_md, hF⟩
              · have hf := (if_neg c_32).symm.trans hf
                refine lv_aload_n hx hb dX8_readsHire_101 rfl (lv_at hl 0 rfl) ?_
                refine lv_bipush (v := 47) hx hb dX8_readsHire_102 (by decide) ?_
                obtain ⟨r_33, M_34, e_35, hf⟩ := xb2_some hf
                refine x_callVi (As := [.int 47]) (rest := []) S hK (c_X8_passes l G z o M_31 47 r_33 M_34 (by omega) e_35) gX8_readsHire_X8_passes rfl 1 (by decide +kernel) rfl ⟨Nat.le_of_ble_eq_true rfl, Nat.le_of_ble_eq_true rfl⟩ h_md 0 (by decide) rfl rfl rfl h_md hl.1 rfl (Nat.le_of_ble_eq_true rfl) dX8_readsHire_104 hL ⟨Nat.zero_le _, Nat.zero_le _⟩ (fun H1 locs hL hpost => ?_)
                obtain ⟨n_md, hfr⟩ := hpost
                have h_md := n_md
                have hF := hF.step hfr (fun q h => by (try dsimp only at h ⊢); omega)
                refine lv_if_eq (tgt := 117) hx hb dX8_readsHire_107 (by decide) (fun c_36 => ?_) (fun c_36 => ?_)
                · have hf := (if_pos c_36).symm.trans hf
                  refine lv_iconst (v := 0) hx hb dX8_readsHire_117 (by decide) ?_
                  obtain ⟨q0, qq0⟩ := Prod.mk.inj (Option.some.inj hf)
                  have q1 := qq0
                  subst r0
                  subst M'
                  subst hQ
                  refine x_zret (post := (fun H H1 => PX G o 5 (mdE G o) M_34 H1 ∧ XF (fun q => (o ≤ q ∧ q < o + 5)) H H1)) S hr hlocks (by decide) rfl ?_ hL dX8_readsHire_118
                  exact ⟨h_md, hF⟩
                · have hf := (if_neg c_36).symm.trans hf
                  refine lv_aload_n hx hb dX8_readsHire_110 rfl (lv_at hl 0 rfl) ?_
                  obtain ⟨r_37, M_38, e_39, hf⟩ := xb2_some hf
                  refine x_callVi (As := []) (rest := []) S hK (c_X8_readsRooms l G z o M_34 r_37 M_38 (by omega) e_39) gX8_readsHire_X8_readsRooms rfl 0 (by decide +kernel) rfl ⟨Nat.le_of_ble_eq_true rfl, Nat.le_of_ble_eq_true rfl⟩ h_md 0 (by decide) rfl rfl rfl h_md hl.1 rfl (Nat.le_of_ble_eq_true rfl) dX8_readsHire_111 hL ⟨Nat.zero_le _, Nat.zero_le _⟩ (fun H1 locs hL hpost => ?_)
                  obtain ⟨n_md, hfr⟩ := hpost
                  have h_md := n_md
                  have hF := hF.step hfr (fun q h => by (try dsimp only at h ⊢); omega)
                  refine lv_if_ne (tgt := 119) hx hb dX8_readsHire_114 (by decide) (fun c_40 => ?_) (fun c_40 => ?_)
                  · have hf := (if_neg c_40).symm.trans hf
                    refine lv_aload_n hx hb dX8_readsHire_119 rfl (lv_at hl 0 rfl) ?_
                    refine lv_iconst (v := 1) hx hb dX8_readsHire_120 (by decide) ?_
                    obtain ⟨M_41, eM_41, hf⟩ := xl_some hf
                    refine x_put S hK h_md hz_md hL 0 (by decide) rfl rfl rfl in8 tyX8 tyX8_ok nmX8 13 (by decide) (xm 5 rfl) rfl (vp_nar_int _) rfl (Nat.le_of_ble_eq_true rfl) rfl eM_41 dX8_readsHire_121 (fun H1 locs hL h_md hfr => ?_)
                    have hF := hF.step hfr (fun q h => by (try dsimp only at h ⊢); omega)
                    refine lv_aload_n hx hb dX8_readsHire_124 rfl (lv_at hl 0 rfl) ?_
                    refine lv_iconst (v := 1) hx hb dX8_readsHire_125 (by decide) ?_
                    obtain ⟨M_42, eM_42, hf⟩ := xl_some hf
                    refine x_put S hK h_md hz_md hL 0 (by decide) rfl rfl rfl in8 tyX8 tyX8_ok nmX8 14 (by decide) (xm 6 rfl) rfl (vp_nar_int _) rfl (Nat.le_of_ble_eq_true rfl) rfl eM_42 dX8_readsHire_126 (fun H1 locs hL h_md hfr => ?_)
                    have hF := hF.step hfr (fun q h => by (try dsimp only at h ⊢); omega)
                    refine lv_aload_n hx hb dX8_readsHire_129 rfl (lv_at hl 0 rfl) ?_
                    refine lv_bipush (v := 120) hx hb dX8_readsHire_130 (by decide) ?_
                    obtain ⟨r_43, M_44, e_45, hf⟩ := xb2_some hf
                    refine x_callVi (As := [.int 120]) (rest := []) S hK (c_X8_passes l G z o M_42 120 r_43 M_44 (by omega) e_45) gX8_readsHire_X8_passes rfl 1 (by decide +kernel) rfl ⟨Nat.le_of_ble_eq_true rfl, Nat.le_of_ble_eq_true rfl⟩ h_md 0 (by decide) rfl rfl rfl h_md hl.1 rfl (Nat.le_of_ble_eq_true rfl) dX8_readsHire_132 hL ⟨Nat.zero_le _, Nat.zero_le _⟩ (fun H1 locs hL hpost => ?_)
                    obtain ⟨n_md, hfr⟩ := hpost
                    have h_md := n_md
                    have hF := hF.step hfr (fun q h => by (try dsimp only at h ⊢); omega)
                    refine lv_if_eq (tgt := 175) hx hb dX8_readsHire_135 (by decide) (fun c_46 => ?_) (fun c_46 => ?_)
                    · have hf := (if_pos c_46).symm.trans hf
                      refine lv_aload_n hx hb dX8_readsHire_175 rfl (lv_at hl 0 rfl) ?_
                      refine x_get S hK h_md 0 (by decide) rfl rfl rfl in8 14 (by decide) (xm 6 rfl) (x := .int (M_44 0 14)) rfl dX8_readsHire_176 ?_
                      refine lv_iconst (v := (-1)) hx hb dX8_readsHire_179 (by decide) ?_
                      refine lv_icmp_eq (tgt := 196) hx hb dX8_readsHire_180 (by decide) (fun c_47 => ?_) (fun c_47 => ?_)
                      · have hf := (if_pos c_47).symm.trans hf
                        refine lv_iconst (v := 0) hx hb dX8_readsHire_196 (by decide) ?_
                        obtain ⟨q0, qq0⟩ := Prod.mk.inj (Option.some.inj hf)
                        have q1 := qq0
                        subst r0
                        subst M'
                        subst hQ
                        refine x_zret (post := (fun H H1 => PX G o 5 (mdE G o) M_44 H1 ∧ XF (fun q => (o ≤ q ∧ q < o + 5)) H H1)) S hr hlocks (by decide) rfl ?_ hL dX8_readsHire_197
                        exact ⟨h_md, hF⟩
                      · have hf := (if_neg c_47).symm.trans hf
                        refine lv_aload_n hx hb dX8_readsHire_183 rfl (lv_at hl 0 rfl) ?_
                        refine lv_bipush (v := 59) hx hb dX8_readsHire_184 (by decide) ?_
                        obtain ⟨r_48, M_49, e_50, hf⟩ := xb2_some hf
                        refine x_callVi (As := [.int 59]) (rest := []) S hK (c_X8_passes l G z o M_44 59 r_48 M_49 (by omega) e_50) gX8_readsHire_X8_passes rfl 1 (by decide +kernel) rfl ⟨Nat.le_of_ble_eq_true rfl, Nat.le_of_ble_eq_true rfl⟩ h_md 0 (by decide) rfl rfl rfl h_md hl.1 rfl (Nat.le_of_ble_eq_true rfl) dX8_readsHire_186 hL ⟨Nat.zero_le _, Nat.zero_le _⟩ (fun H1 locs hL hpost => ?_)
                        obtain ⟨n_md, hfr⟩ := hpost
                        have h_md := n_md
                        have hF := hF.step hfr (fun q h => by (try dsimp only at h ⊢); omega)
                        refine lv_if_eq (tgt := 196) hx hb dX8_readsHire_189 (by decide) (fun c_51 => ?_) (fun c_51 => ?_)
                        · have hf := (if_pos c_51).symm.trans hf
                          refine lv_iconst (v := 0) hx hb dX8_readsHire_196 (by decide) ?_
                          obtain ⟨q0, qq0⟩ := Prod.mk.inj (Option.some.inj hf)
                          have q1 := qq0
                          subst r0
                          subst M'
                          subst hQ
                          refine x_zret (post := (fun H H1 => PX G o 5 (mdE G o) M_49 H1 ∧ XF (fun q => (o ≤ q ∧ q < o + 5)) H H1)) S hr hlocks (by decide) rfl ?_ hL dX8_readsHire_197
                          exact ⟨h_md, hF⟩
                        · have hf := (if_neg c_51).symm.trans hf
                          refine lv_iconst (v := 1) hx hb dX8_readsHire_192 (by decide) ?_
                          refine lv_goto (tgt := 197) hx hb dX8_readsHire_193 (by decide) ?_
                          obtain ⟨q0, qq0⟩ := Prod.mk.inj (Option.some.inj hf)
                          have q1 := qq0
                          subst r0
                          subst M'
                          subst hQ
                          refine x_zret (post := (fun H H1 => PX G o 5 (mdE G o) M_49 H1 ∧ XF (fun q => (o ≤ q ∧ q < o + 5)) H H1)) S hr hlocks (by decide) rfl ?_ hL dX8_readsHire_197
                          exact ⟨h_md, hF⟩
                    · have hf := (if_neg c_46).symm.trans hf
                      refine lv_aload_n hx hb dX8_readsHire_138 rfl (lv_at hl 0 rfl) ?_
                      refine lv_aload_n hx hb dX8_readsHire_139 rfl (lv_at hl 0 rfl) ?_
                      refine lv_iconst (v := 3) hx hb dX8_readsHire_140 (by decide) ?_
                      obtain ⟨r_52, M_53, e_54, hf⟩ := xb2_some hf
                      refine x_callVi (As := [.int 3]) (rest := [.ref o]) S hK (c_X8_readNumber l G z o M_44 3 r_52 M_53 (by omega) e_54) gX8_readsHire_X8_readNumber rfl 1 (by decide +kernel) rfl ⟨Nat.le_of_ble_eq_true rfl, Nat.le_of_ble_eq_true rfl⟩ h_md 0 (by decide) rfl rfl rfl h_md hl.1 rfl (Nat.le_of_ble_eq_true rfl) dX8_readsHire_141 hL ⟨Nat.zero_le _, Nat.zero_le _⟩ (fun H1 locs hL hpost => ?_)
                      obtain ⟨n_md, hfr⟩ := hpost
                      have h_md := n_md
                      have hF := hF.step hfr (fun q h => by (try dsimp only at h ⊢); omega)
                      obtain ⟨M_55, eM_55, hf⟩ := xl_some hf
                      refine x_put S hK h_md hz_md hL 0 (by decide) rfl rfl rfl in8 tyX8 tyX8_ok nmX8 13 (by decide) (xm 5 rfl) rfl (vp_nar_int _) rfl (Nat.le_of_ble_eq_true rfl) rfl eM_55 dX8_readsHire_144 (fun H1 locs hL h_md hfr => ?_)
                      have hF := hF.step hfr (fun q h => by (try dsimp only at h ⊢); omega)
                      refine lv_aload_n hx hb dX8_readsHire_147 rfl (lv_at hl 0 rfl) ?_
                      refine x_get S hK h_md 0 (by decide) rfl rfl rfl in8 13 (by decide) (xm 5 rfl) (x := .int (M_55 0 13)) rfl dX8_readsHire_148 ?_
                      refine lv_iconst (v := (-1)) hx hb dX8_readsHire_151 (by decide) ?_
                      refine lv_icmp_eq (tgt := 164) hx hb dX8_readsHire_152 (by decide) (fun c_56 => ?_) (fun c_56 => ?_)
                      · have hf := (if_pos c_56).symm.trans hf
                        refine lv_iconst (v := 0) hx hb dX8_readsHire_164 (by decide) ?_
                        obtain ⟨q0, qq0⟩ := Prod.mk.inj (Option.some.inj hf)
                        have q1 := qq0
                        subst r0
                        subst M'
                        subst hQ
                        refine x_zret (post := (fun H H1 => PX G o 5 (mdE G o) M_55 H1 ∧ XF (fun q => (o ≤ q ∧ q < o + 5)) H H1)) S hr hlocks (by decide) rfl ?_ hL dX8_readsHire_165
                        exact ⟨h_md, hF⟩
                      · have hf := (if_neg c_56).symm.trans hf
                        refine lv_aload_n hx hb dX8_readsHire_155 rfl (lv_at hl 0 rfl) ?_
                        refine lv_bipush (v := 43) hx hb dX8_readsHire_156 (by decide) ?_
                        obtain ⟨r_57, M_58, e_59, hf⟩ := xb2_some hf
                        refine x_callVi (As := [.int 43]) (rest := []) S hK (c_X8_passes l G z o M_55 43 r_57 M_58 (by omega) e_59) gX8_readsHire_X8_passes rfl 1 (by decide +kernel) rfl ⟨Nat.le_of_ble_eq_true rfl, Nat.le_of_ble_eq_true rfl⟩ h_md 0 (by decide) rfl rfl rfl h_md hl.1 rfl (Nat.le_of_ble_eq_true rfl) dX8_readsHire_158 hL ⟨Nat.zero_le _, Nat.zero_le _⟩ (fun H1 locs hL hpost => ?_)
                        obtain ⟨n_md, hfr⟩ := hpost
                        have h_md := n_md
                        have hF := hF.step hfr (fun q h => by (try dsimp only at h ⊢); omega)
                        refine lv_if_ne (tgt := 166) hx hb dX8_readsHire_161 (by decide) (fun c_60 => ?_) (fun c_60 => ?_)
                        · have hf := (if_neg c_60).symm.trans hf
                          refine lv_aload_n hx hb dX8_readsHire_166 rfl (lv_at hl 0 rfl) ?_
                          refine lv_aload_n hx hb dX8_readsHire_167 rfl (lv_at hl 0 rfl) ?_
                          refine lv_iconst (v := 3) hx hb dX8_readsHire_168 (by decide) ?_
                          obtain ⟨r_61, M_62, e_63, hf⟩ := xb2_some hf
                          refine x_callVi (As := [.int 3]) (rest := [.ref o]) S hK (c_X8_readNumber l G z o M_58 3 r_61 M_62 (by omega) e_63) gX8_readsHire_X8_readNumber rfl 1 (by decide +kernel) rfl ⟨Nat.le_of_ble_eq_true rfl, Nat.le_of_ble_eq_true rfl⟩ h_md 0 (by decide) rfl rfl rfl h_md hl.1 rfl (Nat.le_of_ble_eq_true rfl) dX8_readsHire_169 hL ⟨Nat.zero_le _, Nat.zero_le _⟩ (fun H1 locs hL hpost => ?_)
                          obtain ⟨n_md, hfr⟩ := hpost
                          have h_md := n_md
                          have hF := hF.step hfr (fun q h => by (try dsimp only at h ⊢); omega)
                          obtain ⟨M_64, eM_64, hf⟩ := xl_some hf
                          refine x_put S hK h_md hz_md hL 0 (by decide) rfl rfl rfl in8 tyX8 tyX8_ok nmX8 14 (by decide) (xm 6 rfl) rfl (vp_nar_int _) rfl (Nat.le_of_ble_eq_true rfl) rfl eM_64 dX8_readsHire_172 (fun H1 locs hL h_md hfr => ?_)
                          have hF := hF.step hfr (fun q h => by (try dsimp only at h ⊢); omega)
                          refine lv_aload_n hx hb dX8_readsHire_175 rfl (lv_at hl 0 rfl) ?_
                          refine x_get S hK h_md 0 (by decide) rfl rfl rfl in8 14 (by decide) (xm 6 rfl) (x := .int (M_64 0 14)) rfl dX8_readsHire_176 ?_
                          refine lv_iconst (v := (-1)) hx hb dX8_readsHire_179 (by decide) ?_
                          refine lv_icmp_eq (tgt := 196) hx hb dX8_readsHire_180 (by decide) (fun c_65 => ?_) (fun c_65 => ?_)
                          · have hf := (if_pos c_65).symm.trans hf
                            refine lv_iconst (v := 0) hx hb dX8_readsHire_196 (by decide) ?_
                            obtain ⟨q0, qq0⟩ := Prod.mk.inj (Option.some.inj hf)
                            have q1 := qq0
                            subst r0
                            subst M'
                            subst hQ
                            refine x_zret (post := (fun H H1 => PX G o 5 (mdE G o) M_64 H1 ∧ XF (fun q => (o ≤ q ∧ q < o + 5)) H H1)) S hr hlocks (by decide) rfl ?_ hL dX8_readsHire_197
                            exact ⟨h_md, hF⟩
                          · have hf := (if_neg c_65).symm.trans hf
                            refine lv_aload_n hx hb dX8_readsHire_183 rfl (lv_at hl 0 rfl) ?_
                            refine lv_bipush (v := 59) hx hb dX8_readsHire_184 (by decide) ?_
                            obtain ⟨r_66, M_67, e_68, hf⟩ := xb2_some hf
                            refine x_callVi (As := [.int 59]) (rest := []) S hK (c_X8_passes l G z o M_64 59 r_66 M_67 (by omega) e_68) gX8_readsHire_X8_passes rfl 1 (by decide +kernel) rfl ⟨Nat.le_of_ble_eq_true rfl, Nat.le_of_ble_eq_true rfl⟩ h_md 0 (by decide) rfl rfl rfl h_md hl.1 rfl (Nat.le_of_ble_eq_true rfl) dX8_readsHire_186 hL ⟨Nat.zero_le _, Nat.zero_le _⟩ (fun H1 locs hL hpost => ?_)
                            obtain ⟨n_md, hfr⟩ := hpost
                            have h_md := n_md
                            have hF := hF.step hfr (fun q h => by (try dsimp only at h ⊢); omega)
                            refine lv_if_eq (tgt := 196) hx hb dX8_readsHire_189 (by decide) (fun c_69 => ?_) (fun c_69 => ?_)
                            · have hf := (if_pos c_69).symm.trans hf
                              refine lv_iconst (v := 0) hx hb dX8_readsHire_196 (by decide) ?_
                              obtain ⟨q0, qq0⟩ := Prod.mk.inj (Option.some.inj hf)
                              have q1 := qq0
                              subst r0
                              subst M'
                              subst hQ
                              refine x_zret (post := (fun H H1 => PX G o 5 (mdE G o) M_67 H1 ∧ XF (fun q => (o ≤ q ∧ q < o + 5)) H H1)) S hr hlocks (by decide) rfl ?_ hL dX8_readsHire_197
                              exact ⟨h_md, hF⟩
                            · have hf := (if_neg c_69).symm.trans hf
                              refine lv_iconst (v := 1) hx hb dX8_readsHire_192 (by decide) ?_
                              refine lv_goto (tgt := 197) hx hb dX8_readsHire_193 (by decide) ?_
                              obtain ⟨q0, qq0⟩ := Prod.mk.inj (Option.some.inj hf)
                              have q1 := qq0
                              subst r0
                              subst M'
                              subst hQ
                              refine x_zret (post := (fun H H1 => PX G o 5 (mdE G o) M_67 H1 ∧ XF (fun q => (o ≤ q ∧ q < o + 5)) H H1)) S hr hlocks (by decide) rfl ?_ hL dX8_readsHire_197
                              exact ⟨h_md, hF⟩
                        · have hf := (if_pos c_60).symm.trans hf
                          refine lv_iconst (v := 0) hx hb dX8_readsHire_164 (by decide) ?_
                          obtain ⟨q0, qq0⟩ := Prod.mk.inj (Option.some.inj hf)
                          have q1 := qq0
                          subst r0
                          subst M'
                          subst hQ
                          refine x_zret (post := (fun H H1 => PX G o 5 (mdE G o) M_58 H1 ∧ XF (fun q => (o ≤ q ∧ q < o + 5)) H H1)) S hr hlocks (by decide) rfl ?_ hL dX8_readsHire_165
                          exact ⟨h_md, hF⟩
                  · have hf := (if_pos c_40).symm.trans hf
                    refine lv_iconst (v := 0) hx hb dX8_readsHire_117 (by decide) ?_
                    obtain ⟨q0, qq0⟩ := Prod.mk.inj (Option.some.inj hf)
                    have q1 := qq0
                    subst r0
                    subst M'
                    subst hQ
                    refine x_zret (post := (fun H H1 => PX G o 5 (mdE G o) M_38 H1 ∧ XF (fun q => (o ≤ q ∧ q < o + 5)) H H1)) S hr hlocks (by decide) rfl ?_ hL dX8_readsHire_118
                    exact ⟨h_md, hF⟩
            · have hf := (if_pos c_27).symm.trans hf
              refine lv_iconst (v := 0) hx hb dX8_readsHire_82 (by decide) ?_
              obtain ⟨q0, qq0⟩ := Prod.mk.inj (Option.some.inj hf)
              have q1 := qq0
              subst r0
              subst M'
              subst hQ
              refine x_zret (post := (fun H H1 => PX G o 5 (mdE G o) M_25 H1 ∧ XF (fun q => (o ≤ q ∧ q < o + 5)) H H1)) S hr hlocks (by decide) rfl ?_ hL dX8_readsHire_83
              exact ⟨h_md, hF⟩
        · have hf := (if_pos c_18).symm.trans hf
          refine lv_iconst (v := 0) hx hb dX8_readsHire_54 (by decide) ?_
          obtain ⟨q0, qq0⟩ := Prod.mk.inj (Option.some.inj hf)
          have q1 := qq0
          subst r0
          subst M'
          subst hQ
          refine x_zret (post := (fun H H1 => PX G o 5 (mdE G o) M_16 H1 ∧ XF (fun q => (o ≤ q ∧ q < o + 5)) H H1)) S hr hlocks (by decide) rfl ?_ hL dX8_readsHire_55
          exact ⟨h_md, hF⟩
    · have hf := (if_pos c_9).symm.trans hf
      refine lv_iconst (v := 0) hx hb dX8_readsHire_26 (by decide) ?_
      obtain ⟨q0, qq0⟩ := Prod.mk.inj (Option.some.inj hf)
      have q1 := qq0
      subst r0
      subst M'
      subst hQ
      refine x_zret (post := (fun H H1 => PX G o 5 (mdE G o) M_7 H1 ∧ XF (fun q => (o ≤ q ∧ q < o + 5)) H H1)) S hr hlocks (by decide) rfl ?_ hL dX8_readsHire_27
      exact ⟨h_md, hF⟩
set_option maxRecDepth 100000 in
set_option maxHeartbeats 4000000 in
theorem c_X8_isHirer (l : Launch) (G : xG) (z : Nat) (o : Nat) (M : xV) (p1 : Int32) (r0 : Int32)  (hf : f_X8_isHirer M p1 = some r0) : xM l yX8_isHirer wsX8_isHirer 1 25 G z [.ref o, .int p1] (fun H => PX G o 5 (mdE G o) M H) (some (.int r0)) (fun H H1 => H1 = H) := by
  refine xM.of (cc := cX8_isHirer) (maxL := 2) (ret := (some .boolean)) (by decide +kernel) rfl (Nat.le_of_ble_eq_true rfl) ?_
  intro p e s m args below meth c ls Q hQ S hr hlocks hK hP hl
  obtain ⟨hx, hb, hml, hown, hts⟩ := id S
  have h_md := hP
  have hL : ∀ q ∈ ([] : List Loc), z ≤ q.base := fun q h => absurd h List.not_mem_nil
  have hl : lv_has ls 2 [(0, .ref o), (1, .int p1)] := hl
  have in8 : ∀ w ∈ u_ws RX8 TX8 18, w ∈ wsX8_isHirer := fun _ h => List.mem_cons_of_mem _ (List.mem_append_right _ h)
  unfold f_X8_isHirer at hf
  refine lv_iload_n hx hb dX8_isHirer_0 rfl (lv_at hl 1 rfl) ?_
  refine lv_i2l (v := p1.toInt64) hx hb dX8_isHirer_1 rfl ?_
  refine lv_lconst (v := 0) hx hb dX8_isHirer_2 (by decide) ?_
  refine lv_aload_n hx hb dX8_isHirer_3 rfl (lv_at hl 0 rfl) ?_
  refine x_get S hK h_md 0 (by decide) rfl rfl rfl in8 0 (by decide) (xm 1 rfl) (x := .ref (o + 1)) rfl dX8_isHirer_4 ?_
  refine lv_bipush (v := 9) hx hb dX8_isHirer_7 (by decide) ?_
  refine x_iald S hK h_md 1 (by decide) rfl rfl 9 (by decide) (by decide) dX8_isHirer_9 ?_
  refine lv_i2l (v := (M 1 9).toInt64) hx hb dX8_isHirer_10 rfl ?_
  refine lv_lconst (v := 1) hx hb dX8_isHirer_11 (by decide) ?_
  refine lv_lsub hx hb dX8_isHirer_12 ?_
  obtain ⟨r_1, e_2, hf⟩ := xb_some hf
  refine x_callTi (As := [.long (p1.toInt64), .long 0, .long (((M 1 9).toInt64) - 1)]) (rest := []) S hK (c_X8_in l G z (p1.toInt64) 0 (((M 1 9).toInt64) - 1) r_1 e_2) gX8_isHirer_X8_in rfl 3 (by decide +kernel) rfl ⟨Nat.le_of_ble_eq_true rfl, Nat.le_of_ble_eq_true rfl⟩ rfl hl.1 rfl (Nat.le_of_ble_eq_true rfl) dX8_isHirer_13 hL ⟨Nat.zero_le _, Nat.zero_le _⟩ (fun H1 locs hL hpost => ?_)
  subst hpost
  obtain ⟨g_3, hf⟩ := xg_some hf
  have q0 := Option.some.inj hf
  subst r0
  subst hQ
  refine x_zret (post := (fun H H1 => H1 = H)) S hr hlocks g_3 rfl ?_ hL dX8_isHirer_16
  exact rfl
set_option maxRecDepth 100000 in
set_option maxHeartbeats 4000000 in
theorem c_X8_reasonOf (l : Launch) (G : xG) (z : Nat) (o : Nat) (M : xV) (r0 : Int32) (M' : xV) (hz_md : z ≤ o) (hf : f_X8_reasonOf M = some (r0, M')) : xM l yX8_reasonOf wsX8_reasonOf 6 152 G z [.ref o] (fun H => PX G o 5 (mdE G o) M H) (some (.int r0)) (fun H H1 => PX G o 5 (mdE G o) M' H1 ∧ XF (fun q => (o ≤ q ∧ q < o + 5)) H H1) := by
  refine xM.of (cc := cX8_reasonOf) (maxL := 3) (ret := (some .int)) (by decide +kernel) rfl (Nat.le_of_ble_eq_true rfl) ?_
  intro p e s m args below meth c ls Q hQ S hr hlocks hK hP hl
  obtain ⟨hx, hb, hml, hown, hts⟩ := id S
  have h_md := hP
  have hL : ∀ q ∈ ([] : List Loc), z ≤ q.base := fun q h => absurd h List.not_mem_nil
  have hF : XF (fun q => (o ≤ q ∧ q < o + 5)) s.heap s.heap := XF.rf
  have hl : lv_has ls 3 [(0, .ref o)] := hl
  have in8 : ∀ w ∈ u_ws RX8 TX8 18, w ∈ wsX8_reasonOf := fun _ h => List.mem_cons_of_mem _ (List.mem_append_right _ h)
  unfold f_X8_reasonOf at hf
  refine lv_aload_n hx hb dX8_reasonOf_0 rfl (lv_at hl 0 rfl) ?_
  refine lv_aload_n hx hb dX8_reasonOf_1 rfl (lv_at hl 0 rfl) ?_
  refine x_get S hK h_md 0 (by decide) rfl rfl rfl in8 8 (by decide) (xm 1 rfl) (x := .int (M 0 8)) rfl dX8_reasonOf_2 ?_
  obtain ⟨r_1, e_2, hf⟩ := xb_some hf
  refine x_callVi (As := [.int (M 0 8)]) (rest := []) S hK (c_X8_isHirer l G z o M (M 0 8) r_1 e_2) gX8_reasonOf_X8_isHirer rfl 1 (by decide +kernel) rfl ⟨Nat.le_of_ble_eq_true rfl, Nat.le_of_ble_eq_true rfl⟩ h_md 0 (by decide) rfl rfl rfl h_md hl.1 rfl (Nat.le_of_ble_eq_true rfl) dX8_reasonOf_5 hL ⟨Nat.zero_le _, Nat.zero_le _⟩ (fun H1 locs hL hpost => ?_)
  subst hpost
  refine lv_if_ne (tgt := 13) hx hb dX8_reasonOf_8 (by decide) (fun c_3 => ?_) (fun c_3 => ?_)
  · have hf := (if_neg c_3).symm.trans hf
    refine lv_aload_n hx hb dX8_reasonOf_13 rfl (lv_at hl 0 rfl) ?_
    refine x_get S hK h_md 0 (by decide) rfl rfl rfl in8 10 (by decide) (xm 2 rfl) (x := .int (M 0 10)) rfl dX8_reasonOf_14 ?_
    refine lv_aload_n hx hb dX8_reasonOf_17 rfl (lv_at hl 0 rfl) ?_
    refine x_get S hK h_md 0 (by decide) rfl rfl rfl in8 11 (by decide) (xm 3 rfl) (x := .int (M 0 11)) rfl dX8_reasonOf_18 ?_
    refine lv_icmp_ge (tgt := 37) hx hb dX8_reasonOf_21 (by decide) (fun c_4 => ?_) (fun c_4 => ?_)
    · have hf := (if_pos c_4).symm.trans hf
      refine lv_iconst (v := 0) hx hb dX8_reasonOf_37 (by decide) ?_
      refine lv_istore_n (lv' := [(1, .int 0), (0, .ref o)]) hx hb dX8_reasonOf_38 rfl hl (by decide) rfl (fun ls hl => ?_)
      refine lv_aload_n hx hb dX8_reasonOf_39 rfl (lv_at hl 1 rfl) ?_
      refine x_get S hK h_md 0 (by decide) rfl rfl rfl in8 13 (by decide) (xm 4 rfl) (x := .int (M 0 13)) rfl dX8_reasonOf_40 ?_
      refine lv_i2l (v := (M 0 13).toInt64) hx hb dX8_reasonOf_43 rfl ?_
      refine lv_lconst (v := 1) hx hb dX8_reasonOf_44 (by decide) ?_
      refine lv_ldc2 (v := 20) hx hb hown (hts _ (xm 5 rfl)) dX8_reasonOf_45 ?_
      obtain ⟨r_5, e_6, hf⟩ := xb_some hf
      refine x_callTi (As := [.long ((M 0 13).toInt64), .long 1, .long 20]) (rest := []) S hK (c_X8_in l G z ((M 0 13).toInt64) 1 20 r_5 e_6) gX8_reasonOf_X8_in rfl 3 (by decide +kernel) rfl ⟨Nat.le_of_ble_eq_true rfl, Nat.le_of_ble_eq_true rfl⟩ rfl hl.1 rfl (Nat.le_of_ble_eq_true rfl) dX8_reasonOf_48 hL ⟨Nat.zero_le _, Nat.zero_le _⟩ (fun H1 locs hL hpost => ?_)
      subst hpost
      refine lv_if_eq (tgt := 73) hx hb dX8_reasonOf_51 (by decide) (fun c_7 => ?_) (fun c_7 => ?_)
      · have hf := (if_pos c_7).symm.trans hf
        refine lv_iconst (v := 0) hx hb dX8_reasonOf_73 (by decide) ?_
        refine lv_istore_n (lv' := [(2, .int 0), (1, .int 0), (0, .ref o)]) hx hb dX8_reasonOf_74 rfl hl (by decide) rfl (fun ls hl => ?_)
        refine lv_iload_n hx hb dX8_reasonOf_75 rfl (lv_at hl 1 rfl) ?_
        refine lv_if_eq (tgt := 126) hx hb dX8_reasonOf_76 (by decide) (fun _ => ?_) (fun h9 => absurd h9 (by decide))
        refine lv_iconst (v := 3) hx hb dX8_reasonOf_126 (by decide) ?_
        obtain ⟨q0, qq0⟩ := Prod.mk.inj (Option.some.inj hf)
        have q1 := qq0
        subst r0
        subst M'
        subst hQ
        refine x_iret (post := (fun H H1 => PX G o 5 (mdE G o) M H1 ∧ XF (fun q => (o ≤ q ∧ q < o + 5)) H H1)) S hr hlocks rfl ?_ hL dX8_reasonOf_127
        exact ⟨h_md, hF⟩
      · have hf := (if_neg c_7).symm.trans hf
        refine lv_aload_n hx hb dX8_reasonOf_54 rfl (lv_at hl 1 rfl) ?_
        refine x_get S hK h_md 0 (by decide) rfl rfl rfl in8 14 (by decide) (xm 6 rfl) (x := .int (M 0 14)) rfl dX8_reasonOf_55 ?_
        refine lv_i2l (v := (M 0 14).toInt64) hx hb dX8_reasonOf_58 rfl ?_
        refine lv_lconst (v := 1) hx hb dX8_reasonOf_59 (by decide) ?_
        refine lv_ldc2 (v := 60) hx hb hown (hts _ (xm 7 rfl)) dX8_reasonOf_60 ?_
        obtain ⟨r_8, e_9, hf⟩ := xb_some hf
        refine x_callTi (As := [.long ((M 0 14).toInt64), .long 1, .long 60]) (rest := []) S hK (c_X8_in l G z ((M 0 14).toInt64) 1 60 r_8 e_9) gX8_reasonOf_X8_in rfl 3 (by decide +kernel) rfl ⟨Nat.le_of_ble_eq_true rfl, Nat.le_of_ble_eq_true rfl⟩ rfl hl.1 rfl (Nat.le_of_ble_eq_true rfl) dX8_reasonOf_63 hL ⟨Nat.zero_le _, Nat.zero_le _⟩ (fun H1 locs hL hpost => ?_)
        subst hpost
        refine lv_if_eq (tgt := 73) hx hb dX8_reasonOf_66 (by decide) (fun c_10 => ?_) (fun c_10 => ?_)
        · have hf := (if_pos c_10).symm.trans hf
          refine lv_iconst (v := 0) hx hb dX8_reasonOf_73 (by decide) ?_
          refine lv_istore_n (lv' := [(2, .int 0), (1, .int 0), (0, .ref o)]) hx hb dX8_reasonOf_74 rfl hl (by decide) rfl (fun ls hl => ?_)
          refine lv_iload_n hx hb dX8_reasonOf_75 rfl (lv_at hl 1 rfl) ?_
          refine lv_if_eq (tgt := 126) hx hb dX8_reasonOf_76 (by decide) (fun _ => ?_) (fun h9 => absurd h9 (by decide))
          refine lv_iconst (v := 3) hx hb dX8_reasonOf_126 (by decide) ?_
          obtain ⟨q0, qq0⟩ := Prod.mk.inj (Option.some.inj hf)
          have q1 := qq0
          subst r0
          subst M'
          subst hQ
          refine x_iret (post := (fun H H1 => PX G o 5 (mdE G o) M H1 ∧ XF (fun q => (o ≤ q ∧ q < o + 5)) H H1)) S hr hlocks rfl ?_ hL dX8_reasonOf_127
          exact ⟨h_md, hF⟩
        · have hf := (if_neg c_10).symm.trans hf
          refine lv_iconst (v := 1) hx hb dX8_reasonOf_69 (by decide) ?_
          refine lv_goto (tgt := 74) hx hb dX8_reasonOf_70 (by decide) ?_
          refine lv_istore_n (lv' := [(2, .int 1), (1, .int 0), (0, .ref o)]) hx hb dX8_reasonOf_74 rfl hl (by decide) rfl (fun ls hl => ?_)
          refine lv_iload_n hx hb dX8_reasonOf_75 rfl (lv_at hl 1 rfl) ?_
          refine lv_if_eq (tgt := 126) hx hb dX8_reasonOf_76 (by decide) (fun _ => ?_) (fun h9 => absurd h9 (by decide))
          refine lv_iconst (v := 3) hx hb dX8_reasonOf_126 (by decide) ?_
          obtain ⟨q0, qq0⟩ := Prod.mk.inj (Option.some.inj hf)
          have q1 := qq0
          subst r0
          subst M'
          subst hQ
          refine x_iret (post := (fun H H1 => PX G o 5 (mdE G o) M H1 ∧ XF (fun q => (o ≤ q ∧ q < o + 5)) H H1)) S hr hlocks rfl ?_ hL dX8_reasonOf_127
          exact ⟨h_md, hF⟩
    · have hf := (if_neg c_4).symm.trans hf
      refine lv_aload_n hx hb dX8_reasonOf_24 rfl (lv_at hl 0 rfl) ?_
      refine x_get S hK h_md 0 (by decide) rfl rfl rfl in8 11 (by decide) (xm 3 rfl) (x := .int (M 0 11)) rfl dX8_reasonOf_25 ?_
      refine lv_bipush (v := 24) hx hb dX8_reasonOf_28 (by decide) ?_
      refine lv_icmp_gt (tgt := 37) hx hb dX8_reasonOf_30 (by decide) (fun c_11 => ?_) (fun c_11 => ?_)
      · have hf := (if_pos c_11).symm.trans hf
        refine lv_iconst (v := 0) hx hb dX8_reasonOf_37 (by decide) ?_
        refine lv_istore_n (lv' := [(1, .int 0), (0, .ref o)]) hx hb dX8_reasonOf_38 rfl hl (by decide) rfl (fun ls hl => ?_)
        refine lv_aload_n hx hb dX8_reasonOf_39 rfl (lv_at hl 1 rfl) ?_
        refine x_get S hK h_md 0 (by decide) rfl rfl rfl in8 13 (by decide) (xm 4 rfl) (x := .int (M 0 13)) rfl dX8_reasonOf_40 ?_
        refine lv_i2l (v := (M 0 13).toInt64) hx hb dX8_reasonOf_43 rfl ?_
        refine lv_lconst (v := 1) hx hb dX8_reasonOf_44 (by decide) ?_
        refine lv_ldc2 (v := 20) hx hb hown (hts _ (xm 5 rfl)) dX8_reasonOf_45 ?_
        obtain ⟨r_12, e_13, hf⟩ := xb_some hf
        refine x_callTi (As := [.long ((M 0 13).toInt64), .long 1, .long 20]) (rest := []) S hK (c_X8_in l G z ((M 0 13).toInt64) 1 20 r_12 e_13) gX8_reasonOf_X8_in rfl 3 (by decide +kernel) rfl ⟨Nat.le_of_ble_eq_true rfl, Nat.le_of_ble_eq_true rfl⟩ rfl hl.1 rfl (Nat.le_of_ble_eq_true rfl) dX8_reasonOf_48 hL ⟨Nat.zero_le _, Nat.zero_le _⟩ (fun H1 locs hL hpost => ?_)
        subst hpost
        refine lv_if_eq (tgt := 73) hx hb dX8_reasonOf_51 (by decide) (fun c_14 => ?_) (fun c_14 => ?_)
        · have hf := (if_pos c_14).symm.trans hf
          refine lv_iconst (v := 0) hx hb dX8_reasonOf_73 (by decide) ?_
          refine lv_istore_n (lv' := [(2, .int 0), (1, .int 0), (0, .ref o)]) hx hb dX8_reasonOf_74 rfl hl (by decide) rfl (fun ls hl => ?_)
          refine lv_iload_n hx hb dX8_reasonOf_75 rfl (lv_at hl 1 rfl) ?_
          refine lv_if_eq (tgt := 126) hx hb dX8_reasonOf_76 (by decide) (fun _ => ?_) (fun h9 => absurd h9 (by decide))
          refine lv_iconst (v := 3) hx hb dX8_reasonOf_126 (by decide) ?_
          obtain ⟨q0, qq0⟩ := Prod.mk.inj (Option.some.inj hf)
          have q1 := qq0
          subst r0
          subst M'
          subst hQ
          refine x_iret (post := (fun H H1 => PX G o 5 (mdE G o) M H1 ∧ XF (fun q => (o ≤ q ∧ q < o + 5)) H H1)) S hr hlocks rfl ?_ hL dX8_reasonOf_127
          exact ⟨h_md, hF⟩
        · have hf := (if_neg c_14).symm.trans hf
          refine lv_aload_n hx hb dX8_reasonOf_54 rfl (lv_at hl 1 rfl) ?_
          refine x_get S hK h_md 0 (by decide) rfl rfl rfl in8 14 (by decide) (xm 6 rfl) (x := .int (M 0 14)) rfl dX8_reasonOf_55 ?_
          refine lv_i2l (v := (M 0 14).toInt64) hx hb dX8_reasonOf_58 rfl ?_
          refine lv_lconst (v := 1) hx hb dX8_reasonOf_59 (by decide) ?_
          refine lv_ldc2 (v := 60) hx hb hown (hts _ (xm 7 rfl)) dX8_reasonOf_60 ?_
          obtain ⟨r_15, e_16, hf⟩ := xb_some hf
          refine x_callTi (As := [.long ((M 0 14).toInt64), .long 1, .long 60]) (rest := []) S hK (c_X8_in l G z ((M 0 14).toInt64) 1 60 r_15 e_16) gX8_reasonOf_X8_in rfl 3 (by decide +kernel) rfl ⟨Nat.le_of_ble_eq_true rfl, Nat.le_of_ble_eq_true rfl⟩ rfl hl.1 rfl (Nat.le_of_ble_eq_true rfl) dX8_reasonOf_63 hL ⟨Nat.zero_le _, Nat.zero_le _⟩ (fun H1 locs hL hpost => ?_)
          subst hpost
          refine lv_if_eq (tgt := 73) hx hb dX8_reasonOf_66 (by decide) (fun c_17 => ?_) (fun c_17 => ?_)
          · have hf := (if_pos c_17).symm.trans hf
            refine lv_iconst (v := 0) hx hb dX8_reasonOf_73 (by decide) ?_
            refine lv_istore_n (lv' := [(2, .int 0), (1, .int 0), (0, .ref o)]) hx hb dX8_reasonOf_74 rfl hl (by decide) rfl (fun ls hl => ?_)
            refine lv_iload_n hx hb dX8_reasonOf_75 rfl (lv_at hl 1 rfl) ?_
            refine lv_if_eq (tgt := 126) hx hb dX8_reasonOf_76 (by decide) (fun _ => ?_) (fun h9 => absurd h9 (by decide))
            refine lv_iconst (v := 3) hx hb dX8_reasonOf_126 (by decide) ?_
            obtain ⟨q0, qq0⟩ := Prod.mk.inj (Option.some.inj hf)
            have q1 := qq0
            subst r0
            subst M'
            subst hQ
            refine x_iret (post := (fun H H1 => PX G o 5 (mdE G o) M H1 ∧ XF (fun q => (o ≤ q ∧ q < o + 5)) H H1)) S hr hlocks rfl ?_ hL dX8_reasonOf_127
            exact ⟨h_md, hF⟩
          · have hf := (if_neg c_17).symm.trans hf
            refine lv_iconst (v := 1) hx hb dX8_reasonOf_69 (by decide) ?_
            refine lv_goto (tgt := 74) hx hb dX8_reasonOf_70 (by decide) ?_
            refine lv_istore_n (lv' := [(2, .int 1), (1, .int 0), (0, .ref o)]) hx hb dX8_reasonOf_74 rfl hl (by decide) rfl (fun ls hl => ?_)
            refine lv_iload_n hx hb dX8_reasonOf_75 rfl (lv_at hl 1 rfl) ?_
            refine lv_if_eq (tgt := 126) hx hb dX8_reasonOf_76 (by decide) (fun _ => ?_) (fun h9 => absurd h9 (by decide))
            refine lv_iconst (v := 3) hx hb dX8_reasonOf_126 (by decide) ?_
            obtain ⟨q0, qq0⟩ := Prod.mk.inj (Option.some.inj hf)
            have q1 := qq0
            subst r0
            subst M'
            subst hQ
            refine x_iret (post := (fun H H1 => PX G o 5 (mdE G o) M H1 ∧ XF (fun q => (o ≤ q ∧ q < o + 5)) H H1)) S hr hlocks rfl ?_ hL dX8_reasonOf_127
            exact ⟨h_md, hF⟩
      · have hf := (if_neg c_11).symm.trans hf
        refine lv_iconst (v := 1) hx hb dX8_reasonOf_33 (by decide) ?_
        refine lv_goto (tgt := 38) hx hb dX8_reasonOf_34 (by decide) ?_
        refine lv_istore_n (lv' := [(1, .int 1), (0, .ref o)]) hx hb dX8_reasonOf_38 rfl hl (by decide) rfl (fun ls hl => ?_)
        refine lv_aload_n hx hb dX8_reasonOf_39 rfl (lv_at hl 1 rfl) ?_
        refine x_get S hK h_md 0 (by decide) rfl rfl rfl in8 13 (by decide) (xm 4 rfl) (x := .int (M 0 13)) rfl dX8_reasonOf_40 ?_
        refine lv_i2l (v := (M 0 13).toInt64) hx hb dX8_reasonOf_43 rfl ?_
        refine lv_lconst (v := 1) hx hb dX8_reasonOf_44 (by decide) ?_
        refine lv_ldc2 (v := 20) hx hb hown (hts _ (xm 5 rfl)) dX8_reasonOf_45 ?_
        obtain ⟨r_18, e_19, hf⟩ := xb_some hf
        refine x_callTi (As := [.long ((M 0 13).toInt64), .long 1, .long 20]) (rest := []) S hK (c_X8_in l G z ((M 0 13).toInt64) 1 20 r_18 e_19) gX8_reasonOf_X8_in rfl 3 (by decide +kernel) rfl ⟨Nat.le_of_ble_eq_true rfl, Nat.le_of_ble_eq_true rfl⟩ rfl hl.1 rfl (Nat.le_of_ble_eq_true rfl) dX8_reasonOf_48 hL ⟨Nat.zero_le _, Nat.zero_le _⟩ (fun H1 locs hL hpost => ?_)
        subst hpost
        refine lv_if_eq (tgt := 73) hx hb dX8_reasonOf_51 (by decide) (fun c_20 => ?_) (fun c_20 => ?_)
        · have hf := (if_pos c_20).symm.trans hf
          refine lv_iconst (v := 0) hx hb dX8_reasonOf_73 (by decide) ?_
          refine lv_istore_n (lv' := [(2, .int 0), (1, .int 1), (0, .ref o)]) hx hb dX8_reasonOf_74 rfl hl (by decide) rfl (fun ls hl => ?_)
          refine lv_iload_n hx hb dX8_reasonOf_75 rfl (lv_at hl 1 rfl) ?_
          refine lv_if_eq (tgt := 126) hx hb dX8_reasonOf_76 (by decide) (fun h9 => absurd h9 (by decide)) (fun _ => ?_)
          refine lv_iload_n hx hb dX8_reasonOf_79 rfl (lv_at hl 0 rfl) ?_
          refine lv_if_eq (tgt := 126) hx hb dX8_reasonOf_80 (by decide) (fun _ => ?_) (fun h9 => absurd h9 (by decide))
          refine lv_iconst (v := 3) hx hb dX8_reasonOf_126 (by decide) ?_
          obtain ⟨q0, qq0⟩ := Prod.mk.inj (Option.some.inj hf)
          have q1 := qq0
          subst r0
          subst M'
          subst hQ
          refine x_iret (post := (fun H H1 => PX G o 5 (mdE G o) M H1 ∧ XF (fun q => (o ≤ q ∧ q < o + 5)) H H1)) S hr hlocks rfl ?_ hL dX8_reasonOf_127
          exact ⟨h_md, hF⟩
        · have hf := (if_neg c_20).symm.trans hf
          refine lv_aload_n hx hb dX8_reasonOf_54 rfl (lv_at hl 1 rfl) ?_
          refine x_get S hK h_md 0 (by decide) rfl rfl rfl in8 14 (by decide) (xm 6 rfl) (x := .int (M 0 14)) rfl dX8_reasonOf_55 ?_
          refine lv_i2l (v := (M 0 14).toInt64) hx hb dX8_reasonOf_58 rfl ?_
          refine lv_lconst (v := 1) hx hb dX8_reasonOf_59 (by decide) ?_
          refine lv_ldc2 (v := 60) hx hb hown (hts _ (xm 7 rfl)) dX8_reasonOf_60 ?_
          obtain ⟨r_21, e_22, hf⟩ := xb_some hf
          refine x_callTi (As := [.long ((M 0 14).toInt64), .long 1, .long 60]) (rest := []) S hK (c_X8_in l G z ((M 0 14).toInt64) 1 60 r_21 e_22) gX8_reasonOf_X8_in rfl 3 (by decide +kernel) rfl ⟨Nat.le_of_ble_eq_true rfl, Nat.le_of_ble_eq_true rfl⟩ rfl hl.1 rfl (Nat.le_of_ble_eq_true rfl) dX8_reasonOf_63 hL ⟨Nat.zero_le _, Nat.zero_le _⟩ (fun H1 locs hL hpost => ?_)
          subst hpost
          refine lv_if_eq (tgt := 73) hx hb dX8_reasonOf_66 (by decide) (fun c_23 => ?_) (fun c_23 => ?_)
          · have hf := (if_pos c_23).symm.trans hf
            refine lv_iconst (v := 0) hx hb dX8_reasonOf_73 (by decide) ?_
            refine lv_istore_n (lv' := [(2, .int 0), (1, .int 1), (0, .ref o)]) hx hb dX8_reasonOf_74 rfl hl (by decide) rfl (fun ls hl => ?_)
            refine lv_iload_n hx hb dX8_reasonOf_75 rfl (lv_at hl 1 rfl) ?_
            refine lv_if_eq (tgt := 126) hx hb dX8_reasonOf_76 (by decide) (fun h9 => absurd h9 (by decide)) (fun _ => ?_)
            refine lv_iload_n hx hb dX8_reasonOf_79 rfl (lv_at hl 0 rfl) ?_
            refine lv_if_eq (tgt := 126) hx hb dX8_reasonOf_80 (by decide) (fun _ => ?_) (fun h9 => absurd h9 (by decide))
            refine lv_iconst (v := 3) hx hb dX8_reasonOf_126 (by decide) ?_
            obtain ⟨q0, qq0⟩ := Prod.mk.inj (Option.some.inj hf)
            have q1 := qq0
            subst r0
            subst M'
            subst hQ
            refine x_iret (post := (fun H H1 => PX G o 5 (mdE G o) M H1 ∧ XF (fun q => (o ≤ q ∧ q < o + 5)) H H1)) S hr hlocks rfl ?_ hL dX8_reasonOf_127
            exact ⟨h_md, hF⟩
          · have hf := (if_neg c_23).symm.trans hf
            refine lv_iconst (v := 1) hx hb dX8_reasonOf_69 (by decide) ?_
            refine lv_goto (tgt := 74) hx hb dX8_reasonOf_70 (by decide) ?_
            refine lv_istore_n (lv' := [(2, .int 1), (1, .int 1), (0, .ref o)]) hx hb dX8_reasonOf_74 rfl hl (by decide) rfl (fun ls hl => ?_)
            refine lv_iload_n hx hb dX8_reasonOf_75 rfl (lv_at hl 1 rfl) ?_
            refine lv_if_eq (tgt := 126) hx hb dX8_reasonOf_76 (by decide) (fun h9 => absurd h9 (by decide)) (fun _ => ?_)
            refine lv_iload_n hx hb dX8_reasonOf_79 rfl (lv_at hl 0 rfl) ?_
            refine lv_if_eq (tgt := 126) hx hb dX8_reasonOf_80 (by decide) (fun h9 => absurd h9 (by decide)) (fun _ => ?_)
            refine lv_aload_n hx hb dX8_reasonOf_83 rfl (lv_at hl 2 rfl) ?_
            refine x_get S hK h_md 0 (by decide) rfl rfl rfl in8 9 (by decide) (xm 8 rfl) (x := .int (M 0 9)) rfl dX8_reasonOf_84 ?_
            refine lv_i2l (v := (M 0 9).toInt64) hx hb dX8_reasonOf_87 rfl ?_
            refine lv_aload_n hx hb dX8_reasonOf_88 rfl (lv_at hl 2 rfl) ?_
            refine x_get S hK h_md 0 (by decide) rfl rfl rfl in8 0 (by decide) (xm 9 rfl) (x := .ref (o + 1)) rfl dX8_reasonOf_89 ?_
            refine lv_iconst (v := 0) hx hb dX8_reasonOf_92 (by decide) ?_
            refine x_iald S hK h_md 1 (by decide) rfl rfl 0 (by decide) (by decide) dX8_reasonOf_93 ?_
            refine lv_i2l (v := (M 1 0).toInt64) hx hb dX8_reasonOf_94 rfl ?_
            refine lv_ldc2 (v := 364) hx hb hown (hts _ (xm 10 rfl)) dX8_reasonOf_95 ?_
            obtain ⟨r_24, e_25, hf⟩ := xb_some hf
            refine x_callTi (As := [.long ((M 0 9).toInt64), .long ((M 1 0).toInt64), .long 364]) (rest := []) S hK (c_X8_in l G z ((M 0 9).toInt64) ((M 1 0).toInt64) 364 r_24 e_25) gX8_reasonOf_X8_in rfl 3 (by decide +kernel) rfl ⟨Nat.le_of_ble_eq_true rfl, Nat.le_of_ble_eq_true rfl⟩ rfl hl.1 rfl (Nat.le_of_ble_eq_true rfl) dX8_reasonOf_98 hL ⟨Nat.zero_le _, Nat.zero_le _⟩ (fun H1 locs hL hpost => ?_)
            subst hpost
            refine lv_if_eq (tgt := 126) hx hb dX8_reasonOf_101 (by decide) (fun c_26 => ?_) (fun c_26 => ?_)
            · have hf := (if_pos c_26).symm.trans hf
              refine lv_iconst (v := 3) hx hb dX8_reasonOf_126 (by decide) ?_
              obtain ⟨q0, qq0⟩ := Prod.mk.inj (Option.some.inj hf)
              have q1 := qq0
              subst r0
              subst M'
              subst hQ
              refine x_iret (post := (fun H H1 => PX G o 5 (mdE G o) M H1 ∧ XF (fun q => (o ≤ q ∧ q < o + 5)) H H1)) S hr hlocks rfl ?_ hL dX8_reasonOf_127
              exact ⟨h_md, hF⟩
            · have hf := (if_neg c_26).symm.trans hf
              refine lv_aload_n hx hb dX8_reasonOf_104 rfl (lv_at hl 2 rfl) ?_
              refine x_get S hK h_md 0 (by decide) rfl rfl rfl in8 9 (by decide) (xm 8 rfl) (x := .int (M 0 9)) rfl dX8_reasonOf_105 ?_
              refine lv_aload_n hx hb dX8_reasonOf_108 rfl (lv_at hl 2 rfl) ?_
              refine x_get S hK h_md 0 (by decide) rfl rfl rfl in8 13 (by decide) (xm 4 rfl) (x := .int (M 0 13)) rfl dX8_reasonOf_109 ?_
              refine lv_iconst (v := 1) hx hb dX8_reasonOf_112 (by decide) ?_
              refine lv_isub hx hb dX8_reasonOf_113 ?_
              refine lv_aload_n hx hb dX8_reasonOf_114 rfl (lv_at hl 2 rfl) ?_
              refine x_get S hK h_md 0 (by decide) rfl rfl rfl in8 14 (by decide) (xm 6 rfl) (x := .int (M 0 14)) rfl dX8_reasonOf_115 ?_
              refine lv_imul hx hb dX8_reasonOf_118 ?_
              refine lv_iadd hx hb dX8_reasonOf_119 ?_
              refine lv_sipush (v := 364) hx hb dX8_reasonOf_120 (by decide) ?_
              refine lv_icmp_le (tgt := 128) hx hb dX8_reasonOf_123 (by decide) (fun c_27 => ?_) (fun c_27 => ?_)
              · have hf := (if_pos c_27).symm.trans hf
                refine lv_aload_n hx hb dX8_reasonOf_128 rfl (lv_at hl 2 rfl) ?_
                refine lv_aload_n hx hb dX8_reasonOf_129 rfl (lv_at hl 2 rfl) ?_
                refine lv_aload_n hx hb dX8_reasonOf_130 rfl (lv_at hl 2 rfl) ?_
                refine x_get S hK h_md 0 (by decide) rfl rfl rfl in8 8 (by decide) (xm 1 rfl) (x := .int (M 0 8)) rfl dX8_reasonOf_131 ?_
                refine lv_aload_n hx hb dX8_reasonOf_134 rfl (lv_at hl 2 rfl) ?_
                refine x_get S hK h_md 0 (by decide) rfl rfl rfl in8 12 (by decide) (xm 11 rfl) (x := .int (M 0 12)) rfl dX8_reasonOf_135 ?_
                refine lv_aload_n hx hb dX8_reasonOf_138 rfl (lv_at hl 2 rfl) ?_
                refine x_get S hK h_md 0 (by decide) rfl rfl rfl in8 9 (by decide) (xm 8 rfl) (x := .int (M 0 9)) rfl dX8_reasonOf_139 ?_
                refine lv_aload_n hx hb dX8_reasonOf_142 rfl (lv_at hl 2 rfl) ?_
                refine x_get S hK h_md 0 (by decide) rfl rfl rfl in8 10 (by decide) (xm 2 rfl) (x := .int (M 0 10)) rfl dX8_reasonOf_143 ?_
                refine lv_aload_n hx hb dX8_reasonOf_146 rfl (lv_at hl 2 rfl) ?_
                refine x_get S hK h_md 0 (by decide) rfl rfl rfl in8 11 (by decide) (xm 3 rfl) (x := .int (M 0 11)) rfl dX8_reasonOf_147 ?_
                refine lv_aload_n hx hb dX8_reasonOf_150 rfl (lv_at hl 2 rfl) ?_
                refine x_get S hK h_md 0 (by decide) rfl rfl rfl in8 13 (by decide) (xm 4 rfl) (x := .int (M 0 13)) rfl dX8_reasonOf_151 ?_
                refine lv_aload_n hx hb dX8_reasonOf_154 rfl (lv_at hl 2 rfl) ?_
                refine x_get S hK h_md 0 (by decide) rfl rfl rfl in8 14 (by decide) (xm 6 rfl) (x := .int (M 0 14)) rfl dX8_reasonOf_155 ?_
                obtain ⟨r_28, e_29, hf⟩ := xb_some hf
                refine x_callVi (As := [.int (M 0 8), .int (M 0 12), .int (M 0 9), .int (M 0 10), .int (M 0 11), .int (M 0 13), .int (M 0 14)]) (rest := [.ref o]) S hK (c_X8_clashOfAll l G z o M (M 0 8) (M 0 12) (M 0 9) (M 0 10) (M 0 11) (M 0 13) (M 0 14) r_28 e_29) gX8_reasonOf_X8_clashOfAll rfl 7 (by decide +kernel) rfl ⟨Nat.le_of_ble_eq_true rfl, Nat.le_of_ble_eq_true rfl⟩ h_md 0 (by decide) rfl rfl rfl h_md hl.1 rfl (Nat.le_of_ble_eq_true rfl) dX8_reasonOf_158 hL ⟨Nat.zero_le _, Nat.zero_le _⟩ (fun H1 locs hL hpost => ?_)
                subst hpost
                obtain ⟨M_30, eM_30, hf⟩ := xl_some hf
                refine x_put S hK h_md hz_md hL 0 (by decide) rfl rfl rfl in8 tyX8 tyX8_ok nmX8 16 (by decide) (xm 12 rfl) rfl (vp_nar_int _) rfl (Nat.le_of_ble_eq_true rfl) rfl eM_30 dX8_reasonOf_161 (fun H1 locs hL h_md hfr => ?_)
                have hF := hF.step hfr (fun q h => by (try dsimp only at h ⊢); omega)
                refine lv_aload_n hx hb dX8_reasonOf_164 rfl (lv_at hl 2 rfl) ?_
                refine x_get S hK h_md 0 (by decide) rfl rfl rfl in8 16 (by decide) (xm 12 rfl) (x := .int (M_30 0 16)) rfl dX8_reasonOf_165 ?_
                refine lv_iconst (v := (-1)) hx hb dX8_reasonOf_168 (by decide) ?_
                refine lv_icmp_eq (tgt := 176) hx hb dX8_reasonOf_169 (by decide) (fun c_31 => ?_) (fun c_31 => ?_)
                · have hf := (if_pos c_31).symm.trans hf
                  refine lv_aload_n hx hb dX8_reasonOf_176 rfl (lv_at hl 2 rfl) ?_
                  refine x_get S hK h_md 0 (by decide) rfl rfl rfl in8 0 (by decide) (xm 9 rfl) (x := .ref (o + 1)) rfl dX8_reasonOf_177 ?_
                  refine lv_bipush (v := 10) hx hb dX8_reasonOf_180 (by decide) ?_
                  refine x_iald S hK h_md 1 (by decide) rfl rfl 10 (by decide) (by decide) dX8_reasonOf_182 ?_
                  refine lv_bipush (v := 12) hx hb dX8_reasonOf_183 (by decide) ?_
                  refine lv_icmp_ne (tgt := 192) hx hb dX8_reasonOf_185 (by decide) (fun c_32 => ?_) (fun c_32 => ?_)
                  · have hf := (if_neg c_32).symm.trans hf
                    refine lv_iconst (v := 0) hx hb dX8_reasonOf_192 (by decide) ?_
                    obtain ⟨q0, qq0⟩ := Prod.mk.inj (Option.some.inj hf)
                    have q1 := qq0
                    subst r0
                    subst M'
                    subst hQ
                    refine x_iret (post := (fun H H1 => PX G o 5 (mdE G o) M_30 H1 ∧ XF (fun q => (o ≤ q ∧ q < o + 5)) H H1)) S hr hlocks rfl ?_ hL dX8_reasonOf_193
                    exact ⟨h_md, hF⟩
                  · have hf := (if_pos c_32).symm.trans hf
                    refine lv_iconst (v := 5) hx hb dX8_reasonOf_188 (by decide) ?_
                    refine lv_goto (tgt := 193) hx hb dX8_reasonOf_189 (by decide) ?_
                    obtain ⟨q0, qq0⟩ := Prod.mk.inj (Option.some.inj hf)
                    have q1 := qq0
                    subst r0
                    subst M'
                    subst hQ
                    refine x_iret (post := (fun H H1 => PX G o 5 (mdE G o) M_30 H1 ∧ XF (fun q => (o ≤ q ∧ q < o + 5)) H H1)) S hr hlocks rfl ?_ hL dX8_reasonOf_193
                    exact ⟨h_md, hF⟩
                · have hf := (if_neg c_31).symm.trans hf
                  refine lv_iconst (v := 4) hx hb dX8_reasonOf_172 (by decide) ?_
                  refine lv_goto (tgt := 193) hx hb dX8_reasonOf_173 (by decide) ?_
                  obtain ⟨q0, qq0⟩ := Prod.mk.inj (Option.some.inj hf)
                  have q1 := qq0
                  subst r0
                  subst M'
                  subst hQ
                  refine x_iret (post := (fun H H1 => PX G o 5 (mdE G o) M_30 H1 ∧ XF (fun q => (o ≤ q ∧ q < o + 5)) H H1)) S hr hlocks rfl ?_ hL dX8_reasonOf_193
                  exact ⟨h_md, hF⟩
              · have hf := (if_neg c_27).symm.trans hf
                refine lv_iconst (v := 3) hx hb dX8_reasonOf_126 (by decide) ?_
                obtain ⟨q0, qq0⟩ := Prod.mk.inj (Option.some.inj hf)
                have q1 := qq0
                subst r0
                subst M'
                subst hQ
                refine x_iret (post := (fun H H1 => PX G o 5 (mdE G o) M H1 ∧ XF (fun q => (o ≤ q ∧ q < o + 5)) H H1)) S hr hlocks rfl ?_ hL dX8_reasonOf_127
                exact ⟨h_md, hF⟩
  · have hf := (if_pos c_3).symm.trans hf
    refine lv_iconst (v := 2) hx hb dX8_reasonOf_11 (by decide) ?_
    obtain ⟨q0, qq0⟩ := Prod.mk.inj (Option.some.inj hf)
    have q1 := qq0
    subst r0
    subst M'
    subst hQ
    refine x_iret (post := (fun H H1 => PX G o 5 (mdE G o) M H1 ∧ XF (fun q => (o ≤ q ∧ q < o + 5)) H H1)) S hr hlocks rfl ?_ hL dX8_reasonOf_12
    exact ⟨h_md, hF⟩
set_option maxRecDepth 100000 in
set_option maxHeartbeats 4000000 in
theorem c_X8_makesAll (l : Launch) (G : xG) (z : Nat) (o : Nat) (M : xV) (r0 : Int32) (M' : xV) (hz_md : z ≤ o) (hf : f_X8_makesAll M = some (r0, M')) : xM l yX8_makesAll wsX8_makesAll 7 174 G z [.ref o] (fun H => PX G o 5 (mdE G o) M H) (some (.int r0)) (fun H H1 => PX G o 5 (mdE G o) M' H1 ∧ XF (fun q => (o ≤ q ∧ q < o + 5)) H H1) := by
  refine xM.of (cc := cX8_makesAll) (maxL := 2) (ret := (some .int)) (by decide +kernel) rfl (Nat.le_of_ble_eq_true rfl) ?_
  intro p e s m args below meth c ls Q hQ S hr hlocks hK hP hl
  obtain ⟨hx, hb, hml, hown, hts⟩ := id S
  have h_md := hP
  have hL : ∀ q ∈ ([] : List Loc), z ≤ q.base := fun q h => absurd h List.not_mem_nil
  have hF : XF (fun q => (o ≤ q ∧ q < o + 5)) s.heap s.heap := XF.rf
  have hl : lv_has ls 2 [(0, .ref o)] := hl
  have in8 : ∀ w ∈ u_ws RX8 TX8 18, w ∈ wsX8_makesAll := fun _ h => List.mem_cons_of_mem _ (List.mem_append_right _ h)
  unfold f_X8_makesAll at hf
  refine lv_aload_n hx hb dX8_makesAll_0 rfl (lv_at hl 0 rfl) ?_
  refine lv_iconst (v := 0) hx hb dX8_makesAll_1 (by decide) ?_
  obtain ⟨M_1, eM_1, hf⟩ := xl_some hf
  refine x_put S hK h_md hz_md hL 0 (by decide) rfl rfl rfl in8 tyX8 tyX8_ok nmX8 7 (by decide) (xm 1 rfl) rfl (vp_nar_int _) rfl (Nat.le_of_ble_eq_true rfl) rfl eM_1 dX8_makesAll_2 (fun H1 locs hL h_md hfr => ?_)
  have hF := hF.step hfr (fun q h => by (try dsimp only at h ⊢); omega)
  refine lv_aload_n hx hb dX8_makesAll_5 rfl (lv_at hl 0 rfl) ?_
  refine lv_iconst (v := 0) hx hb dX8_makesAll_6 (by decide) ?_
  obtain ⟨M_2, eM_2, hf⟩ := xl_some hf
  refine x_put S hK h_md hz_md hL 0 (by decide) rfl rfl rfl in8 tyX8 tyX8_ok nmX8 17 (by decide) (xm 2 rfl) rfl (vp_nar_int _) rfl (Nat.le_of_ble_eq_true rfl) rfl eM_2 dX8_makesAll_7 (fun H1 locs hL h_md hfr => ?_)
  have hF := hF.step hfr (fun q h => by (try dsimp only at h ⊢); omega)
  refine lv_aload_n hx hb dX8_makesAll_10 rfl (lv_at hl 0 rfl) ?_
  refine lv_iconst (v := 0) hx hb dX8_makesAll_11 (by decide) ?_
  obtain ⟨M_3, eM_3, hf⟩ := xl_some hf
  refine x_put S hK h_md hz_md hL 0 (by decide) rfl rfl rfl in8 tyX8 tyX8_ok nmX8 15 (by decide) (xm 3 rfl) rfl (vp_nar_int _) rfl (Nat.le_of_ble_eq_true rfl) rfl eM_3 dX8_makesAll_12 (fun H1 locs hL h_md hfr => ?_)
  have hF := hF.step hfr (fun q h => by (try dsimp only at h ⊢); omega)
  have lp_15 : ∀ (K_15 : xV → Option (Int32 × xV)), (∀ (M_4 : xV) (H : Heap) (locs : List Loc) (ls : Array Slot), (∀ q ∈ locs, z ≤ q.base) → PX G o 5 (mdE G o) M_4 H → XF (fun q => (o ≤ q ∧ q < o + 5)) s.heap H → lv_has ls 2 [] → K_15 M_4 = some (r0, M') → W p l e { frames := 7, cells := 0, slots := 0, locals := 174 } s m args below meth c H locs 0 0 Q (F0 m 104 ls [])) → ∀ (n : Nat) (M_4 : xV) (H : Heap) (locs : List Loc) (ls : Array Slot), (∀ q ∈ locs, z ≤ q.base) → PX G o 5 (mdE G o) M_4 H → XF (fun q => (o ≤ q ∧ q < o + 5)) s.heap H → lv_has ls 2 [(0, .ref o)] → L_X8_makesAll_15 K_15 n M_4 = some (r0, M') → W p l e { frames := 7, cells := 0, slots := 0, locals := 174 } s m args below meth c H locs 0 0 Q (F0 m 15 ls []) := by
    intro K_15 hK_15 n
    induction n with
    | zero =>
      intro M_4 H locs ls hL h_md hF hl hf
      cases hf
    | succ n ih_15 =>
      intro M_4 H locs ls hL h_md hF hl hf
      unfold L_X8_makesAll_15 at hf
      refine lv_aload_n hx hb dX8_makesAll_15 rfl (lv_at hl 0 rfl) ?_
      refine x_get S hK h_md 0 (by decide) rfl rfl rfl in8 7 (by decide) (xm 1 rfl) (x := .int (M_4 0 7)) rfl dX8_makesAll_16 ?_
      refine lv_aload_n hx hb dX8_makesAll_19 rfl (lv_at hl 0 rfl) ?_
      refine x_get S hK h_md 0 (by decide) rfl rfl rfl in8 6 (by decide) (xm 4 rfl) (x := .int (M_4 0 6)) rfl dX8_makesAll_20 ?_
      refine lv_icmp_ge (tgt := 104) hx hb dX8_makesAll_23 (by decide) (fun c_5 => ?_) (fun c_5 => ?_)
      · have hf := (if_pos c_5).symm.trans hf
        exact hK_15 M_4 _ _ _ hL h_md hF (lv_sub hl [] rfl) hf
      · have hf := (if_neg c_5).symm.trans hf
        refine lv_aload_n hx hb dX8_makesAll_26 rfl (lv_at hl 0 rfl) ?_
        refine x_get S hK h_md 0 (by decide) rfl rfl rfl in8 7 (by decide) (xm 1 rfl) (x := .int (M_4 0 7)) rfl dX8_makesAll_27 ?_
        obtain ⟨x_6, ex_6, hf⟩ := xl_some hf
        refine x_top ex_6 ?_
        refine lv_istore_n (lv' := [(1, .int x_6), (0, .ref o)]) hx hb dX8_makesAll_30 rfl hl (by decide) rfl (fun ls hl => ?_)
        refine lv_aload_n hx hb dX8_makesAll_31 rfl (lv_at hl 1 rfl) ?_
        refine lv_aload_n hx hb dX8_makesAll_32 rfl (lv_at hl 1 rfl) ?_
        obtain ⟨r_7, M_8, e_9, hf⟩ := xb2_some hf
        refine x_callVi (As := []) (rest := [.ref o]) S hK (c_X8_readsHire l G z o M_4 r_7 M_8 (by omega) e_9) gX8_makesAll_X8_readsHire rfl 0 (by decide +kernel) rfl ⟨Nat.le_of_ble_eq_true rfl, Nat.le_of_ble_eq_true rfl⟩ h_md 0 (by decide) rfl rfl rfl h_md hl.1 rfl (Nat.le_of_ble_eq_true rfl) dX8_makesAll_33 hL ⟨Nat.zero_le _, Nat.zero_le _⟩ (fun H1 locs hL hpost => ?_)
        obtain ⟨n_md, hfr⟩ := hpost
        have h_md := n_md
        have hF := hF.step hfr (fun q h => by (try dsimp only at h ⊢); omega)
        refine lv_if_eq (tgt := 46) hx hb dX8_makesAll_36 (by decide) (fun c_10 => ?_) (fun c_10 => ?_)
        · have hf := (if_pos c_10).symm.trans hf
          refine lv_iconst (v := 1) hx hb dX8_makesAll_46 (by decide) ?_
          obtain ⟨M_11, eM_11, hf⟩ := xl_some hf
          refine x_put S hK h_md hz_md hL 0 (by decide) rfl rfl rfl in8 tyX8 tyX8_ok nmX8 15 (by decide) (xm 3 rfl) rfl (vp_nar_int _) rfl (Nat.le_of_ble_eq_true rfl) rfl eM_11 dX8_makesAll_47 (fun H1 locs hL h_md hfr => ?_)
          have hF := hF.step hfr (fun q h => by (try dsimp only at h ⊢); omega)
          refine lv_aload_n hx hb dX8_makesAll_50 rfl (lv_at hl 1 rfl) ?_
          refine x_get S hK h_md 0 (by decide) rfl rfl rfl in8 15 (by decide) (xm 3 rfl) (x := .int (M_11 0 15)) rfl dX8_makesAll_51 ?_
          refine lv_if_eq (tgt := 59) hx hb dX8_makesAll_54 (by decide) (fun c_12 => ?_) (fun c_12 => ?_)
          · have hf := (if_pos c_12).symm.trans hf
            refine lv_aload_n hx hb dX8_makesAll_59 rfl (lv_at hl 1 rfl) ?_
            refine lv_aload_n hx hb dX8_makesAll_60 rfl (lv_at hl 1 rfl) ?_
            refine x_get S hK h_md 0 (by decide) rfl rfl rfl in8 8 (by decide) (xm 5 rfl) (x := .int (M_11 0 8)) rfl dX8_makesAll_61 ?_
            refine lv_aload_n hx hb dX8_makesAll_64 rfl (lv_at hl 1 rfl) ?_
            refine x_get S hK h_md 0 (by decide) rfl rfl rfl in8 12 (by decide) (xm 6 rfl) (x := .int (M_11 0 12)) rfl dX8_makesAll_65 ?_
            refine lv_aload_n hx hb dX8_makesAll_68 rfl (lv_at hl 1 rfl) ?_
            refine x_get S hK h_md 0 (by decide) rfl rfl rfl in8 9 (by decide) (xm 7 rfl) (x := .int (M_11 0 9)) rfl dX8_makesAll_69 ?_
            refine lv_aload_n hx hb dX8_makesAll_72 rfl (lv_at hl 1 rfl) ?_
            refine x_get S hK h_md 0 (by decide) rfl rfl rfl in8 10 (by decide) (xm 8 rfl) (x := .int (M_11 0 10)) rfl dX8_makesAll_73 ?_
            refine lv_aload_n hx hb dX8_makesAll_76 rfl (lv_at hl 1 rfl) ?_
            refine x_get S hK h_md 0 (by decide) rfl rfl rfl in8 11 (by decide) (xm 9 rfl) (x := .int (M_11 0 11)) rfl dX8_makesAll_77 ?_
            refine lv_aload_n hx hb dX8_makesAll_80 rfl (lv_at hl 1 rfl) ?_
            refine x_get S hK h_md 0 (by decide) rfl rfl rfl in8 13 (by decide) (xm 10 rfl) (x := .int (M_11 0 13)) rfl dX8_makesAll_81 ?_
            refine lv_aload_n hx hb dX8_makesAll_84 rfl (lv_at hl 1 rfl) ?_
            refine x_get S hK h_md 0 (by decide) rfl rfl rfl in8 14 (by decide) (xm 11 rfl) (x := .int (M_11 0 14)) rfl dX8_makesAll_85 ?_
            obtain ⟨M_13, e_14, hf⟩ := xb_some hf
            refine x_callVv (As := [.int (M_11 0 8), .int (M_11 0 12), .int (M_11 0 9), .int (M_11 0 10), .int (M_11 0 11), .int (M_11 0 13), .int (M_11 0 14)]) (rest := []) S hK (c_X8_makes l G z o M_11 (M_11 0 8) (M_11 0 12) (M_11 0 9) (M_11 0 10) (M_11 0 11) (M_11 0 13) (M_11 0 14) M_13 (by omega) e_14) gX8_makesAll_X8_makes rfl 7 (by decide +kernel) rfl ⟨Nat.le_of_ble_eq_true rfl, Nat.le_of_ble_eq_true rfl⟩ h_md 0 (by decide) rfl rfl rfl h_md hl.1 rfl (Nat.le_of_ble_eq_true rfl) dX8_makesAll_88 hL ⟨Nat.zero_le _, Nat.zero_le _⟩ (fun H1 locs hL hpost => ?_)
            obtain ⟨n_md, hfr⟩ := hpost
            have h_md := n_md
            have hF := hF.step hfr (fun q h => by (try dsimp only at h ⊢); omega)
            refine lv_aload_n hx hb dX8_makesAll_91 rfl (lv_at hl 1 rfl) ?_
            refine lv_dup hx hb dX8_makesAll_92 rfl ?_
            refine x_get S hK h_md 0 (by decide) rfl rfl rfl in8 17 (by decide) (xm 2 rfl) (x := .int (M_13 0 17)) rfl dX8_makesAll_93 ?_
            refine lv_iconst (v := 1) hx hb dX8_makesAll_96 (by decide) ?_
            refine lv_iadd hx hb dX8_makesAll_97 ?_
            obtain ⟨M_15, eM_15, hf⟩ := xl_some hf
            refine x_put S hK h_md hz_md hL 0 (by decide) rfl rfl rfl in8 tyX8 tyX8_ok nmX8 17 (by decide) (xm 2 rfl) rfl (vp_nar_int _) rfl (Nat.le_of_ble_eq_true rfl) rfl eM_15 dX8_makesAll_98 (fun H1 locs hL h_md hfr => ?_)
            have hF := hF.step hfr (fun q h => by (try dsimp only at h ⊢); omega)
            refine lv_goto (tgt := 15) hx hb dX8_makesAll_101 (by decide) ?_
            exact ih_15 M_15 _ _ _ hL h_md hF (lv_sub hl [1] rfl) hf
          · have hf := (if_neg c_12).symm.trans hf
            refine lv_iload_n hx hb dX8_makesAll_57 rfl (lv_at hl 0 rfl) ?_
            obtain ⟨q0, qq0⟩ := Prod.mk.inj (Option.some.inj hf)
            have q1 := qq0
            subst r0
            subst M'
            subst hQ
            refine x_iret (post := (fun H H1 => PX G o 5 (mdE G o) M_11 H1 ∧ XF (fun q => (o ≤ q ∧ q < o + 5)) H H1)) S hr hlocks rfl ?_ hL dX8_makesAll_58
            exact ⟨h_md, hF⟩
        · have hf := (if_neg c_10).symm.trans hf
          refine lv_aload_n hx hb dX8_makesAll_39 rfl (lv_at hl 1 rfl) ?_
          obtain ⟨r_16, M_17, e_18, hf⟩ := xb2_some hf
          refine x_callVi (As := []) (rest := [.ref o]) S hK (c_X8_reasonOf l G z o M_8 r_16 M_17 (by omega) e_18) gX8_makesAll_X8_reasonOf rfl 0 (by decide +kernel) rfl ⟨Nat.le_of_ble_eq_true rfl, Nat.le_of_ble_eq_true rfl⟩ h_md 0 (by decide) rfl rfl rfl h_md hl.1 rfl (Nat.le_of_ble_eq_true rfl) dX8_makesAll_40 hL ⟨Nat.zero_le _, Nat.zero_le _⟩ (fun H1 locs hL hpost => ?_)
          obtain ⟨n_md, hfr⟩ := hpost
          have h_md := n_md
          have hF := hF.step hfr (fun q h => by (try dsimp only at h ⊢); omega)
          refine lv_goto (tgt := 47) hx hb dX8_makesAll_43 (by decide) ?_
          obtain ⟨M_19, eM_19, hf⟩ := xl_some hf
          refine x_put S hK h_md hz_md hL 0 (by decide) rfl rfl rfl in8 tyX8 tyX8_ok nmX8 15 (by decide) (xm 3 rfl) rfl (vp_nar_int _) rfl (Nat.le_of_ble_eq_true rfl) rfl eM_19 dX8_makesAll_47 (fun H1 locs hL h_md hfr => ?_)
          have hF := hF.step hfr (fun q h => by (try dsimp only at h ⊢); omega)
          refine lv_aload_n hx hb dX8_makesAll_50 rfl (lv_at hl 1 rfl) ?_
          refine x_get S hK h_md 0 (by decide) rfl rfl rfl in8 15 (by decide) (xm 3 rfl) (x := .int (M_19 0 15)) rfl dX8_makesAll_51 ?_
          refine lv_if_eq (tgt := 59) hx hb dX8_makesAll_54 (by decide) (fun c_20 => ?_) (fun c_20 => ?_)
          · have hf := (if_pos c_20).symm.trans hf
            refine lv_aload_n hx hb dX8_makesAll_59 rfl (lv_at hl 1 rfl) ?_
            refine lv_aload_n hx hb dX8_makesAll_60 rfl (lv_at hl 1 rfl) ?_
            refine x_get S hK h_md 0 (by decide) rfl rfl rfl in8 8 (by decide) (xm 5 rfl) (x := .int (M_19 0 8)) rfl dX8_makesAll_61 ?_
            refine lv_aload_n hx hb dX8_makesAll_64 rfl (lv_at hl 1 rfl) ?_
            refine x_get S hK h_md 0 (by decide) rfl rfl rfl in8 12 (by decide) (xm 6 rfl) (x := .int (M_19 0 12)) rfl dX8_makesAll_65 ?_
            refine lv_aload_n hx hb dX8_makesAll_68 rfl (lv_at hl 1 rfl) ?_
            refine x_get S hK h_md 0 (by decide) rfl rfl rfl in8 9 (by decide) (xm 7 rfl) (x := .int (M_19 0 9)) rfl dX8_makesAll_69 ?_
            refine lv_aload_n hx hb dX8_makesAll_72 rfl (lv_at hl 1 rfl) ?_
            refine x_get S hK h_md 0 (by decide) rfl rfl rfl in8 10 (by decide) (xm 8 rfl) (x := .int (M_19 0 10)) rfl dX8_makesAll_73 ?_
            refine lv_aload_n hx hb dX8_makesAll_76 rfl (lv_at hl 1 rfl) ?_
            refine x_get S hK h_md 0 (by decide) rfl rfl rfl in8 11 (by decide) (xm 9 rfl) (x := .int (M_19 0 11)) rfl dX8_makesAll_77 ?_
            refine lv_aload_n hx hb dX8_makesAll_80 rfl (lv_at hl 1 rfl) ?_
            refine x_get S hK h_md 0 (by decide) rfl rfl rfl in8 13 (by decide) (xm 10 rfl) (x := .int (M_19 0 13)) rfl dX8_makesAll_81 ?_
            refine lv_aload_n hx hb dX8_makesAll_84 rfl (lv_at hl 1 rfl) ?_
            refine x_get S hK h_md 0 (by decide) rfl rfl rfl in8 14 (by decide) (xm 11 rfl) (x := .int (M_19 0 14)) rfl dX8_makesAll_85 ?_
            obtain ⟨M_21, e_22, hf⟩ := xb_some hf
            refine x_callVv (As := [.int (M_19 0 8), .int (M_19 0 12), .int (M_19 0 9), .int (M_19 0 10), .int (M_19 0 11), .int (M_19 0 13), .int (M_19 0 14)]) (rest := []) S hK (c_X8_makes l G z o M_19 (M_19 0 8) (M_19 0 12) (M_19 0 9) (M_19 0 10) (M_19 0 11) (M_19 0 13) (M_19 0 14) M_21 (by omega) e_22) gX8_makesAll_X8_makes rfl 7 (by decide +kernel) rfl ⟨Nat.le_of_ble_eq_true rfl, Nat.le_of_ble_eq_true rfl⟩ h_md 0 (by decide) rfl rfl rfl h_md hl.1 rfl (Nat.le_of_ble_eq_true rfl) dX8_makesAll_88 hL ⟨Nat.zero_le _, Nat.zero_le _⟩ (fun H1 locs hL hpost => ?_)
            obtain ⟨n_md, hfr⟩ := hpost
            have h_md := n_md
            have hF := hF.step hfr (fun q h => by (try dsimp only at h ⊢); omega)
            refine lv_aload_n hx hb dX8_makesAll_91 rfl (lv_at hl 1 rfl) ?_
            refine lv_dup hx hb dX8_makesAll_92 rfl ?_
            refine x_get S hK h_md 0 (by decide) rfl rfl rfl in8 17 (by decide) (xm 2 rfl) (x := .int (M_21 0 17)) rfl dX8_makesAll_93 ?_
            refine lv_iconst (v := 1) hx hb dX8_makesAll_96 (by decide) ?_
            refine lv_iadd hx hb dX8_makesAll_97 ?_
            obtain ⟨M_23, eM_23, hf⟩ := xl_some hf
            refine x_put S hK h_md hz_md hL 0 (by decide) rfl rfl rfl in8 tyX8 tyX8_ok nmX8 17 (by decide) (xm 2 rfl) rfl (vp_nar_int _) rfl (Nat.le_of_ble_eq_true rfl) rfl eM_23 dX8_makesAll_98 (fun H1 locs hL h_md hfr => ?_)
            have hF := hF.step hfr (fun q h => by (try dsimp only at h ⊢); omega)
            refine lv_goto (tgt := 15) hx hb dX8_makesAll_101 (by decide) ?_
            exact ih_15 M_23 _ _ _ hL h_md hF (lv_sub hl [1] rfl) hf
          · have hf := (if_neg c_20).symm.trans hf
            refine lv_iload_n hx hb dX8_makesAll_57 rfl (lv_at hl 0 rfl) ?_
            obtain ⟨q0, qq0⟩ := Prod.mk.inj (Option.some.inj hf)
            have q1 := qq0
            subst r0
            subst M'
            subst hQ
            refine x_iret (post := (fun H H1 => PX G o 5 (mdE G o) M_19 H1 ∧ XF (fun q => (o ≤ q ∧ q < o + 5)) H H1)) S hr hlocks rfl ?_ hL dX8_makesAll_58
            exact ⟨h_md, hF⟩
  refine lp_15 _ (fun M_24 H locs ls hL h_md hF hl hf => ?_) 100000 M_3 _ _ _ hL h_md hF (lv_sub hl [0] rfl) hf
  refine lv_iconst (v := (-1)) hx hb dX8_makesAll_104 (by decide) ?_
  obtain ⟨q0, qq0⟩ := Prod.mk.inj (Option.some.inj hf)
  have q1 := qq0
  subst r0
  subst M'
  subst hQ
  refine x_iret (post := (fun H H1 => PX G o 5 (mdE G o) M_24 H1 ∧ XF (fun q => (o ≤ q ∧ q < o + 5)) H H1)) S hr hlocks rfl ?_ hL dX8_makesAll_105
  exact ⟨h_md, hF⟩
