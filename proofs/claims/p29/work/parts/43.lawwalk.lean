/-! ===== the law's methods, walked (written by program) ===== -/
set_option maxRecDepth 100000 in
set_option maxHeartbeats 4000000 in
theorem c_L_up (l : Launch) (G : xG) (z : Nat) (p1 : Int32) (p2 : Int32) (r0 : Int32)  (hf : f_L_up p1 p2 = some r0) : xM l yL_up wsL_up 0 0 G z [.int p1, .int p2] (fun H => H = H) (some (.int r0)) (fun H H1 => H1 = H) := by
  refine xM.of (cc := cL_up) (maxL := 2) (ret := (some .int)) (by decide +kernel) rfl (Nat.le_of_ble_eq_true rfl) ?_
  intro p e s m args below meth c ls Q hQ S hr hlocks hK hP hl
  obtain ⟨hx, hb, hml, hown, hts⟩ := id S
  have hL : ∀ q ∈ ([] : List Loc), z ≤ q.base := fun q h => absurd h List.not_mem_nil
  have hl : lv_has ls 2 [(0, .int p1), (1, .int p2)] := hl
  unfold f_L_up at hf
  refine lv_iload_n hx hb dL_up_0 rfl (lv_at hl 0 rfl) ?_
  refine lv_ldc (v := 2147483647) hx hb hown (hts _ (xm 1 rfl)) dL_up_1 ?_
  refine lv_iand hx hb dL_up_3 ?_
  refine lv_iload_n hx hb dL_up_4 rfl (lv_at hl 1 rfl) ?_
  obtain ⟨g_1, hf⟩ := xg_some hf
  refine lv_irem hx hb dL_up_5 g_1 ?_
  have q0 := Option.some.inj hf
  subst r0
  subst hQ
  refine x_iret (post := (fun H H1 => H1 = H)) S hr hlocks rfl ?_ hL dL_up_6
  exact rfl
set_option maxRecDepth 100000 in
set_option maxHeartbeats 4000000 in
theorem c_L_isStep (l : Launch) (G : xG) (z : Nat) (a : Nat) (o : Nat) (M : xV) (N : xV) (p3 : Int32) (p4 : Int32) (r0 : Int32) (M' : xV) (N' : xV) (hz_mo : z ≤ a) (hz_mp : z ≤ o) (dj_mo_mp : a + 230 ≤ o ∨ o + 230 ≤ a) (hf : f_L_isStep M N p3 p4 = some (r0, M', N')) : xMc l yL_isStep wsL_isStep 6 142 0 0 (KC2 G z) z [.ref a, .ref o, .int p3, .int p4] (fun H => WH G a M H ∧ WH G o N H) (some (.int r0)) (fun H H1 => WH G a M' H1 ∧ WH G o N' H1 ∧ XF (fun q => (a ≤ q ∧ q < a + 230) ∨ (o ≤ q ∧ q < o + 230)) H H1) := by
  refine xMc.of (cc := cL_isStep) (maxL := 11) (ret := (some .boolean)) (by decide +kernel) rfl (Nat.le_of_ble_eq_true rfl) ?_
  intro p e s m args below meth c ls Q hQ S hr hlocks hname0 hKC hP hl
  have hK := hKC.1
  obtain ⟨hx, hb, hml, hown, hts⟩ := id S
  obtain ⟨h_mo, h_mp⟩ := hP
  have hL : ∀ q ∈ ([] : List Loc), z ≤ q.base := fun q h => absurd h List.not_mem_nil
  have hF : XF (fun q => (a ≤ q ∧ q < a + 230) ∨ (o ≤ q ∧ q < o + 230)) s.heap s.heap := XF.rf
  have hl : lv_has ls 11 [(0, .ref a), (1, .ref o), (2, .int p3), (3, .int p4)] := hl
  have jp_568 : ∀ (x_1 : Int32) (M_2 : xV) (N_3 : xV) (H : Heap) (locs : List Loc) (ls : Array Slot), (∀ q ∈ locs, z ≤ q.base) → WH G a M_2 H → WH G o N_3 H → XF (fun q => (a ≤ q ∧ q < a + 230) ∨ (o ≤ q ∧ q < o + 230)) s.heap H → lv_has ls 11 [(0, .ref a), (1, .ref o), (2, .int p3), (3, .int p4), (8, .int x_1)] → J_L_isStep_568 p3 p4 x_1 M_2 N_3 = some (r0, M', N') → W p l e { frames := 6, cells := 0, slots := 0, locals := 142 } s m args below meth c H locs 0 0 Q (F0 m 568 ls []) := by
    intro x_1 M_2 N_3 H locs ls hL h_mo h_mp hF hl hf
    unfold J_L_isStep_568 at hf
    refine lv_aload_n hx hb dL_isStep_568 rfl (lv_at hl 0 rfl) ?_
    refine lv_iconst (v := 0) hx hb dL_isStep_569 (by decide) ?_
    obtain ⟨r_4, e_5, hf⟩ := xb_some hf
    refine x_callW (As := [.int 0]) (rest := []) S hKC (fun q hq => hF.2 q (fun h => by (try dsimp only at h); omega)) h_mo (h_X7_count l G z a M_2 0 r_4 e_5) gL_isStep_X7_count rfl 1 (by decide +kernel) rfl ⟨Nat.le_of_ble_eq_true rfl, Nat.le_of_ble_eq_true rfl⟩ h_mo hl.1 rfl (Nat.le_of_ble_eq_true rfl) dL_isStep_570 hL ⟨Nat.zero_le _, Nat.zero_le _⟩ (fun H1 locs hL hpost => ?_)
    subst hpost
    refine lv_iload_n hx hb dL_isStep_573 rfl (lv_at hl 3 rfl) ?_
    refine lv_bipush (v := 14) hx hb dL_isStep_574 (by decide) ?_
    refine lv_ishr hx hb dL_isStep_576 ?_
    refine lv_bipush (v := 10) hx hb dL_isStep_577 (by decide) ?_
    obtain ⟨r_6, e_7, hf⟩ := xb_some hf
    refine x_callTi (As := [.int (p4 >>> ((14 : Int32) &&& 31)), .int 10]) (rest := [.int r_4]) S hK (c_L_up l G z (p4 >>> ((14 : Int32) &&& 31)) 10 r_6 e_7) gL_isStep_L_up rfl 2 (by decide +kernel) rfl ⟨Nat.le_of_ble_eq_true rfl, Nat.le_of_ble_eq_true rfl⟩ rfl hl.1 rfl (Nat.le_of_ble_eq_true rfl) dL_isStep_579 hL ⟨Nat.zero_le _, Nat.zero_le _⟩ (fun H1 locs hL hpost => ?_)
    subst hpost
    refine lv_iadd hx hb dL_isStep_582 ?_
    obtain ⟨x_8, ex_8, hf⟩ := xl_some hf
    refine x_top ex_8 ?_
    refine lv_istore (lv' := [(9, .int x_8), (0, .ref a), (1, .ref o), (2, .int p3), (3, .int p4), (8, .int x_1)]) hx hb dL_isStep_583 hl (by decide) rfl (fun ls hl => ?_)
    refine lv_iconst (v := 1) hx hb dL_isStep_585 (by decide) ?_
    refine lv_iload_n hx hb dL_isStep_586 rfl (lv_at hl 4 rfl) ?_
    refine lv_bipush (v := 18) hx hb dL_isStep_587 (by decide) ?_
    refine lv_ishr hx hb dL_isStep_589 ?_
    refine lv_bipush (v := 8) hx hb dL_isStep_590 (by decide) ?_
    obtain ⟨r_9, e_10, hf⟩ := xb_some hf
    refine x_callTi (As := [.int (p4 >>> ((18 : Int32) &&& 31)), .int 8]) (rest := [.int 1]) S hK (c_L_up l G z (p4 >>> ((18 : Int32) &&& 31)) 8 r_9 e_10) gL_isStep_L_up rfl 2 (by decide +kernel) rfl ⟨Nat.le_of_ble_eq_true rfl, Nat.le_of_ble_eq_true rfl⟩ rfl hl.1 rfl (Nat.le_of_ble_eq_true rfl) dL_isStep_592 hL ⟨Nat.zero_le _, Nat.zero_le _⟩ (fun H1 locs hL hpost => ?_)
    subst hpost
    refine lv_iadd hx hb dL_isStep_595 ?_
    obtain ⟨x_11, ex_11, hf⟩ := xl_some hf
    refine x_top ex_11 ?_
    refine lv_istore (lv' := [(10, .int x_11), (9, .int x_8), (0, .ref a), (1, .ref o), (2, .int p3), (3, .int p4), (8, .int x_1)]) hx hb dL_isStep_596 hl (by decide) rfl (fun ls hl => ?_)
    refine lv_aload_n hx hb dL_isStep_598 rfl (lv_at hl 2 rfl) ?_
    refine lv_iload_n hx hb dL_isStep_599 rfl (lv_at hl 5 rfl) ?_
    refine lv_iconst (v := 4) hx hb dL_isStep_600 (by decide) ?_
    refine lv_ishr hx hb dL_isStep_601 ?_
    refine lv_iconst (v := 3) hx hb dL_isStep_602 (by decide) ?_
    obtain ⟨r_12, e_13, hf⟩ := xb_some hf
    refine x_callTi (As := [.int (p4 >>> ((4 : Int32) &&& 31)), .int 3]) (rest := [.ref a]) S hK (c_L_up l G z (p4 >>> ((4 : Int32) &&& 31)) 3 r_12 e_13) gL_isStep_L_up rfl 2 (by decide +kernel) rfl ⟨Nat.le_of_ble_eq_true rfl, Nat.le_of_ble_eq_true rfl⟩ rfl hl.1 rfl (Nat.le_of_ble_eq_true rfl) dL_isStep_603 hL ⟨Nat.zero_le _, Nat.zero_le _⟩ (fun H1 locs hL hpost => ?_)
    subst hpost
    refine lv_iconst (v := 1) hx hb dL_isStep_606 (by decide) ?_
    refine lv_iload_n hx hb dL_isStep_607 rfl (lv_at hl 5 rfl) ?_
    refine lv_iconst (v := 5) hx hb dL_isStep_608 (by decide) ?_
    refine lv_ishr hx hb dL_isStep_609 ?_
    refine lv_bipush (v := 7) hx hb dL_isStep_610 (by decide) ?_
    obtain ⟨r_14, e_15, hf⟩ := xb_some hf
    refine x_callTi (As := [.int (p4 >>> ((5 : Int32) &&& 31)), .int 7]) (rest := [.int 1, .int r_12, .ref a]) S hK (c_L_up l G z (p4 >>> ((5 : Int32) &&& 31)) 7 r_14 e_15) gL_isStep_L_up rfl 2 (by decide +kernel) rfl ⟨Nat.le_of_ble_eq_true rfl, Nat.le_of_ble_eq_true rfl⟩ rfl hl.1 rfl (Nat.le_of_ble_eq_true rfl) dL_isStep_612 hL ⟨Nat.zero_le _, Nat.zero_le _⟩ (fun H1 locs hL hpost => ?_)
    subst hpost
    refine lv_iadd hx hb dL_isStep_615 ?_
    refine lv_iload hx hb dL_isStep_616 (lv_at hl 1 rfl) ?_
    refine lv_iload hx hb dL_isStep_618 (lv_at hl 6 rfl) ?_
    refine lv_iload hx hb dL_isStep_620 (lv_at hl 0 rfl) ?_
    refine lv_iconst (v := 1) hx hb dL_isStep_622 (by decide) ?_
    refine lv_iload_n hx hb dL_isStep_623 rfl (lv_at hl 5 rfl) ?_
    refine lv_bipush (v := 21) hx hb dL_isStep_624 (by decide) ?_
    refine lv_ishr hx hb dL_isStep_626 ?_
    refine lv_bipush (v := 9) hx hb dL_isStep_627 (by decide) ?_
    obtain ⟨r_16, e_17, hf⟩ := xb_some hf
    refine x_callTi (As := [.int (p4 >>> ((21 : Int32) &&& 31)), .int 9]) (rest := [.int 1, .int x_11, .int x_1, .int x_8, .int (1 + r_14), .int r_12, .ref a]) S hK (c_L_up l G z (p4 >>> ((21 : Int32) &&& 31)) 9 r_16 e_17) gL_isStep_L_up rfl 2 (by decide +kernel) rfl ⟨Nat.le_of_ble_eq_true rfl, Nat.le_of_ble_eq_true rfl⟩ rfl hl.1 rfl (Nat.le_of_ble_eq_true rfl) dL_isStep_629 hL ⟨Nat.zero_le _, Nat.zero_le _⟩ (fun H1 locs hL hpost => ?_)
    subst hpost
    refine lv_iadd hx hb dL_isStep_632 ?_
    obtain ⟨r_18, M_19, e_20, hf⟩ := xb2_some hf
    refine x_callW (As := [.int r_12, .int (1 + r_14), .int x_8, .int x_1, .int x_11, .int (1 + r_16)]) (rest := []) S hKC (fun q hq => hF.2 q (fun h => by (try dsimp only at h); omega)) h_mo (h_X7_hire l G z a M_2 r_12 (1 + r_14) x_8 x_1 x_11 (1 + r_16) r_18 M_19 (by omega) e_20) gL_isStep_X7_hire rfl 6 (by decide +kernel) rfl ⟨Nat.le_of_ble_eq_true rfl, Nat.le_of_ble_eq_true rfl⟩ h_mo hl.1 rfl (Nat.le_of_ble_eq_true rfl) dL_isStep_633 hL ⟨Nat.zero_le _, Nat.zero_le _⟩ (fun H1 locs hL hpost => ?_)
    obtain ⟨n_mo, hfr⟩ := hpost
    have h_mo := n_mo
    have h_mp := h_mp.kept hfr (fun q h1 h2 h3 => by (try dsimp only at h3); omega)
    have hF := hF.step hfr (fun q h => by (try dsimp only at h ⊢); omega)
    refine lv_aload_n hx hb dL_isStep_636 rfl (lv_at hl 3 rfl) ?_
    refine lv_iload_n hx hb dL_isStep_637 rfl (lv_at hl 5 rfl) ?_
    refine lv_iconst (v := 4) hx hb dL_isStep_638 (by decide) ?_
    refine lv_ishr hx hb dL_isStep_639 ?_
    refine lv_iconst (v := 3) hx hb dL_isStep_640 (by decide) ?_
    obtain ⟨r_21, e_22, hf⟩ := xb_some hf
    refine x_callTi (As := [.int (p4 >>> ((4 : Int32) &&& 31)), .int 3]) (rest := [.ref o, .int r_18]) S hK (c_L_up l G z (p4 >>> ((4 : Int32) &&& 31)) 3 r_21 e_22) gL_isStep_L_up rfl 2 (by decide +kernel) rfl ⟨Nat.le_of_ble_eq_true rfl, Nat.le_of_ble_eq_true rfl⟩ rfl hl.1 rfl (Nat.le_of_ble_eq_true rfl) dL_isStep_641 hL ⟨Nat.zero_le _, Nat.zero_le _⟩ (fun H1 locs hL hpost => ?_)
    subst hpost
    refine lv_iconst (v := 1) hx hb dL_isStep_644 (by decide) ?_
    refine lv_iload_n hx hb dL_isStep_645 rfl (lv_at hl 5 rfl) ?_
    refine lv_iconst (v := 5) hx hb dL_isStep_646 (by decide) ?_
    refine lv_ishr hx hb dL_isStep_647 ?_
    refine lv_bipush (v := 7) hx hb dL_isStep_648 (by decide) ?_
    obtain ⟨r_23, e_24, hf⟩ := xb_some hf
    refine x_callTi (As := [.int (p4 >>> ((5 : Int32) &&& 31)), .int 7]) (rest := [.int 1, .int r_21, .ref o, .int r_18]) S hK (c_L_up l G z (p4 >>> ((5 : Int32) &&& 31)) 7 r_23 e_24) gL_isStep_L_up rfl 2 (by decide +kernel) rfl ⟨Nat.le_of_ble_eq_true rfl, Nat.le_of_ble_eq_true rfl⟩ rfl hl.1 rfl (Nat.le_of_ble_eq_true rfl) dL_isStep_650 hL ⟨Nat.zero_le _, Nat.zero_le _⟩ (fun H1 locs hL hpost => ?_)
    subst hpost
    refine lv_iadd hx hb dL_isStep_653 ?_
    refine lv_iload hx hb dL_isStep_654 (lv_at hl 1 rfl) ?_
    refine lv_iload_n hx hb dL_isStep_656 rfl (lv_at hl 4 rfl) ?_
    refine lv_iadd hx hb dL_isStep_657 ?_
    refine lv_iload hx hb dL_isStep_658 (lv_at hl 6 rfl) ?_
    refine lv_iload hx hb dL_isStep_660 (lv_at hl 0 rfl) ?_
    refine lv_iconst (v := 1) hx hb dL_isStep_662 (by decide) ?_
    refine lv_iload_n hx hb dL_isStep_663 rfl (lv_at hl 5 rfl) ?_
    refine lv_bipush (v := 21) hx hb dL_isStep_664 (by decide) ?_
    refine lv_ishr hx hb dL_isStep_666 ?_
    refine lv_bipush (v := 9) hx hb dL_isStep_667 (by decide) ?_
    obtain ⟨r_25, e_26, hf⟩ := xb_some hf
    refine x_callTi (As := [.int (p4 >>> ((21 : Int32) &&& 31)), .int 9]) (rest := [.int 1, .int x_11, .int x_1, .int (x_8 + p3), .int (1 + r_23), .int r_21, .ref o, .int r_18]) S hK (c_L_up l G z (p4 >>> ((21 : Int32) &&& 31)) 9 r_25 e_26) gL_isStep_L_up rfl 2 (by decide +kernel) rfl ⟨Nat.le_of_ble_eq_true rfl, Nat.le_of_ble_eq_true rfl⟩ rfl hl.1 rfl (Nat.le_of_ble_eq_true rfl) dL_isStep_669 hL ⟨Nat.zero_le _, Nat.zero_le _⟩ (fun H1 locs hL hpost => ?_)
    subst hpost
    refine lv_iadd hx hb dL_isStep_672 ?_
    obtain ⟨r_27, N_28, e_29, hf⟩ := xb2_some hf
    refine x_callW (As := [.int r_21, .int (1 + r_23), .int (x_8 + p3), .int x_1, .int x_11, .int (1 + r_25)]) (rest := [.int r_18]) S hKC (fun q hq => hF.2 q (fun h => by (try dsimp only at h); omega)) h_mp (h_X7_hire l G z o N_3 r_21 (1 + r_23) (x_8 + p3) x_1 x_11 (1 + r_25) r_27 N_28 (by omega) e_29) gL_isStep_X7_hire rfl 6 (by decide +kernel) rfl ⟨Nat.le_of_ble_eq_true rfl, Nat.le_of_ble_eq_true rfl⟩ h_mp hl.1 rfl (Nat.le_of_ble_eq_true rfl) dL_isStep_673 hL ⟨Nat.zero_le _, Nat.zero_le _⟩ (fun H1 locs hL hpost => ?_)
    obtain ⟨n_mo, hfr⟩ := hpost
    have h_mp := n_mo
    have h_mo := h_mo.kept hfr (fun q h1 h2 h3 => by (try dsimp only at h3); omega)
    have hF := hF.step hfr (fun q h => by (try dsimp only at h ⊢); omega)
    refine lv_icmp_ne (tgt := 694) hx hb dL_isStep_676 (by decide) (fun c_30 => ?_) (fun c_30 => ?_)
    · have hf := (if_neg c_30).symm.trans hf
      refine lv_iconst (v := 0) hx hb dL_isStep_694 (by decide) ?_
      obtain ⟨q0, qq0⟩ := Prod.mk.inj (Option.some.inj hf)
      obtain ⟨q1, qq1⟩ := Prod.mk.inj (qq0)
      have q2 := qq1
      subst r0
      subst M'
      subst N'
      subst hQ
      refine x_zret (post := (fun H H1 => WH G a M_19 H1 ∧ WH G o N_28 H1 ∧ XF (fun q => (a ≤ q ∧ q < a + 230) ∨ (o ≤ q ∧ q < o + 230)) H H1)) S hr hlocks (by decide) rfl ?_ hL dL_isStep_695
      exact ⟨h_mo, h_mp, hF⟩
    · have hf := (if_pos c_30).symm.trans hf
      refine lv_aload_n hx hb dL_isStep_679 rfl (lv_at hl 2 rfl) ?_
      obtain ⟨r_31, e_32, hf⟩ := xb_some hf
      refine x_callW (As := []) (rest := []) S hKC (fun q hq => hF.2 q (fun h => by (try dsimp only at h); omega)) h_mo (h_X7_clash l G z a M_19 r_31 e_32) gL_isStep_X7_clash rfl 0 (by decide +kernel) rfl ⟨Nat.le_of_ble_eq_true rfl, Nat.le_of_ble_eq_true rfl⟩ h_mo hl.1 rfl (Nat.le_of_ble_eq_true rfl) dL_isStep_680 hL ⟨Nat.zero_le _, Nat.zero_le _⟩ (fun H1 locs hL hpost => ?_)
      subst hpost
      refine lv_aload_n hx hb dL_isStep_683 rfl (lv_at hl 3 rfl) ?_
      obtain ⟨r_33, e_34, hf⟩ := xb_some hf
      refine x_callW (As := []) (rest := [.int r_31]) S hKC (fun q hq => hF.2 q (fun h => by (try dsimp only at h); omega)) h_mp (h_X7_clash l G z o N_28 r_33 e_34) gL_isStep_X7_clash rfl 0 (by decide +kernel) rfl ⟨Nat.le_of_ble_eq_true rfl, Nat.le_of_ble_eq_true rfl⟩ h_mp hl.1 rfl (Nat.le_of_ble_eq_true rfl) dL_isStep_684 hL ⟨Nat.zero_le _, Nat.zero_le _⟩ (fun H1 locs hL hpost => ?_)
      subst hpost
      refine lv_icmp_ne (tgt := 694) hx hb dL_isStep_687 (by decide) (fun c_35 => ?_) (fun c_35 => ?_)
      · have hf := (if_neg c_35).symm.trans hf
        refine lv_iconst (v := 0) hx hb dL_isStep_694 (by decide) ?_
        obtain ⟨q0, qq0⟩ := Prod.mk.inj (Option.some.inj hf)
        obtain ⟨q1, qq1⟩ := Prod.mk.inj (qq0)
        have q2 := qq1
        subst r0
        subst M'
        subst N'
        subst hQ
        refine x_zret (post := (fun H H1 => WH G a M_19 H1 ∧ WH G o N_28 H1 ∧ XF (fun q => (a ≤ q ∧ q < a + 230) ∨ (o ≤ q ∧ q < o + 230)) H H1)) S hr hlocks (by decide) rfl ?_ hL dL_isStep_695
        exact ⟨h_mo, h_mp, hF⟩
      · have hf := (if_pos c_35).symm.trans hf
        refine lv_iconst (v := 1) hx hb dL_isStep_690 (by decide) ?_
        refine lv_goto (tgt := 695) hx hb dL_isStep_691 (by decide) ?_
        obtain ⟨q0, qq0⟩ := Prod.mk.inj (Option.some.inj hf)
        obtain ⟨q1, qq1⟩ := Prod.mk.inj (qq0)
        have q2 := qq1
        subst r0
        subst M'
        subst N'
        subst hQ
        refine x_zret (post := (fun H H1 => WH G a M_19 H1 ∧ WH G o N_28 H1 ∧ XF (fun q => (a ≤ q ∧ q < a + 230) ∨ (o ≤ q ∧ q < o + 230)) H H1)) S hr hlocks (by decide) rfl ?_ hL dL_isStep_695
        exact ⟨h_mo, h_mp, hF⟩
  have jp_211 : ∀ (x_36 : Int32) (x_37 : Int32) (M_38 : xV) (N_39 : xV) (H : Heap) (locs : List Loc) (ls : Array Slot), (∀ q ∈ locs, z ≤ q.base) → WH G a M_38 H → WH G o N_39 H → XF (fun q => (a ≤ q ∧ q < a + 230) ∨ (o ≤ q ∧ q < o + 230)) s.heap H → lv_has ls 11 [(0, .ref a), (1, .ref o), (7, .int x_36), (8, .int x_37)] → J_L_isStep_211 x_36 x_37 M_38 N_39 = some (r0, M', N') → W p l e { frames := 6, cells := 0, slots := 0, locals := 142 } s m args below meth c H locs 0 0 Q (F0 m 211 ls []) := by
    intro x_36 x_37 M_38 N_39 H locs ls hL h_mo h_mp hF hl hf
    unfold J_L_isStep_211 at hf
    refine lv_aload_n hx hb dL_isStep_211 rfl (lv_at hl 0 rfl) ?_
    refine lv_iload hx hb dL_isStep_212 (lv_at hl 2 rfl) ?_
    refine lv_iload hx hb dL_isStep_214 (lv_at hl 3 rfl) ?_
    obtain ⟨r_40, M_41, e_42, hf⟩ := xb2_some hf
    refine x_callW (As := [.int x_36, .int x_37]) (rest := []) S hKC (fun q hq => hF.2 q (fun h => by (try dsimp only at h); omega)) h_mo (h_X7_set l G z a M_38 x_36 x_37 r_40 M_41 (by omega) e_42) gL_isStep_X7_set rfl 2 (by decide +kernel) rfl ⟨Nat.le_of_ble_eq_true rfl, Nat.le_of_ble_eq_true rfl⟩ h_mo hl.1 rfl (Nat.le_of_ble_eq_true rfl) dL_isStep_216 hL ⟨Nat.zero_le _, Nat.zero_le _⟩ (fun H1 locs hL hpost => ?_)
    obtain ⟨n_mo, hfr⟩ := hpost
    have h_mo := n_mo
    have h_mp := h_mp.kept hfr (fun q h1 h2 h3 => by (try dsimp only at h3); omega)
    have hF := hF.step hfr (fun q h => by (try dsimp only at h ⊢); omega)
    refine lv_aload_n hx hb dL_isStep_219 rfl (lv_at hl 1 rfl) ?_
    refine lv_iload hx hb dL_isStep_220 (lv_at hl 2 rfl) ?_
    refine lv_iload hx hb dL_isStep_222 (lv_at hl 3 rfl) ?_
    obtain ⟨r_43, N_44, e_45, hf⟩ := xb2_some hf
    refine x_callW (As := [.int x_36, .int x_37]) (rest := [.int r_40]) S hKC (fun q hq => hF.2 q (fun h => by (try dsimp only at h); omega)) h_mp (h_X7_set l G z o N_39 x_36 x_37 r_43 N_44 (by omega) e_45) gL_isStep_X7_set rfl 2 (by decide +kernel) rfl ⟨Nat.le_of_ble_eq_true rfl, Nat.le_of_ble_eq_true rfl⟩ h_mp hl.1 rfl (Nat.le_of_ble_eq_true rfl) dL_isStep_224 hL ⟨Nat.zero_le _, Nat.zero_le _⟩ (fun H1 locs hL hpost => ?_)
    obtain ⟨n_mo, hfr⟩ := hpost
    have h_mp := n_mo
    have h_mo := h_mo.kept hfr (fun q h1 h2 h3 => by (try dsimp only at h3); omega)
    have hF := hF.step hfr (fun q h => by (try dsimp only at h ⊢); omega)
    refine lv_icmp_ne (tgt := 234) hx hb dL_isStep_227 (by decide) (fun c_46 => ?_) (fun c_46 => ?_)
    · have hf := (if_neg c_46).symm.trans hf
      refine lv_iconst (v := 0) hx hb dL_isStep_234 (by decide) ?_
      obtain ⟨q0, qq0⟩ := Prod.mk.inj (Option.some.inj hf)
      obtain ⟨q1, qq1⟩ := Prod.mk.inj (qq0)
      have q2 := qq1
      subst r0
      subst M'
      subst N'
      subst hQ
      refine x_zret (post := (fun H H1 => WH G a M_41 H1 ∧ WH G o N_44 H1 ∧ XF (fun q => (a ≤ q ∧ q < a + 230) ∨ (o ≤ q ∧ q < o + 230)) H H1)) S hr hlocks (by decide) rfl ?_ hL dL_isStep_235
      exact ⟨h_mo, h_mp, hF⟩
    · have hf := (if_pos c_46).symm.trans hf
      refine lv_iconst (v := 1) hx hb dL_isStep_230 (by decide) ?_
      refine lv_goto (tgt := 235) hx hb dL_isStep_231 (by decide) ?_
      obtain ⟨q0, qq0⟩ := Prod.mk.inj (Option.some.inj hf)
      obtain ⟨q1, qq1⟩ := Prod.mk.inj (qq0)
      have q2 := qq1
      subst r0
      subst M'
      subst N'
      subst hQ
      refine x_zret (post := (fun H H1 => WH G a M_41 H1 ∧ WH G o N_44 H1 ∧ XF (fun q => (a ≤ q ∧ q < a + 230) ∨ (o ≤ q ∧ q < o + 230)) H H1)) S hr hlocks (by decide) rfl ?_ hL dL_isStep_235
      exact ⟨h_mo, h_mp, hF⟩
  have jp_57 : ∀ (x_47 : Int32) (x_48 : Int32) (M_49 : xV) (N_50 : xV) (H : Heap) (locs : List Loc) (ls : Array Slot), (∀ q ∈ locs, z ≤ q.base) → WH G a M_49 H → WH G o N_50 H → XF (fun q => (a ≤ q ∧ q < a + 230) ∨ (o ≤ q ∧ q < o + 230)) s.heap H → lv_has ls 11 [(0, .ref a), (1, .ref o), (2, .int p3), (3, .int p4), (5, .int x_47), (6, .int x_48)] → J_L_isStep_57 p3 p4 x_47 x_48 M_49 N_50 = some (r0, M', N') → W p l e { frames := 6, cells := 0, slots := 0, locals := 142 } s m args below meth c H locs 0 0 Q (F0 m 57 ls []) := by
    intro x_47 x_48 M_49 N_50 H locs ls hL h_mo h_mp hF hl hf
    unfold J_L_isStep_57 at hf
    refine lv_iload_n hx hb dL_isStep_57 rfl (lv_at hl 3 rfl) ?_
    refine lv_bipush (v := 12) hx hb dL_isStep_58 (by decide) ?_
    obtain ⟨r_51, e_52, hf⟩ := xb_some hf
    refine x_callTi (As := [.int p4, .int 12]) (rest := []) S hK (c_L_up l G z p4 12 r_51 e_52) gL_isStep_L_up rfl 2 (by decide +kernel) rfl ⟨Nat.le_of_ble_eq_true rfl, Nat.le_of_ble_eq_true rfl⟩ rfl hl.1 rfl (Nat.le_of_ble_eq_true rfl) dL_isStep_60 hL ⟨Nat.zero_le _, Nat.zero_le _⟩ (fun H1 locs hL hpost => ?_)
    subst hpost
    by_cases c_53 : r_51 = 0
    · have hf := (if_pos c_53).symm.trans hf
      refine x_tin (tgt := 116) (off := 53) S 0 c_53 dL_isStep_63 (by decide) (by decide) (by decide) (by decide) ?_
      refine lv_iload_n hx hb dL_isStep_116 rfl (lv_at hl 3 rfl) ?_
      refine lv_iconst (v := 4) hx hb dL_isStep_117 (by decide) ?_
      refine lv_ishr hx hb dL_isStep_118 ?_
      refine lv_bipush (v := 8) hx hb dL_isStep_119 (by decide) ?_
      obtain ⟨r_54, e_55, hf⟩ := xb_some hf
      refine x_callTi (As := [.int (p4 >>> ((4 : Int32) &&& 31)), .int 8]) (rest := []) S hK (c_L_up l G z (p4 >>> ((4 : Int32) &&& 31)) 8 r_54 e_55) gL_isStep_L_up rfl 2 (by decide +kernel) rfl ⟨Nat.le_of_ble_eq_true rfl, Nat.le_of_ble_eq_true rfl⟩ rfl hl.1 rfl (Nat.le_of_ble_eq_true rfl) dL_isStep_121 hL ⟨Nat.zero_le _, Nat.zero_le _⟩ (fun H1 locs hL hpost => ?_)
      subst hpost
      refine lv_istore (lv' := [(7, .int r_54), (0, .ref a), (1, .ref o), (2, .int p3), (3, .int p4), (5, .int x_47), (6, .int x_48)]) hx hb dL_isStep_124 hl (by decide) rfl (fun ls hl => ?_)
      refine lv_iload hx hb dL_isStep_126 (lv_at hl 0 rfl) ?_
      refine lv_iconst (v := 3) hx hb dL_isStep_128 (by decide) ?_
      refine lv_icmp_ne (tgt := 144) hx hb dL_isStep_129 (by decide) (fun c_56 => ?_) (fun c_56 => ?_)
      · have hf := (if_neg c_56).symm.trans hf
        refine lv_iload hx hb dL_isStep_144 (lv_at hl 0 rfl) ?_
        refine lv_iconst (v := 4) hx hb dL_isStep_146 (by decide) ?_
        refine lv_icmp_ne (tgt := 161) hx hb dL_isStep_147 (by decide) (fun c_57 => ?_) (fun c_57 => ?_)
        · have hf := (if_neg c_57).symm.trans hf
          refine lv_iload hx hb dL_isStep_161 (lv_at hl 0 rfl) ?_
          refine lv_iconst (v := 5) hx hb dL_isStep_163 (by decide) ?_
          refine lv_icmp_ne (tgt := 180) hx hb dL_isStep_164 (by decide) (fun c_58 => ?_) (fun c_58 => ?_)
          · have hf := (if_neg c_58).symm.trans hf
            refine lv_iload hx hb dL_isStep_180 (lv_at hl 0 rfl) ?_
            refine lv_bipush (v := 7) hx hb dL_isStep_182 (by decide) ?_
            refine lv_icmp_ne (tgt := 199) hx hb dL_isStep_184 (by decide) (fun c_59 => ?_) (fun c_59 => ?_)
            · have hf := (if_neg c_59).symm.trans hf
              refine lv_iload_n hx hb dL_isStep_199 rfl (lv_at hl 4 rfl) ?_
              refine lv_bipush (v := 7) hx hb dL_isStep_200 (by decide) ?_
              refine lv_ishr hx hb dL_isStep_202 ?_
              refine lv_sipush (v := 4000) hx hb dL_isStep_203 (by decide) ?_
              obtain ⟨r_60, e_61, hf⟩ := xb_some hf
              refine x_callTi (As := [.int (p4 >>> ((7 : Int32) &&& 31)), .int 4000]) (rest := []) S hK (c_L_up l G z (p4 >>> ((7 : Int32) &&& 31)) 4000 r_60 e_61) gL_isStep_L_up rfl 2 (by decide +kernel) rfl ⟨Nat.le_of_ble_eq_true rfl, Nat.le_of_ble_eq_true rfl⟩ rfl hl.1 rfl (Nat.le_of_ble_eq_true rfl) dL_isStep_206 hL ⟨Nat.zero_le _, Nat.zero_le _⟩ (fun H1 locs hL hpost => ?_)
              subst hpost
              refine lv_istore (lv' := [(8, .int r_60), (7, .int r_54), (0, .ref a), (1, .ref o), (2, .int p3), (3, .int p4), (5, .int x_47), (6, .int x_48)]) hx hb dL_isStep_209 hl (by decide) rfl (fun ls hl => ?_)
              exact jp_211 r_54 r_60 M_49 N_50 _ _ _ hL h_mo h_mp hF (lv_sub hl [2, 3, 1, 0] rfl) hf
            · have hf := (if_pos c_59).symm.trans hf
              refine lv_iload_n hx hb dL_isStep_187 rfl (lv_at hl 4 rfl) ?_
              refine lv_bipush (v := 7) hx hb dL_isStep_188 (by decide) ?_
              refine lv_ishr hx hb dL_isStep_190 ?_
              refine lv_bipush (v := 8) hx hb dL_isStep_191 (by decide) ?_
              obtain ⟨r_62, e_63, hf⟩ := xb_some hf
              refine x_callTi (As := [.int (p4 >>> ((7 : Int32) &&& 31)), .int 8]) (rest := []) S hK (c_L_up l G z (p4 >>> ((7 : Int32) &&& 31)) 8 r_62 e_63) gL_isStep_L_up rfl 2 (by decide +kernel) rfl ⟨Nat.le_of_ble_eq_true rfl, Nat.le_of_ble_eq_true rfl⟩ rfl hl.1 rfl (Nat.le_of_ble_eq_true rfl) dL_isStep_193 hL ⟨Nat.zero_le _, Nat.zero_le _⟩ (fun H1 locs hL hpost => ?_)
              subst hpost
              refine lv_goto (tgt := 209) hx hb dL_isStep_196 (by decide) ?_
              refine lv_istore (lv' := [(8, .int r_62), (7, .int r_54), (0, .ref a), (1, .ref o), (2, .int p3), (3, .int p4), (5, .int x_47), (6, .int x_48)]) hx hb dL_isStep_209 hl (by decide) rfl (fun ls hl => ?_)
              exact jp_211 r_54 r_62 M_49 N_50 _ _ _ hL h_mo h_mp hF (lv_sub hl [2, 3, 1, 0] rfl) hf
          · have hf := (if_pos c_58).symm.trans hf
            refine lv_iload_n hx hb dL_isStep_167 rfl (lv_at hl 4 rfl) ?_
            refine lv_bipush (v := 7) hx hb dL_isStep_168 (by decide) ?_
            refine lv_ishr hx hb dL_isStep_170 ?_
            refine lv_sipush (v := 9000) hx hb dL_isStep_171 (by decide) ?_
            obtain ⟨r_64, e_65, hf⟩ := xb_some hf
            refine x_callTi (As := [.int (p4 >>> ((7 : Int32) &&& 31)), .int 9000]) (rest := []) S hK (c_L_up l G z (p4 >>> ((7 : Int32) &&& 31)) 9000 r_64 e_65) gL_isStep_L_up rfl 2 (by decide +kernel) rfl ⟨Nat.le_of_ble_eq_true rfl, Nat.le_of_ble_eq_true rfl⟩ rfl hl.1 rfl (Nat.le_of_ble_eq_true rfl) dL_isStep_174 hL ⟨Nat.zero_le _, Nat.zero_le _⟩ (fun H1 locs hL hpost => ?_)
            subst hpost
            refine lv_goto (tgt := 209) hx hb dL_isStep_177 (by decide) ?_
            refine lv_istore (lv' := [(8, .int r_64), (7, .int r_54), (0, .ref a), (1, .ref o), (2, .int p3), (3, .int p4), (5, .int x_47), (6, .int x_48)]) hx hb dL_isStep_209 hl (by decide) rfl (fun ls hl => ?_)
            exact jp_211 r_54 r_64 M_49 N_50 _ _ _ hL h_mo h_mp hF (lv_sub hl [2, 3, 1, 0] rfl) hf
        · have hf := (if_pos c_57).symm.trans hf
          refine lv_iload_n hx hb dL_isStep_150 rfl (lv_at hl 4 rfl) ?_
          refine lv_bipush (v := 7) hx hb dL_isStep_151 (by decide) ?_
          refine lv_ishr hx hb dL_isStep_153 ?_
          refine lv_iconst (v := 4) hx hb dL_isStep_154 (by decide) ?_
          obtain ⟨r_66, e_67, hf⟩ := xb_some hf
          refine x_callTi (As := [.int (p4 >>> ((7 : Int32) &&& 31)), .int 4]) (rest := []) S hK (c_L_up l G z (p4 >>> ((7 : Int32) &&& 31)) 4 r_66 e_67) gL_isStep_L_up rfl 2 (by decide +kernel) rfl ⟨Nat.le_of_ble_eq_true rfl, Nat.le_of_ble_eq_true rfl⟩ rfl hl.1 rfl (Nat.le_of_ble_eq_true rfl) dL_isStep_155 hL ⟨Nat.zero_le _, Nat.zero_le _⟩ (fun H1 locs hL hpost => ?_)
          subst hpost
          refine lv_goto (tgt := 209) hx hb dL_isStep_158 (by decide) ?_
          refine lv_istore (lv' := [(8, .int r_66), (7, .int r_54), (0, .ref a), (1, .ref o), (2, .int p3), (3, .int p4), (5, .int x_47), (6, .int x_48)]) hx hb dL_isStep_209 hl (by decide) rfl (fun ls hl => ?_)
          exact jp_211 r_54 r_66 M_49 N_50 _ _ _ hL h_mo h_mp hF (lv_sub hl [2, 3, 1, 0] rfl) hf
      · have hf := (if_pos c_56).symm.trans hf
        refine lv_iload_n hx hb dL_isStep_132 rfl (lv_at hl 4 rfl) ?_
        refine lv_bipush (v := 7) hx hb dL_isStep_133 (by decide) ?_
        refine lv_ishr hx hb dL_isStep_135 ?_
        refine lv_bipush (v := 101) hx hb dL_isStep_136 (by decide) ?_
        obtain ⟨r_68, e_69, hf⟩ := xb_some hf
        refine x_callTi (As := [.int (p4 >>> ((7 : Int32) &&& 31)), .int 101]) (rest := []) S hK (c_L_up l G z (p4 >>> ((7 : Int32) &&& 31)) 101 r_68 e_69) gL_isStep_L_up rfl 2 (by decide +kernel) rfl ⟨Nat.le_of_ble_eq_true rfl, Nat.le_of_ble_eq_true rfl⟩ rfl hl.1 rfl (Nat.le_of_ble_eq_true rfl) dL_isStep_138 hL ⟨Nat.zero_le _, Nat.zero_le _⟩ (fun H1 locs hL hpost => ?_)
        subst hpost
        refine lv_goto (tgt := 209) hx hb dL_isStep_141 (by decide) ?_
        refine lv_istore (lv' := [(8, .int r_68), (7, .int r_54), (0, .ref a), (1, .ref o), (2, .int p3), (3, .int p4), (5, .int x_47), (6, .int x_48)]) hx hb dL_isStep_209 hl (by decide) rfl (fun ls hl => ?_)
        exact jp_211 r_54 r_68 M_49 N_50 _ _ _ hL h_mo h_mp hF (lv_sub hl [2, 3, 1, 0] rfl) hf
    have hf := (if_neg c_53).symm.trans hf
    by_cases c_70 : r_51 = 1
    · have hf := (if_pos c_70).symm.trans hf
      refine x_tin (tgt := 236) (off := 173) S 1 c_70 dL_isStep_63 (by decide) (by decide) (by decide) (by decide) ?_
      refine lv_aload_n hx hb dL_isStep_236 rfl (lv_at hl 0 rfl) ?_
      refine lv_iload_n hx hb dL_isStep_237 rfl (lv_at hl 3 rfl) ?_
      refine lv_iconst (v := 4) hx hb dL_isStep_238 (by decide) ?_
      refine lv_ishr hx hb dL_isStep_239 ?_
      refine lv_iconst (v := 3) hx hb dL_isStep_240 (by decide) ?_
      obtain ⟨r_71, e_72, hf⟩ := xb_some hf
      refine x_callTi (As := [.int (p4 >>> ((4 : Int32) &&& 31)), .int 3]) (rest := [.ref a]) S hK (c_L_up l G z (p4 >>> ((4 : Int32) &&& 31)) 3 r_71 e_72) gL_isStep_L_up rfl 2 (by decide +kernel) rfl ⟨Nat.le_of_ble_eq_true rfl, Nat.le_of_ble_eq_true rfl⟩ rfl hl.1 rfl (Nat.le_of_ble_eq_true rfl) dL_isStep_241 hL ⟨Nat.zero_le _, Nat.zero_le _⟩ (fun H1 locs hL hpost => ?_)
      subst hpost
      refine lv_iconst (v := 1) hx hb dL_isStep_244 (by decide) ?_
      refine lv_iload_n hx hb dL_isStep_245 rfl (lv_at hl 3 rfl) ?_
      refine lv_bipush (v := 6) hx hb dL_isStep_246 (by decide) ?_
      refine lv_ishr hx hb dL_isStep_248 ?_
      refine lv_sipush (v := 9000) hx hb dL_isStep_249 (by decide) ?_
      obtain ⟨r_73, e_74, hf⟩ := xb_some hf
      refine x_callTi (As := [.int (p4 >>> ((6 : Int32) &&& 31)), .int 9000]) (rest := [.int 1, .int r_71, .ref a]) S hK (c_L_up l G z (p4 >>> ((6 : Int32) &&& 31)) 9000 r_73 e_74) gL_isStep_L_up rfl 2 (by decide +kernel) rfl ⟨Nat.le_of_ble_eq_true rfl, Nat.le_of_ble_eq_true rfl⟩ rfl hl.1 rfl (Nat.le_of_ble_eq_true rfl) dL_isStep_252 hL ⟨Nat.zero_le _, Nat.zero_le _⟩ (fun H1 locs hL hpost => ?_)
      subst hpost
      refine lv_iadd hx hb dL_isStep_255 ?_
      obtain ⟨r_75, M_76, e_77, hf⟩ := xb2_some hf
      refine x_callW (As := [.int r_71, .int (1 + r_73)]) (rest := []) S hKC (fun q hq => hF.2 q (fun h => by (try dsimp only at h); omega)) h_mo (h_X7_pay l G z a M_49 r_71 (1 + r_73) r_75 M_76 (by omega) e_77) gL_isStep_X7_pay rfl 2 (by decide +kernel) rfl ⟨Nat.le_of_ble_eq_true rfl, Nat.le_of_ble_eq_true rfl⟩ h_mo hl.1 rfl (Nat.le_of_ble_eq_true rfl) dL_isStep_256 hL ⟨Nat.zero_le _, Nat.zero_le _⟩ (fun H1 locs hL hpost => ?_)
      obtain ⟨n_mo, hfr⟩ := hpost
      have h_mo := n_mo
      have h_mp := h_mp.kept hfr (fun q h1 h2 h3 => by (try dsimp only at h3); omega)
      have hF := hF.step hfr (fun q h => by (try dsimp only at h ⊢); omega)
      refine lv_aload_n hx hb dL_isStep_259 rfl (lv_at hl 1 rfl) ?_
      refine lv_iload_n hx hb dL_isStep_260 rfl (lv_at hl 3 rfl) ?_
      refine lv_iconst (v := 4) hx hb dL_isStep_261 (by decide) ?_
      refine lv_ishr hx hb dL_isStep_262 ?_
      refine lv_iconst (v := 3) hx hb dL_isStep_263 (by decide) ?_
      obtain ⟨r_78, e_79, hf⟩ := xb_some hf
      refine x_callTi (As := [.int (p4 >>> ((4 : Int32) &&& 31)), .int 3]) (rest := [.ref o, .int r_75]) S hK (c_L_up l G z (p4 >>> ((4 : Int32) &&& 31)) 3 r_78 e_79) gL_isStep_L_up rfl 2 (by decide +kernel) rfl ⟨Nat.le_of_ble_eq_true rfl, Nat.le_of_ble_eq_true rfl⟩ rfl hl.1 rfl (Nat.le_of_ble_eq_true rfl) dL_isStep_264 hL ⟨Nat.zero_le _, Nat.zero_le _⟩ (fun H1 locs hL hpost => ?_)
      subst hpost
      refine lv_iconst (v := 1) hx hb dL_isStep_267 (by decide) ?_
      refine lv_iload_n hx hb dL_isStep_268 rfl (lv_at hl 3 rfl) ?_
      refine lv_bipush (v := 6) hx hb dL_isStep_269 (by decide) ?_
      refine lv_ishr hx hb dL_isStep_271 ?_
      refine lv_sipush (v := 9000) hx hb dL_isStep_272 (by decide) ?_
      obtain ⟨r_80, e_81, hf⟩ := xb_some hf
      refine x_callTi (As := [.int (p4 >>> ((6 : Int32) &&& 31)), .int 9000]) (rest := [.int 1, .int r_78, .ref o, .int r_75]) S hK (c_L_up l G z (p4 >>> ((6 : Int32) &&& 31)) 9000 r_80 e_81) gL_isStep_L_up rfl 2 (by decide +kernel) rfl ⟨Nat.le_of_ble_eq_true rfl, Nat.le_of_ble_eq_true rfl⟩ rfl hl.1 rfl (Nat.le_of_ble_eq_true rfl) dL_isStep_275 hL ⟨Nat.zero_le _, Nat.zero_le _⟩ (fun H1 locs hL hpost => ?_)
      subst hpost
      refine lv_iadd hx hb dL_isStep_278 ?_
      obtain ⟨r_82, N_83, e_84, hf⟩ := xb2_some hf
      refine x_callW (As := [.int r_78, .int (1 + r_80)]) (rest := [.int r_75]) S hKC (fun q hq => hF.2 q (fun h => by (try dsimp only at h); omega)) h_mp (h_X7_pay l G z o N_50 r_78 (1 + r_80) r_82 N_83 (by omega) e_84) gL_isStep_X7_pay rfl 2 (by decide +kernel) rfl ⟨Nat.le_of_ble_eq_true rfl, Nat.le_of_ble_eq_true rfl⟩ h_mp hl.1 rfl (Nat.le_of_ble_eq_true rfl) dL_isStep_279 hL ⟨Nat.zero_le _, Nat.zero_le _⟩ (fun H1 locs hL hpost => ?_)
      obtain ⟨n_mo, hfr⟩ := hpost
      have h_mp := n_mo
      have h_mo := h_mo.kept hfr (fun q h1 h2 h3 => by (try dsimp only at h3); omega)
      have hF := hF.step hfr (fun q h => by (try dsimp only at h ⊢); omega)
      refine lv_icmp_ne (tgt := 289) hx hb dL_isStep_282 (by decide) (fun c_85 => ?_) (fun c_85 => ?_)
      · have hf := (if_neg c_85).symm.trans hf
        refine lv_iconst (v := 0) hx hb dL_isStep_289 (by decide) ?_
        obtain ⟨q0, qq0⟩ := Prod.mk.inj (Option.some.inj hf)
        obtain ⟨q1, qq1⟩ := Prod.mk.inj (qq0)
        have q2 := qq1
        subst r0
        subst M'
        subst N'
        subst hQ
        refine x_zret (post := (fun H H1 => WH G a M_76 H1 ∧ WH G o N_83 H1 ∧ XF (fun q => (a ≤ q ∧ q < a + 230) ∨ (o ≤ q ∧ q < o + 230)) H H1)) S hr hlocks (by decide) rfl ?_ hL dL_isStep_290
        exact ⟨h_mo, h_mp, hF⟩
      · have hf := (if_pos c_85).symm.trans hf
        refine lv_iconst (v := 1) hx hb dL_isStep_285 (by decide) ?_
        refine lv_goto (tgt := 290) hx hb dL_isStep_286 (by decide) ?_
        obtain ⟨q0, qq0⟩ := Prod.mk.inj (Option.some.inj hf)
        obtain ⟨q1, qq1⟩ := Prod.mk.inj (qq0)
        have q2 := qq1
        subst r0
        subst M'
        subst N'
        subst hQ
        refine x_zret (post := (fun H H1 => WH G a M_76 H1 ∧ WH G o N_83 H1 ∧ XF (fun q => (a ≤ q ∧ q < a + 230) ∨ (o ≤ q ∧ q < o + 230)) H H1)) S hr hlocks (by decide) rfl ?_ hL dL_isStep_290
        exact ⟨h_mo, h_mp, hF⟩
    have hf := (if_neg c_70).symm.trans hf
    by_cases c_86 : r_51 = 2
    · have hf := (if_pos c_86).symm.trans hf
      refine x_tin (tgt := 291) (off := 228) S 2 c_86 dL_isStep_63 (by decide) (by decide) (by decide) (by decide) ?_
      refine lv_aload_n hx hb dL_isStep_291 rfl (lv_at hl 0 rfl) ?_
      refine lv_iload hx hb dL_isStep_292 (lv_at hl 5 rfl) ?_
      obtain ⟨r_87, M_88, e_89, hf⟩ := xb2_some hf
      refine x_callW (As := [.int x_48]) (rest := []) S hKC (fun q hq => hF.2 q (fun h => by (try dsimp only at h); omega)) h_mo (h_X7_cancel l G z a M_49 x_48 r_87 M_88 (by omega) e_89) gL_isStep_X7_cancel rfl 1 (by decide +kernel) rfl ⟨Nat.le_of_ble_eq_true rfl, Nat.le_of_ble_eq_true rfl⟩ h_mo hl.1 rfl (Nat.le_of_ble_eq_true rfl) dL_isStep_294 hL ⟨Nat.zero_le _, Nat.zero_le _⟩ (fun H1 locs hL hpost => ?_)
      obtain ⟨n_mo, hfr⟩ := hpost
      have h_mo := n_mo
      have h_mp := h_mp.kept hfr (fun q h1 h2 h3 => by (try dsimp only at h3); omega)
      have hF := hF.step hfr (fun q h => by (try dsimp only at h ⊢); omega)
      refine lv_aload_n hx hb dL_isStep_297 rfl (lv_at hl 1 rfl) ?_
      refine lv_iload hx hb dL_isStep_298 (lv_at hl 5 rfl) ?_
      obtain ⟨r_90, N_91, e_92, hf⟩ := xb2_some hf
      refine x_callW (As := [.int x_48]) (rest := [.int r_87]) S hKC (fun q hq => hF.2 q (fun h => by (try dsimp only at h); omega)) h_mp (h_X7_cancel l G z o N_50 x_48 r_90 N_91 (by omega) e_92) gL_isStep_X7_cancel rfl 1 (by decide +kernel) rfl ⟨Nat.le_of_ble_eq_true rfl, Nat.le_of_ble_eq_true rfl⟩ h_mp hl.1 rfl (Nat.le_of_ble_eq_true rfl) dL_isStep_300 hL ⟨Nat.zero_le _, Nat.zero_le _⟩ (fun H1 locs hL hpost => ?_)
      obtain ⟨n_mo, hfr⟩ := hpost
      have h_mp := n_mo
      have h_mo := h_mo.kept hfr (fun q h1 h2 h3 => by (try dsimp only at h3); omega)
      have hF := hF.step hfr (fun q h => by (try dsimp only at h ⊢); omega)
      refine lv_icmp_ne (tgt := 310) hx hb dL_isStep_303 (by decide) (fun c_93 => ?_) (fun c_93 => ?_)
      · have hf := (if_neg c_93).symm.trans hf
        refine lv_iconst (v := 0) hx hb dL_isStep_310 (by decide) ?_
        obtain ⟨q0, qq0⟩ := Prod.mk.inj (Option.some.inj hf)
        obtain ⟨q1, qq1⟩ := Prod.mk.inj (qq0)
        have q2 := qq1
        subst r0
        subst M'
        subst N'
        subst hQ
        refine x_zret (post := (fun H H1 => WH G a M_88 H1 ∧ WH G o N_91 H1 ∧ XF (fun q => (a ≤ q ∧ q < a + 230) ∨ (o ≤ q ∧ q < o + 230)) H H1)) S hr hlocks (by decide) rfl ?_ hL dL_isStep_311
        exact ⟨h_mo, h_mp, hF⟩
      · have hf := (if_pos c_93).symm.trans hf
        refine lv_iconst (v := 1) hx hb dL_isStep_306 (by decide) ?_
        refine lv_goto (tgt := 311) hx hb dL_isStep_307 (by decide) ?_
        obtain ⟨q0, qq0⟩ := Prod.mk.inj (Option.some.inj hf)
        obtain ⟨q1, qq1⟩ := Prod.mk.inj (qq0)
        have q2 := qq1
        subst r0
        subst M'
        subst N'
        subst hQ
        refine x_zret (post := (fun H H1 => WH G a M_88 H1 ∧ WH G o N_91 H1 ∧ XF (fun q => (a ≤ q ∧ q < a + 230) ∨ (o ≤ q ∧ q < o + 230)) H H1)) S hr hlocks (by decide) rfl ?_ hL dL_isStep_311
        exact ⟨h_mo, h_mp, hF⟩
    have hf := (if_neg c_86).symm.trans hf
    by_cases c_94 : r_51 = 3
    · have hf := (if_pos c_94).symm.trans hf
      refine x_tin (tgt := 291) (off := 228) S 3 c_94 dL_isStep_63 (by decide) (by decide) (by decide) (by decide) ?_
      refine lv_aload_n hx hb dL_isStep_291 rfl (lv_at hl 0 rfl) ?_
      refine lv_iload hx hb dL_isStep_292 (lv_at hl 5 rfl) ?_
      obtain ⟨r_95, M_96, e_97, hf⟩ := xb2_some hf
      refine x_callW (As := [.int x_48]) (rest := []) S hKC (fun q hq => hF.2 q (fun h => by (try dsimp only at h); omega)) h_mo (h_X7_cancel l G z a M_49 x_48 r_95 M_96 (by omega) e_97) gL_isStep_X7_cancel rfl 1 (by decide +kernel) rfl ⟨Nat.le_of_ble_eq_true rfl, Nat.le_of_ble_eq_true rfl⟩ h_mo hl.1 rfl (Nat.le_of_ble_eq_true rfl) dL_isStep_294 hL ⟨Nat.zero_le _, Nat.zero_le _⟩ (fun H1 locs hL hpost => ?_)
      obtain ⟨n_mo, hfr⟩ := hpost
      have h_mo := n_mo
      have h_mp := h_mp.kept hfr (fun q h1 h2 h3 => by (try dsimp only at h3); omega)
      have hF := hF.step hfr (fun q h => by (try dsimp only at h ⊢); omega)
      refine lv_aload_n hx hb dL_isStep_297 rfl (lv_at hl 1 rfl) ?_
      refine lv_iload hx hb dL_isStep_298 (lv_at hl 5 rfl) ?_
      obtain ⟨r_98, N_99, e_100, hf⟩ := xb2_some hf
      refine x_callW (As := [.int x_48]) (rest := [.int r_95]) S hKC (fun q hq => hF.2 q (fun h => by (try dsimp only at h); omega)) h_mp (h_X7_cancel l G z o N_50 x_48 r_98 N_99 (by omega) e_100) gL_isStep_X7_cancel rfl 1 (by decide +kernel) rfl ⟨Nat.le_of_ble_eq_true rfl, Nat.le_of_ble_eq_true rfl⟩ h_mp hl.1 rfl (Nat.le_of_ble_eq_true rfl) dL_isStep_300 hL ⟨Nat.zero_le _, Nat.zero_le _⟩ (fun H1 locs hL hpost => ?_)
      obtain ⟨n_mo, hfr⟩ := hpost
      have h_mp := n_mo
      have h_mo := h_mo.kept hfr (fun q h1 h2 h3 => by (try dsimp only at h3); omega)
      have hF := hF.step hfr (fun q h => by (try dsimp only at h ⊢); omega)
      refine lv_icmp_ne (tgt := 310) hx hb dL_isStep_303 (by decide) (fun c_101 => ?_) (fun c_101 => ?_)
      · have hf := (if_neg c_101).symm.trans hf
        refine lv_iconst (v := 0) hx hb dL_isStep_310 (by decide) ?_
        obtain ⟨q0, qq0⟩ := Prod.mk.inj (Option.some.inj hf)
        obtain ⟨q1, qq1⟩ := Prod.mk.inj (qq0)
        have q2 := qq1
        subst r0
        subst M'
        subst N'
        subst hQ
        refine x_zret (post := (fun H H1 => WH G a M_96 H1 ∧ WH G o N_99 H1 ∧ XF (fun q => (a ≤ q ∧ q < a + 230) ∨ (o ≤ q ∧ q < o + 230)) H H1)) S hr hlocks (by decide) rfl ?_ hL dL_isStep_311
        exact ⟨h_mo, h_mp, hF⟩
      · have hf := (if_pos c_101).symm.trans hf
        refine lv_iconst (v := 1) hx hb dL_isStep_306 (by decide) ?_
        refine lv_goto (tgt := 311) hx hb dL_isStep_307 (by decide) ?_
        obtain ⟨q0, qq0⟩ := Prod.mk.inj (Option.some.inj hf)
        obtain ⟨q1, qq1⟩ := Prod.mk.inj (qq0)
        have q2 := qq1
        subst r0
        subst M'
        subst N'
        subst hQ
        refine x_zret (post := (fun H H1 => WH G a M_96 H1 ∧ WH G o N_99 H1 ∧ XF (fun q => (a ≤ q ∧ q < a + 230) ∨ (o ≤ q ∧ q < o + 230)) H H1)) S hr hlocks (by decide) rfl ?_ hL dL_isStep_311
        exact ⟨h_mo, h_mp, hF⟩
    have hf := (if_neg c_94).symm.trans hf
    by_cases c_102 : r_51 = 4
    · have hf := (if_pos c_102).symm.trans hf
      refine x_tin (tgt := 312) (off := 249) S 4 c_102 dL_isStep_63 (by decide) (by decide) (by decide) (by decide) ?_
      refine lv_iconst (v := 1) hx hb dL_isStep_312 (by decide) ?_
      refine lv_iload_n hx hb dL_isStep_313 rfl (lv_at hl 3 rfl) ?_
      refine lv_iconst (v := 4) hx hb dL_isStep_314 (by decide) ?_
      refine lv_ishr hx hb dL_isStep_315 ?_
      refine lv_bipush (v := 7) hx hb dL_isStep_316 (by decide) ?_
      obtain ⟨r_103, e_104, hf⟩ := xb_some hf
      refine x_callTi (As := [.int (p4 >>> ((4 : Int32) &&& 31)), .int 7]) (rest := [.int 1]) S hK (c_L_up l G z (p4 >>> ((4 : Int32) &&& 31)) 7 r_103 e_104) gL_isStep_L_up rfl 2 (by decide +kernel) rfl ⟨Nat.le_of_ble_eq_true rfl, Nat.le_of_ble_eq_true rfl⟩ rfl hl.1 rfl (Nat.le_of_ble_eq_true rfl) dL_isStep_318 hL ⟨Nat.zero_le _, Nat.zero_le _⟩ (fun H1 locs hL hpost => ?_)
      subst hpost
      refine lv_iadd hx hb dL_isStep_321 ?_
      obtain ⟨x_105, ex_105, hf⟩ := xl_some hf
      refine x_top ex_105 ?_
      refine lv_istore (lv' := [(7, .int x_105), (0, .ref a), (1, .ref o), (2, .int p3), (3, .int p4), (5, .int x_47), (6, .int x_48)]) hx hb dL_isStep_322 hl (by decide) rfl (fun ls hl => ?_)
      refine lv_aload_n hx hb dL_isStep_324 rfl (lv_at hl 1 rfl) ?_
      refine lv_iconst (v := 0) hx hb dL_isStep_325 (by decide) ?_
      obtain ⟨r_106, e_107, hf⟩ := xb_some hf
      refine x_callW (As := [.int 0]) (rest := []) S hKC (fun q hq => hF.2 q (fun h => by (try dsimp only at h); omega)) h_mo (h_X7_count l G z a M_49 0 r_106 e_107) gL_isStep_X7_count rfl 1 (by decide +kernel) rfl ⟨Nat.le_of_ble_eq_true rfl, Nat.le_of_ble_eq_true rfl⟩ h_mo hl.1 rfl (Nat.le_of_ble_eq_true rfl) dL_isStep_326 hL ⟨Nat.zero_le _, Nat.zero_le _⟩ (fun H1 locs hL hpost => ?_)
      subst hpost
      refine lv_iload hx hb dL_isStep_329 (lv_at hl 0 rfl) ?_
      refine lv_iadd hx hb dL_isStep_331 ?_
      refine lv_sipush (v := 150) hx hb dL_isStep_332 (by decide) ?_
      refine lv_icmp_gt (tgt := 353) hx hb dL_isStep_335 (by decide) (fun c_108 => ?_) (fun c_108 => ?_)
      · have hf := (if_pos c_108).symm.trans hf
        refine lv_iconst (v := 1) hx hb dL_isStep_353 (by decide) ?_
        refine lv_goto (tgt := 358) hx hb dL_isStep_354 (by decide) ?_
        obtain ⟨q0, qq0⟩ := Prod.mk.inj (Option.some.inj hf)
        obtain ⟨q1, qq1⟩ := Prod.mk.inj (qq0)
        have q2 := qq1
        subst r0
        subst M'
        subst N'
        subst hQ
        refine x_zret (post := (fun H H1 => WH G a M_49 H1 ∧ WH G o N_50 H1 ∧ XF (fun q => (a ≤ q ∧ q < a + 230) ∨ (o ≤ q ∧ q < o + 230)) H H1)) S hr hlocks (by decide) rfl ?_ hL dL_isStep_358
        exact ⟨h_mo, h_mp, hF⟩
      · have hf := (if_neg c_108).symm.trans hf
        refine lv_aload_n hx hb dL_isStep_338 rfl (lv_at hl 1 rfl) ?_
        refine lv_iload hx hb dL_isStep_339 (lv_at hl 0 rfl) ?_
        obtain ⟨r_109, M_110, e_111, hf⟩ := xb2_some hf
        refine x_callW (As := [.int x_105]) (rest := []) S hKC (fun q hq => hF.2 q (fun h => by (try dsimp only at h); omega)) h_mo (h_X7_pass l G z a M_49 x_105 r_109 M_110 (by omega) e_111) gL_isStep_X7_pass rfl 1 (by decide +kernel) rfl ⟨Nat.le_of_ble_eq_true rfl, Nat.le_of_ble_eq_true rfl⟩ h_mo hl.1 rfl (Nat.le_of_ble_eq_true rfl) dL_isStep_341 hL ⟨Nat.zero_le _, Nat.zero_le _⟩ (fun H1 locs hL hpost => ?_)
        obtain ⟨n_mo, hfr⟩ := hpost
        have h_mo := n_mo
        have h_mp := h_mp.kept hfr (fun q h1 h2 h3 => by (try dsimp only at h3); omega)
        have hF := hF.step hfr (fun q h => by (try dsimp only at h ⊢); omega)
        refine lv_aload_n hx hb dL_isStep_344 rfl (lv_at hl 2 rfl) ?_
        refine lv_iload hx hb dL_isStep_345 (lv_at hl 0 rfl) ?_
        obtain ⟨r_112, N_113, e_114, hf⟩ := xb2_some hf
        refine x_callW (As := [.int x_105]) (rest := [.int r_109]) S hKC (fun q hq => hF.2 q (fun h => by (try dsimp only at h); omega)) h_mp (h_X7_pass l G z o N_50 x_105 r_112 N_113 (by omega) e_114) gL_isStep_X7_pass rfl 1 (by decide +kernel) rfl ⟨Nat.le_of_ble_eq_true rfl, Nat.le_of_ble_eq_true rfl⟩ h_mp hl.1 rfl (Nat.le_of_ble_eq_true rfl) dL_isStep_347 hL ⟨Nat.zero_le _, Nat.zero_le _⟩ (fun H1 locs hL hpost => ?_)
        obtain ⟨n_mo, hfr⟩ := hpost
        have h_mp := n_mo
        have h_mo := h_mo.kept hfr (fun q h1 h2 h3 => by (try dsimp only at h3); omega)
        have hF := hF.step hfr (fun q h => by (try dsimp only at h ⊢); omega)
        refine lv_icmp_ne (tgt := 357) hx hb dL_isStep_350 (by decide) (fun c_115 => ?_) (fun c_115 => ?_)
        · have hf := (if_neg c_115).symm.trans hf
          refine lv_iconst (v := 0) hx hb dL_isStep_357 (by decide) ?_
          obtain ⟨q0, qq0⟩ := Prod.mk.inj (Option.some.inj hf)
          obtain ⟨q1, qq1⟩ := Prod.mk.inj (qq0)
          have q2 := qq1
          subst r0
          subst M'
          subst N'
          subst hQ
          refine x_zret (post := (fun H H1 => WH G a M_110 H1 ∧ WH G o N_113 H1 ∧ XF (fun q => (a ≤ q ∧ q < a + 230) ∨ (o ≤ q ∧ q < o + 230)) H H1)) S hr hlocks (by decide) rfl ?_ hL dL_isStep_358
          exact ⟨h_mo, h_mp, hF⟩
        · have hf := (if_pos c_115).symm.trans hf
          refine lv_iconst (v := 1) hx hb dL_isStep_353 (by decide) ?_
          refine lv_goto (tgt := 358) hx hb dL_isStep_354 (by decide) ?_
          obtain ⟨q0, qq0⟩ := Prod.mk.inj (Option.some.inj hf)
          obtain ⟨q1, qq1⟩ := Prod.mk.inj (qq0)
          have q2 := qq1
          subst r0
          subst M'
          subst N'
          subst hQ
          refine x_zret (post := (fun H H1 => WH G a M_110 H1 ∧ WH G o N_113 H1 ∧ XF (fun q => (a ≤ q ∧ q < a + 230) ∨ (o ≤ q ∧ q < o + 230)) H H1)) S hr hlocks (by decide) rfl ?_ hL dL_isStep_358
          exact ⟨h_mo, h_mp, hF⟩
    have hf := (if_neg c_102).symm.trans hf
    by_cases c_116 : r_51 = 5
    · have hf := (if_pos c_116).symm.trans hf
      refine x_tin (tgt := 312) (off := 249) S 5 c_116 dL_isStep_63 (by decide) (by decide) (by decide) (by decide) ?_
      refine lv_iconst (v := 1) hx hb dL_isStep_312 (by decide) ?_
      refine lv_iload_n hx hb dL_isStep_313 rfl (lv_at hl 3 rfl) ?_
      refine lv_iconst (v := 4) hx hb dL_isStep_314 (by decide) ?_
      refine lv_ishr hx hb dL_isStep_315 ?_
      refine lv_bipush (v := 7) hx hb dL_isStep_316 (by decide) ?_
      obtain ⟨r_117, e_118, hf⟩ := xb_some hf
      refine x_callTi (As := [.int (p4 >>> ((4 : Int32) &&& 31)), .int 7]) (rest := [.int 1]) S hK (c_L_up l G z (p4 >>> ((4 : Int32) &&& 31)) 7 r_117 e_118) gL_isStep_L_up rfl 2 (by decide +kernel) rfl ⟨Nat.le_of_ble_eq_true rfl, Nat.le_of_ble_eq_true rfl⟩ rfl hl.1 rfl (Nat.le_of_ble_eq_true rfl) dL_isStep_318 hL ⟨Nat.zero_le _, Nat.zero_le _⟩ (fun H1 locs hL hpost => ?_)
      subst hpost
      refine lv_iadd hx hb dL_isStep_321 ?_
      obtain ⟨x_119, ex_119, hf⟩ := xl_some hf
      refine x_top ex_119 ?_
      refine lv_istore (lv' := [(7, .int x_119), (0, .ref a), (1, .ref o), (2, .int p3), (3, .int p4), (5, .int x_47), (6, .int x_48)]) hx hb dL_isStep_322 hl (by decide) rfl (fun ls hl => ?_)
      refine lv_aload_n hx hb dL_isStep_324 rfl (lv_at hl 1 rfl) ?_
      refine lv_iconst (v := 0) hx hb dL_isStep_325 (by decide) ?_
      obtain ⟨r_120, e_121, hf⟩ := xb_some hf
      refine x_callW (As := [.int 0]) (rest := []) S hKC (fun q hq => hF.2 q (fun h => by (try dsimp only at h); omega)) h_mo (h_X7_count l G z a M_49 0 r_120 e_121) gL_isStep_X7_count rfl 1 (by decide +kernel) rfl ⟨Nat.le_of_ble_eq_true rfl, Nat.le_of_ble_eq_true rfl⟩ h_mo hl.1 rfl (Nat.le_of_ble_eq_true rfl) dL_isStep_326 hL ⟨Nat.zero_le _, Nat.zero_le _⟩ (fun H1 locs hL hpost => ?_)
      subst hpost
      refine lv_iload hx hb dL_isStep_329 (lv_at hl 0 rfl) ?_
      refine lv_iadd hx hb dL_isStep_331 ?_
      refine lv_sipush (v := 150) hx hb dL_isStep_332 (by decide) ?_
      refine lv_icmp_gt (tgt := 353) hx hb dL_isStep_335 (by decide) (fun c_122 => ?_) (fun c_122 => ?_)
      · have hf := (if_pos c_122).symm.trans hf
        refine lv_iconst (v := 1) hx hb dL_isStep_353 (by decide) ?_
        refine lv_goto (tgt := 358) hx hb dL_isStep_354 (by decide) ?_
        obtain ⟨q0, qq0⟩ := Prod.mk.inj (Option.some.inj hf)
        obtain ⟨q1, qq1⟩ := Prod.mk.inj (qq0)
        have q2 := qq1
        subst r0
        subst M'
        subst N'
        subst hQ
        refine x_zret (post := (fun H H1 => WH G a M_49 H1 ∧ WH G o N_50 H1 ∧ XF (fun q => (a ≤ q ∧ q < a + 230) ∨ (o ≤ q ∧ q < o + 230)) H H1)) S hr hlocks (by decide) rfl ?_ hL dL_isStep_358
        exact ⟨h_mo, h_mp, hF⟩
      · have hf := (if_neg c_122).symm.trans hf
        refine lv_aload_n hx hb dL_isStep_338 rfl (lv_at hl 1 rfl) ?_
        refine lv_iload hx hb dL_isStep_339 (lv_at hl 0 rfl) ?_
        obtain ⟨r_123, M_124, e_125, hf⟩ := xb2_some hf
        refine x_callW (As := [.int x_119]) (rest := []) S hKC (fun q hq => hF.2 q (fun h => by (try dsimp only at h); omega)) h_mo (h_X7_pass l G z a M_49 x_119 r_123 M_124 (by omega) e_125) gL_isStep_X7_pass rfl 1 (by decide +kernel) rfl ⟨Nat.le_of_ble_eq_true rfl, Nat.le_of_ble_eq_true rfl⟩ h_mo hl.1 rfl (Nat.le_of_ble_eq_true rfl) dL_isStep_341 hL ⟨Nat.zero_le _, Nat.zero_le _⟩ (fun H1 locs hL hpost => ?_)
        obtain ⟨n_mo, hfr⟩ := hpost
        have h_mo := n_mo
        have h_mp := h_mp.kept hfr (fun q h1 h2 h3 => by (try dsimp only at h3); omega)
        have hF := hF.step hfr (fun q h => by (try dsimp only at h ⊢); omega)
        refine lv_aload_n hx hb dL_isStep_344 rfl (lv_at hl 2 rfl) ?_
        refine lv_iload hx hb dL_isStep_345 (lv_at hl 0 rfl) ?_
        obtain ⟨r_126, N_127, e_128, hf⟩ := xb2_some hf
        refine x_callW (As := [.int x_119]) (rest := [.int r_123]) S hKC (fun q hq => hF.2 q (fun h => by (try dsimp only at h); omega)) h_mp (h_X7_pass l G z o N_50 x_119 r_126 N_127 (by omega) e_128) gL_isStep_X7_pass rfl 1 (by decide +kernel) rfl ⟨Nat.le_of_ble_eq_true rfl, Nat.le_of_ble_eq_true rfl⟩ h_mp hl.1 rfl (Nat.le_of_ble_eq_true rfl) dL_isStep_347 hL ⟨Nat.zero_le _, Nat.zero_le _⟩ (fun H1 locs hL hpost => ?_)
        obtain ⟨n_mo, hfr⟩ := hpost
        have h_mp := n_mo
        have h_mo := h_mo.kept hfr (fun q h1 h2 h3 => by (try dsimp only at h3); omega)
        have hF := hF.step hfr (fun q h => by (try dsimp only at h ⊢); omega)
        refine lv_icmp_ne (tgt := 357) hx hb dL_isStep_350 (by decide) (fun c_129 => ?_) (fun c_129 => ?_)
        · have hf := (if_neg c_129).symm.trans hf
          refine lv_iconst (v := 0) hx hb dL_isStep_357 (by decide) ?_
          obtain ⟨q0, qq0⟩ := Prod.mk.inj (Option.some.inj hf)
          obtain ⟨q1, qq1⟩ := Prod.mk.inj (qq0)
          have q2 := qq1
          subst r0
          subst M'
          subst N'
          subst hQ
          refine x_zret (post := (fun H H1 => WH G a M_124 H1 ∧ WH G o N_127 H1 ∧ XF (fun q => (a ≤ q ∧ q < a + 230) ∨ (o ≤ q ∧ q < o + 230)) H H1)) S hr hlocks (by decide) rfl ?_ hL dL_isStep_358
          exact ⟨h_mo, h_mp, hF⟩
        · have hf := (if_pos c_129).symm.trans hf
          refine lv_iconst (v := 1) hx hb dL_isStep_353 (by decide) ?_
          refine lv_goto (tgt := 358) hx hb dL_isStep_354 (by decide) ?_
          obtain ⟨q0, qq0⟩ := Prod.mk.inj (Option.some.inj hf)
          obtain ⟨q1, qq1⟩ := Prod.mk.inj (qq0)
          have q2 := qq1
          subst r0
          subst M'
          subst N'
          subst hQ
          refine x_zret (post := (fun H H1 => WH G a M_124 H1 ∧ WH G o N_127 H1 ∧ XF (fun q => (a ≤ q ∧ q < a + 230) ∨ (o ≤ q ∧ q < o + 230)) H H1)) S hr hlocks (by decide) rfl ?_ hL dL_isStep_358
          exact ⟨h_mo, h_mp, hF⟩
    have hf := (if_neg c_116).symm.trans hf
    by_cases c_130 : r_51 = 6
    · have hf := (if_pos c_130).symm.trans hf
      refine x_tin (tgt := 359) (off := 296) S 6 c_130 dL_isStep_63 (by decide) (by decide) (by decide) (by decide) ?_
      refine lv_aload_n hx hb dL_isStep_359 rfl (lv_at hl 0 rfl) ?_
      refine lv_iload_n hx hb dL_isStep_360 rfl (lv_at hl 3 rfl) ?_
      refine lv_bipush (v := 12) hx hb dL_isStep_361 (by decide) ?_
      refine lv_ishr hx hb dL_isStep_363 ?_
      refine lv_bipush (v := 6) hx hb dL_isStep_364 (by decide) ?_
      obtain ⟨r_131, e_132, hf⟩ := xb_some hf
      refine x_callTi (As := [.int (p4 >>> ((12 : Int32) &&& 31)), .int 6]) (rest := [.ref a]) S hK (c_L_up l G z (p4 >>> ((12 : Int32) &&& 31)) 6 r_131 e_132) gL_isStep_L_up rfl 2 (by decide +kernel) rfl ⟨Nat.le_of_ble_eq_true rfl, Nat.le_of_ble_eq_true rfl⟩ rfl hl.1 rfl (Nat.le_of_ble_eq_true rfl) dL_isStep_366 hL ⟨Nat.zero_le _, Nat.zero_le _⟩ (fun H1 locs hL hpost => ?_)
      subst hpost
      refine lv_iload hx hb dL_isStep_369 (lv_at hl 4 rfl) ?_
      obtain ⟨r_133, M_134, e_135, hf⟩ := xb2_some hf
      refine x_callW (As := [.int r_131, .int x_47]) (rest := []) S hKC (fun q hq => hF.2 q (fun h => by (try dsimp only at h); omega)) h_mo (h_X7_lend l G z a M_49 r_131 x_47 r_133 M_134 (by omega) e_135) gL_isStep_X7_lend rfl 2 (by decide +kernel) rfl ⟨Nat.le_of_ble_eq_true rfl, Nat.le_of_ble_eq_true rfl⟩ h_mo hl.1 rfl (Nat.le_of_ble_eq_true rfl) dL_isStep_371 hL ⟨Nat.zero_le _, Nat.zero_le _⟩ (fun H1 locs hL hpost => ?_)
      obtain ⟨n_mo, hfr⟩ := hpost
      have h_mo := n_mo
      have h_mp := h_mp.kept hfr (fun q h1 h2 h3 => by (try dsimp only at h3); omega)
      have hF := hF.step hfr (fun q h => by (try dsimp only at h ⊢); omega)
      refine lv_istore (lv' := [(7, .int r_133), (0, .ref a), (1, .ref o), (2, .int p3), (3, .int p4), (5, .int x_47), (6, .int x_48)]) hx hb dL_isStep_374 hl (by decide) rfl (fun ls hl => ?_)
      refine lv_aload_n hx hb dL_isStep_376 rfl (lv_at hl 2 rfl) ?_
      refine lv_iload_n hx hb dL_isStep_377 rfl (lv_at hl 4 rfl) ?_
      refine lv_bipush (v := 12) hx hb dL_isStep_378 (by decide) ?_
      refine lv_ishr hx hb dL_isStep_380 ?_
      refine lv_bipush (v := 6) hx hb dL_isStep_381 (by decide) ?_
      obtain ⟨r_136, e_137, hf⟩ := xb_some hf
      refine x_callTi (As := [.int (p4 >>> ((12 : Int32) &&& 31)), .int 6]) (rest := [.ref o]) S hK (c_L_up l G z (p4 >>> ((12 : Int32) &&& 31)) 6 r_136 e_137) gL_isStep_L_up rfl 2 (by decide +kernel) rfl ⟨Nat.le_of_ble_eq_true rfl, Nat.le_of_ble_eq_true rfl⟩ rfl hl.1 rfl (Nat.le_of_ble_eq_true rfl) dL_isStep_383 hL ⟨Nat.zero_le _, Nat.zero_le _⟩ (fun H1 locs hL hpost => ?_)
      subst hpost
      refine lv_iload hx hb dL_isStep_386 (lv_at hl 5 rfl) ?_
      obtain ⟨r_138, N_139, e_140, hf⟩ := xb2_some hf
      refine x_callW (As := [.int r_136, .int x_47]) (rest := []) S hKC (fun q hq => hF.2 q (fun h => by (try dsimp only at h); omega)) h_mp (h_X7_lend l G z o N_50 r_136 x_47 r_138 N_139 (by omega) e_140) gL_isStep_X7_lend rfl 2 (by decide +kernel) rfl ⟨Nat.le_of_ble_eq_true rfl, Nat.le_of_ble_eq_true rfl⟩ h_mp hl.1 rfl (Nat.le_of_ble_eq_true rfl) dL_isStep_388 hL ⟨Nat.zero_le _, Nat.zero_le _⟩ (fun H1 locs hL hpost => ?_)
      obtain ⟨n_mo, hfr⟩ := hpost
      have h_mp := n_mo
      have h_mo := h_mo.kept hfr (fun q h1 h2 h3 => by (try dsimp only at h3); omega)
      have hF := hF.step hfr (fun q h => by (try dsimp only at h ⊢); omega)
      refine lv_istore (lv' := [(8, .int r_138), (7, .int r_133), (0, .ref a), (1, .ref o), (2, .int p3), (3, .int p4), (5, .int x_47), (6, .int x_48)]) hx hb dL_isStep_391 hl (by decide) rfl (fun ls hl => ?_)
      refine lv_iload hx hb dL_isStep_393 (lv_at hl 1 rfl) ?_
      refine lv_if_ge (tgt := 413) hx hb dL_isStep_395 (by decide) (fun c_141 => ?_) (fun c_141 => ?_)
      · have hf := (if_pos c_141).symm.trans hf
        refine lv_iload hx hb dL_isStep_413 (lv_at hl 1 rfl) ?_
        refine lv_iload_n hx hb dL_isStep_415 rfl (lv_at hl 4 rfl) ?_
        refine lv_iadd hx hb dL_isStep_416 ?_
        refine lv_iload hx hb dL_isStep_417 (lv_at hl 0 rfl) ?_
        refine lv_icmp_ne (tgt := 426) hx hb dL_isStep_419 (by decide) (fun c_142 => ?_) (fun c_142 => ?_)
        · have hf := (if_neg c_142).symm.trans hf
          refine lv_iconst (v := 0) hx hb dL_isStep_426 (by decide) ?_
          obtain ⟨q0, qq0⟩ := Prod.mk.inj (Option.some.inj hf)
          obtain ⟨q1, qq1⟩ := Prod.mk.inj (qq0)
          have q2 := qq1
          subst r0
          subst M'
          subst N'
          subst hQ
          refine x_zret (post := (fun H H1 => WH G a M_134 H1 ∧ WH G o N_139 H1 ∧ XF (fun q => (a ≤ q ∧ q < a + 230) ∨ (o ≤ q ∧ q < o + 230)) H H1)) S hr hlocks (by decide) rfl ?_ hL dL_isStep_427
          exact ⟨h_mo, h_mp, hF⟩
        · have hf := (if_pos c_142).symm.trans hf
          refine lv_iconst (v := 1) hx hb dL_isStep_422 (by decide) ?_
          refine lv_goto (tgt := 427) hx hb dL_isStep_423 (by decide) ?_
          obtain ⟨q0, qq0⟩ := Prod.mk.inj (Option.some.inj hf)
          obtain ⟨q1, qq1⟩ := Prod.mk.inj (qq0)
          have q2 := qq1
          subst r0
          subst M'
          subst N'
          subst hQ
          refine x_zret (post := (fun H H1 => WH G a M_134 H1 ∧ WH G o N_139 H1 ∧ XF (fun q => (a ≤ q ∧ q < a + 230) ∨ (o ≤ q ∧ q < o + 230)) H H1)) S hr hlocks (by decide) rfl ?_ hL dL_isStep_427
          exact ⟨h_mo, h_mp, hF⟩
      · have hf := (if_neg c_141).symm.trans hf
        refine lv_iload hx hb dL_isStep_398 (lv_at hl 1 rfl) ?_
        refine lv_iload hx hb dL_isStep_400 (lv_at hl 0 rfl) ?_
        refine lv_icmp_ne (tgt := 409) hx hb dL_isStep_402 (by decide) (fun c_143 => ?_) (fun c_143 => ?_)
        · have hf := (if_neg c_143).symm.trans hf
          refine lv_iconst (v := 0) hx hb dL_isStep_409 (by decide) ?_
          refine lv_goto (tgt := 427) hx hb dL_isStep_410 (by decide) ?_
          obtain ⟨q0, qq0⟩ := Prod.mk.inj (Option.some.inj hf)
          obtain ⟨q1, qq1⟩ := Prod.mk.inj (qq0)
          have q2 := qq1
          subst r0
          subst M'
          subst N'
          subst hQ
          refine x_zret (post := (fun H H1 => WH G a M_134 H1 ∧ WH G o N_139 H1 ∧ XF (fun q => (a ≤ q ∧ q < a + 230) ∨ (o ≤ q ∧ q < o + 230)) H H1)) S hr hlocks (by decide) rfl ?_ hL dL_isStep_427
          exact ⟨h_mo, h_mp, hF⟩
        · have hf := (if_pos c_143).symm.trans hf
          refine lv_iconst (v := 1) hx hb dL_isStep_405 (by decide) ?_
          refine lv_goto (tgt := 427) hx hb dL_isStep_406 (by decide) ?_
          obtain ⟨q0, qq0⟩ := Prod.mk.inj (Option.some.inj hf)
          obtain ⟨q1, qq1⟩ := Prod.mk.inj (qq0)
          have q2 := qq1
          subst r0
          subst M'
          subst N'
          subst hQ
          refine x_zret (post := (fun H H1 => WH G a M_134 H1 ∧ WH G o N_139 H1 ∧ XF (fun q => (a ≤ q ∧ q < a + 230) ∨ (o ≤ q ∧ q < o + 230)) H H1)) S hr hlocks (by decide) rfl ?_ hL dL_isStep_427
          exact ⟨h_mo, h_mp, hF⟩
    have hf := (if_neg c_130).symm.trans hf
    by_cases c_144 : r_51 = 7
    · have hf := (if_pos c_144).symm.trans hf
      refine x_tin (tgt := 428) (off := 365) S 7 c_144 dL_isStep_63 (by decide) (by decide) (by decide) (by decide) ?_
      refine lv_aload_n hx hb dL_isStep_428 rfl (lv_at hl 0 rfl) ?_
      refine lv_iload_n hx hb dL_isStep_429 rfl (lv_at hl 3 rfl) ?_
      refine lv_iconst (v := 4) hx hb dL_isStep_430 (by decide) ?_
      refine lv_ishr hx hb dL_isStep_431 ?_
      refine lv_bipush (v := 6) hx hb dL_isStep_432 (by decide) ?_
      obtain ⟨r_145, e_146, hf⟩ := xb_some hf
      refine x_callTi (As := [.int (p4 >>> ((4 : Int32) &&& 31)), .int 6]) (rest := [.ref a]) S hK (c_L_up l G z (p4 >>> ((4 : Int32) &&& 31)) 6 r_145 e_146) gL_isStep_L_up rfl 2 (by decide +kernel) rfl ⟨Nat.le_of_ble_eq_true rfl, Nat.le_of_ble_eq_true rfl⟩ rfl hl.1 rfl (Nat.le_of_ble_eq_true rfl) dL_isStep_434 hL ⟨Nat.zero_le _, Nat.zero_le _⟩ (fun H1 locs hL hpost => ?_)
      subst hpost
      obtain ⟨r_147, M_148, e_149, hf⟩ := xb2_some hf
      refine x_callW (As := [.int r_145]) (rest := []) S hKC (fun q hq => hF.2 q (fun h => by (try dsimp only at h); omega)) h_mo (h_X7_bringBack l G z a M_49 r_145 r_147 M_148 (by omega) e_149) gL_isStep_X7_bringBack rfl 1 (by decide +kernel) rfl ⟨Nat.le_of_ble_eq_true rfl, Nat.le_of_ble_eq_true rfl⟩ h_mo hl.1 rfl (Nat.le_of_ble_eq_true rfl) dL_isStep_437 hL ⟨Nat.zero_le _, Nat.zero_le _⟩ (fun H1 locs hL hpost => ?_)
      obtain ⟨n_mo, hfr⟩ := hpost
      have h_mo := n_mo
      have h_mp := h_mp.kept hfr (fun q h1 h2 h3 => by (try dsimp only at h3); omega)
      have hF := hF.step hfr (fun q h => by (try dsimp only at h ⊢); omega)
      refine lv_aload_n hx hb dL_isStep_440 rfl (lv_at hl 1 rfl) ?_
      refine lv_iload_n hx hb dL_isStep_441 rfl (lv_at hl 3 rfl) ?_
      refine lv_iconst (v := 4) hx hb dL_isStep_442 (by decide) ?_
      refine lv_ishr hx hb dL_isStep_443 ?_
      refine lv_bipush (v := 6) hx hb dL_isStep_444 (by decide) ?_
      obtain ⟨r_150, e_151, hf⟩ := xb_some hf
      refine x_callTi (As := [.int (p4 >>> ((4 : Int32) &&& 31)), .int 6]) (rest := [.ref o, .int r_147]) S hK (c_L_up l G z (p4 >>> ((4 : Int32) &&& 31)) 6 r_150 e_151) gL_isStep_L_up rfl 2 (by decide +kernel) rfl ⟨Nat.le_of_ble_eq_true rfl, Nat.le_of_ble_eq_true rfl⟩ rfl hl.1 rfl (Nat.le_of_ble_eq_true rfl) dL_isStep_446 hL ⟨Nat.zero_le _, Nat.zero_le _⟩ (fun H1 locs hL hpost => ?_)
      subst hpost
      obtain ⟨r_152, N_153, e_154, hf⟩ := xb2_some hf
      refine x_callW (As := [.int r_150]) (rest := [.int r_147]) S hKC (fun q hq => hF.2 q (fun h => by (try dsimp only at h); omega)) h_mp (h_X7_bringBack l G z o N_50 r_150 r_152 N_153 (by omega) e_154) gL_isStep_X7_bringBack rfl 1 (by decide +kernel) rfl ⟨Nat.le_of_ble_eq_true rfl, Nat.le_of_ble_eq_true rfl⟩ h_mp hl.1 rfl (Nat.le_of_ble_eq_true rfl) dL_isStep_449 hL ⟨Nat.zero_le _, Nat.zero_le _⟩ (fun H1 locs hL hpost => ?_)
      obtain ⟨n_mo, hfr⟩ := hpost
      have h_mp := n_mo
      have h_mo := h_mo.kept hfr (fun q h1 h2 h3 => by (try dsimp only at h3); omega)
      have hF := hF.step hfr (fun q h => by (try dsimp only at h ⊢); omega)
      refine lv_icmp_ne (tgt := 459) hx hb dL_isStep_452 (by decide) (fun c_155 => ?_) (fun c_155 => ?_)
      · have hf := (if_neg c_155).symm.trans hf
        refine lv_iconst (v := 0) hx hb dL_isStep_459 (by decide) ?_
        obtain ⟨q0, qq0⟩ := Prod.mk.inj (Option.some.inj hf)
        obtain ⟨q1, qq1⟩ := Prod.mk.inj (qq0)
        have q2 := qq1
        subst r0
        subst M'
        subst N'
        subst hQ
        refine x_zret (post := (fun H H1 => WH G a M_148 H1 ∧ WH G o N_153 H1 ∧ XF (fun q => (a ≤ q ∧ q < a + 230) ∨ (o ≤ q ∧ q < o + 230)) H H1)) S hr hlocks (by decide) rfl ?_ hL dL_isStep_460
        exact ⟨h_mo, h_mp, hF⟩
      · have hf := (if_pos c_155).symm.trans hf
        refine lv_iconst (v := 1) hx hb dL_isStep_455 (by decide) ?_
        refine lv_goto (tgt := 460) hx hb dL_isStep_456 (by decide) ?_
        obtain ⟨q0, qq0⟩ := Prod.mk.inj (Option.some.inj hf)
        obtain ⟨q1, qq1⟩ := Prod.mk.inj (qq0)
        have q2 := qq1
        subst r0
        subst M'
        subst N'
        subst hQ
        refine x_zret (post := (fun H H1 => WH G a M_148 H1 ∧ WH G o N_153 H1 ∧ XF (fun q => (a ≤ q ∧ q < a + 230) ∨ (o ≤ q ∧ q < o + 230)) H H1)) S hr hlocks (by decide) rfl ?_ hL dL_isStep_460
        exact ⟨h_mo, h_mp, hF⟩
    have hf := (if_neg c_144).symm.trans hf
    by_cases c_156 : r_51 = 8
    · have hf := (if_pos c_156).symm.trans hf
      refine x_tin (tgt := 461) (off := 398) S 8 c_156 dL_isStep_63 (by decide) (by decide) (by decide) (by decide) ?_
      refine lv_aload_n hx hb dL_isStep_461 rfl (lv_at hl 0 rfl) ?_
      refine lv_iload hx hb dL_isStep_462 (lv_at hl 5 rfl) ?_
      refine lv_iload_n hx hb dL_isStep_464 rfl (lv_at hl 3 rfl) ?_
      refine lv_bipush (v := 14) hx hb dL_isStep_465 (by decide) ?_
      refine lv_ishr hx hb dL_isStep_467 ?_
      refine lv_iconst (v := 4) hx hb dL_isStep_468 (by decide) ?_
      obtain ⟨r_157, e_158, hf⟩ := xb_some hf
      refine x_callTi (As := [.int (p4 >>> ((14 : Int32) &&& 31)), .int 4]) (rest := [.int x_48, .ref a]) S hK (c_L_up l G z (p4 >>> ((14 : Int32) &&& 31)) 4 r_157 e_158) gL_isStep_L_up rfl 2 (by decide +kernel) rfl ⟨Nat.le_of_ble_eq_true rfl, Nat.le_of_ble_eq_true rfl⟩ rfl hl.1 rfl (Nat.le_of_ble_eq_true rfl) dL_isStep_469 hL ⟨Nat.zero_le _, Nat.zero_le _⟩ (fun H1 locs hL hpost => ?_)
      subst hpost
      obtain ⟨r_159, M_160, e_161, hf⟩ := xb2_some hf
      refine x_callW (As := [.int x_48, .int r_157]) (rest := []) S hKC (fun q hq => hF.2 q (fun h => by (try dsimp only at h); omega)) h_mo (h_X7_report l G z a M_49 x_48 r_157 r_159 M_160 (by omega) e_161) gL_isStep_X7_report rfl 2 (by decide +kernel) rfl ⟨Nat.le_of_ble_eq_true rfl, Nat.le_of_ble_eq_true rfl⟩ h_mo hl.1 rfl (Nat.le_of_ble_eq_true rfl) dL_isStep_472 hL ⟨Nat.zero_le _, Nat.zero_le _⟩ (fun H1 locs hL hpost => ?_)
      obtain ⟨n_mo, hfr⟩ := hpost
      have h_mo := n_mo
      have h_mp := h_mp.kept hfr (fun q h1 h2 h3 => by (try dsimp only at h3); omega)
      have hF := hF.step hfr (fun q h => by (try dsimp only at h ⊢); omega)
      refine lv_aload_n hx hb dL_isStep_475 rfl (lv_at hl 1 rfl) ?_
      refine lv_iload hx hb dL_isStep_476 (lv_at hl 5 rfl) ?_
      refine lv_iload_n hx hb dL_isStep_478 rfl (lv_at hl 3 rfl) ?_
      refine lv_bipush (v := 14) hx hb dL_isStep_479 (by decide) ?_
      refine lv_ishr hx hb dL_isStep_481 ?_
      refine lv_iconst (v := 4) hx hb dL_isStep_482 (by decide) ?_
      obtain ⟨r_162, e_163, hf⟩ := xb_some hf
      refine x_callTi (As := [.int (p4 >>> ((14 : Int32) &&& 31)), .int 4]) (rest := [.int x_48, .ref o, .int r_159]) S hK (c_L_up l G z (p4 >>> ((14 : Int32) &&& 31)) 4 r_162 e_163) gL_isStep_L_up rfl 2 (by decide +kernel) rfl ⟨Nat.le_of_ble_eq_true rfl, Nat.le_of_ble_eq_true rfl⟩ rfl hl.1 rfl (Nat.le_of_ble_eq_true rfl) dL_isStep_483 hL ⟨Nat.zero_le _, Nat.zero_le _⟩ (fun H1 locs hL hpost => ?_)
      subst hpost
      obtain ⟨r_164, N_165, e_166, hf⟩ := xb2_some hf
      refine x_callW (As := [.int x_48, .int r_162]) (rest := [.int r_159]) S hKC (fun q hq => hF.2 q (fun h => by (try dsimp only at h); omega)) h_mp (h_X7_report l G z o N_50 x_48 r_162 r_164 N_165 (by omega) e_166) gL_isStep_X7_report rfl 2 (by decide +kernel) rfl ⟨Nat.le_of_ble_eq_true rfl, Nat.le_of_ble_eq_true rfl⟩ h_mp hl.1 rfl (Nat.le_of_ble_eq_true rfl) dL_isStep_486 hL ⟨Nat.zero_le _, Nat.zero_le _⟩ (fun H1 locs hL hpost => ?_)
      obtain ⟨n_mo, hfr⟩ := hpost
      have h_mp := n_mo
      have h_mo := h_mo.kept hfr (fun q h1 h2 h3 => by (try dsimp only at h3); omega)
      have hF := hF.step hfr (fun q h => by (try dsimp only at h ⊢); omega)
      refine lv_icmp_ne (tgt := 496) hx hb dL_isStep_489 (by decide) (fun c_167 => ?_) (fun c_167 => ?_)
      · have hf := (if_neg c_167).symm.trans hf
        refine lv_iconst (v := 0) hx hb dL_isStep_496 (by decide) ?_
        obtain ⟨q0, qq0⟩ := Prod.mk.inj (Option.some.inj hf)
        obtain ⟨q1, qq1⟩ := Prod.mk.inj (qq0)
        have q2 := qq1
        subst r0
        subst M'
        subst N'
        subst hQ
        refine x_zret (post := (fun H H1 => WH G a M_160 H1 ∧ WH G o N_165 H1 ∧ XF (fun q => (a ≤ q ∧ q < a + 230) ∨ (o ≤ q ∧ q < o + 230)) H H1)) S hr hlocks (by decide) rfl ?_ hL dL_isStep_497
        exact ⟨h_mo, h_mp, hF⟩
      · have hf := (if_pos c_167).symm.trans hf
        refine lv_iconst (v := 1) hx hb dL_isStep_492 (by decide) ?_
        refine lv_goto (tgt := 497) hx hb dL_isStep_493 (by decide) ?_
        obtain ⟨q0, qq0⟩ := Prod.mk.inj (Option.some.inj hf)
        obtain ⟨q1, qq1⟩ := Prod.mk.inj (qq0)
        have q2 := qq1
        subst r0
        subst M'
        subst N'
        subst hQ
        refine x_zret (post := (fun H H1 => WH G a M_160 H1 ∧ WH G o N_165 H1 ∧ XF (fun q => (a ≤ q ∧ q < a + 230) ∨ (o ≤ q ∧ q < o + 230)) H H1)) S hr hlocks (by decide) rfl ?_ hL dL_isStep_497
        exact ⟨h_mo, h_mp, hF⟩
    have hf := (if_neg c_156).symm.trans hf
    by_cases c_168 : r_51 = 9
    · have hf := (if_pos c_168).symm.trans hf
      refine x_tin (tgt := 498) (off := 435) S 9 c_168 dL_isStep_63 (by decide) (by decide) (by decide) (by decide) ?_
      refine lv_aload_n hx hb dL_isStep_498 rfl (lv_at hl 0 rfl) ?_
      refine lv_iload hx hb dL_isStep_499 (lv_at hl 4 rfl) ?_
      obtain ⟨r_169, M_170, e_171, hf⟩ := xb2_some hf
      refine x_callW (As := [.int x_47]) (rest := []) S hKC (fun q hq => hF.2 q (fun h => by (try dsimp only at h); omega)) h_mo (h_X7_settle l G z a M_49 x_47 r_169 M_170 (by omega) e_171) gL_isStep_X7_settle rfl 1 (by decide +kernel) rfl ⟨Nat.le_of_ble_eq_true rfl, Nat.le_of_ble_eq_true rfl⟩ h_mo hl.1 rfl (Nat.le_of_ble_eq_true rfl) dL_isStep_501 hL ⟨Nat.zero_le _, Nat.zero_le _⟩ (fun H1 locs hL hpost => ?_)
      obtain ⟨n_mo, hfr⟩ := hpost
      have h_mo := n_mo
      have h_mp := h_mp.kept hfr (fun q h1 h2 h3 => by (try dsimp only at h3); omega)
      have hF := hF.step hfr (fun q h => by (try dsimp only at h ⊢); omega)
      refine lv_aload_n hx hb dL_isStep_504 rfl (lv_at hl 1 rfl) ?_
      refine lv_iload hx hb dL_isStep_505 (lv_at hl 4 rfl) ?_
      obtain ⟨r_172, N_173, e_174, hf⟩ := xb2_some hf
      refine x_callW (As := [.int x_47]) (rest := [.int r_169]) S hKC (fun q hq => hF.2 q (fun h => by (try dsimp only at h); omega)) h_mp (h_X7_settle l G z o N_50 x_47 r_172 N_173 (by omega) e_174) gL_isStep_X7_settle rfl 1 (by decide +kernel) rfl ⟨Nat.le_of_ble_eq_true rfl, Nat.le_of_ble_eq_true rfl⟩ h_mp hl.1 rfl (Nat.le_of_ble_eq_true rfl) dL_isStep_507 hL ⟨Nat.zero_le _, Nat.zero_le _⟩ (fun H1 locs hL hpost => ?_)
      obtain ⟨n_mo, hfr⟩ := hpost
      have h_mp := n_mo
      have h_mo := h_mo.kept hfr (fun q h1 h2 h3 => by (try dsimp only at h3); omega)
      have hF := hF.step hfr (fun q h => by (try dsimp only at h ⊢); omega)
      refine lv_icmp_ne (tgt := 517) hx hb dL_isStep_510 (by decide) (fun c_175 => ?_) (fun c_175 => ?_)
      · have hf := (if_neg c_175).symm.trans hf
        refine lv_iconst (v := 0) hx hb dL_isStep_517 (by decide) ?_
        obtain ⟨q0, qq0⟩ := Prod.mk.inj (Option.some.inj hf)
        obtain ⟨q1, qq1⟩ := Prod.mk.inj (qq0)
        have q2 := qq1
        subst r0
        subst M'
        subst N'
        subst hQ
        refine x_zret (post := (fun H H1 => WH G a M_170 H1 ∧ WH G o N_173 H1 ∧ XF (fun q => (a ≤ q ∧ q < a + 230) ∨ (o ≤ q ∧ q < o + 230)) H H1)) S hr hlocks (by decide) rfl ?_ hL dL_isStep_518
        exact ⟨h_mo, h_mp, hF⟩
      · have hf := (if_pos c_175).symm.trans hf
        refine lv_iconst (v := 1) hx hb dL_isStep_513 (by decide) ?_
        refine lv_goto (tgt := 518) hx hb dL_isStep_514 (by decide) ?_
        obtain ⟨q0, qq0⟩ := Prod.mk.inj (Option.some.inj hf)
        obtain ⟨q1, qq1⟩ := Prod.mk.inj (qq0)
        have q2 := qq1
        subst r0
        subst M'
        subst N'
        subst hQ
        refine x_zret (post := (fun H H1 => WH G a M_170 H1 ∧ WH G o N_173 H1 ∧ XF (fun q => (a ≤ q ∧ q < a + 230) ∨ (o ≤ q ∧ q < o + 230)) H H1)) S hr hlocks (by decide) rfl ?_ hL dL_isStep_518
        exact ⟨h_mo, h_mp, hF⟩
    have hf := (if_neg c_168).symm.trans hf
    have tc_53 : r_51.toInt ≠ 0 := fun h9 => c_53 (xti (h9.trans (by decide)))
    have tc_70 : r_51.toInt ≠ 1 := fun h9 => c_70 (xti (h9.trans (by decide)))
    have tc_86 : r_51.toInt ≠ 2 := fun h9 => c_86 (xti (h9.trans (by decide)))
    have tc_94 : r_51.toInt ≠ 3 := fun h9 => c_94 (xti (h9.trans (by decide)))
    have tc_102 : r_51.toInt ≠ 4 := fun h9 => c_102 (xti (h9.trans (by decide)))
    have tc_116 : r_51.toInt ≠ 5 := fun h9 => c_116 (xti (h9.trans (by decide)))
    have tc_130 : r_51.toInt ≠ 6 := fun h9 => c_130 (xti (h9.trans (by decide)))
    have tc_144 : r_51.toInt ≠ 7 := fun h9 => c_144 (xti (h9.trans (by decide)))
    have tc_156 : r_51.toInt ≠ 8 := fun h9 => c_156 (xti (h9.trans (by decide)))
    have tc_168 : r_51.toInt ≠ 9 := fun h9 => c_168 (xti (h9.trans (by decide)))
    refine lv_tableOut (tgt := 519) hx hb dL_isStep_63 (by omega) (by decide) ?_
    refine lv_iload_n hx hb dL_isStep_519 rfl (lv_at hl 3 rfl) ?_
    refine lv_bipush (v := 7) hx hb dL_isStep_520 (by decide) ?_
    refine lv_ishr hx hb dL_isStep_522 ?_
    refine lv_bipush (v := 22) hx hb dL_isStep_523 (by decide) ?_
    obtain ⟨r_176, e_177, hf⟩ := xb_some hf
    refine x_callTi (As := [.int (p4 >>> ((7 : Int32) &&& 31)), .int 22]) (rest := []) S hK (c_L_up l G z (p4 >>> ((7 : Int32) &&& 31)) 22 r_176 e_177) gL_isStep_L_up rfl 2 (by decide +kernel) rfl ⟨Nat.le_of_ble_eq_true rfl, Nat.le_of_ble_eq_true rfl⟩ rfl hl.1 rfl (Nat.le_of_ble_eq_true rfl) dL_isStep_525 hL ⟨Nat.zero_le _, Nat.zero_le _⟩ (fun H1 locs hL hpost => ?_)
    subst hpost
    refine lv_istore (lv' := [(7, .int r_176), (0, .ref a), (1, .ref o), (2, .int p3), (3, .int p4), (5, .int x_47), (6, .int x_48)]) hx hb dL_isStep_528 hl (by decide) rfl (fun ls hl => ?_)
    refine lv_bipush (v := 100) hx hb dL_isStep_530 (by decide) ?_
    refine lv_iload hx hb dL_isStep_532 (lv_at hl 0 rfl) ?_
    refine lv_imul hx hb dL_isStep_534 ?_
    refine lv_iload hx hb dL_isStep_535 (lv_at hl 0 rfl) ?_
    refine lv_iadd hx hb dL_isStep_537 ?_
    refine lv_iconst (v := 1) hx hb dL_isStep_538 (by decide) ?_
    refine lv_iadd hx hb dL_isStep_539 ?_
    refine lv_iload_n hx hb dL_isStep_540 rfl (lv_at hl 4 rfl) ?_
    refine lv_bipush (v := 12) hx hb dL_isStep_541 (by decide) ?_
    refine lv_ishr hx hb dL_isStep_543 ?_
    refine lv_iconst (v := 3) hx hb dL_isStep_544 (by decide) ?_
    refine lv_bipush (v := 24) hx hb dL_isStep_545 (by decide) ?_
    refine lv_iload hx hb dL_isStep_547 (lv_at hl 0 rfl) ?_
    refine lv_isub hx hb dL_isStep_549 ?_
    refine lv_icmp_ge (tgt := 557) hx hb dL_isStep_550 (by decide) (fun c_178 => ?_) (fun c_178 => ?_)
    · have hf := (if_pos c_178).symm.trans hf
      refine lv_bipush (v := 24) hx hb dL_isStep_557 (by decide) ?_
      refine lv_iload hx hb dL_isStep_559 (lv_at hl 0 rfl) ?_
      refine lv_isub hx hb dL_isStep_561 ?_
      obtain ⟨r_179, e_180, hf⟩ := xb_some hf
      refine x_callTi (As := [.int (p4 >>> ((12 : Int32) &&& 31)), .int (24 - r_176)]) (rest := [.int (((100 * r_176) + r_176) + 1)]) S hK (c_L_up l G z (p4 >>> ((12 : Int32) &&& 31)) (24 - r_176) r_179 e_180) gL_isStep_L_up rfl 2 (by decide +kernel) rfl ⟨Nat.le_of_ble_eq_true rfl, Nat.le_of_ble_eq_true rfl⟩ rfl hl.1 rfl (Nat.le_of_ble_eq_true rfl) dL_isStep_562 hL ⟨Nat.zero_le _, Nat.zero_le _⟩ (fun H1 locs hL hpost => ?_)
      subst hpost
      refine lv_iadd hx hb dL_isStep_565 ?_
      obtain ⟨x_181, ex_181, hf⟩ := xl_some hf
      refine x_top ex_181 ?_
      refine lv_istore (lv' := [(8, .int x_181), (7, .int r_176), (0, .ref a), (1, .ref o), (2, .int p3), (3, .int p4), (5, .int x_47), (6, .int x_48)]) hx hb dL_isStep_566 hl (by decide) rfl (fun ls hl => ?_)
      exact jp_568 x_181 M_49 N_50 _ _ _ hL h_mo h_mp hF (lv_sub hl [2, 3, 4, 5, 0] rfl) hf
    · have hf := (if_neg c_178).symm.trans hf
      refine lv_iconst (v := 3) hx hb dL_isStep_553 (by decide) ?_
      refine lv_goto (tgt := 562) hx hb dL_isStep_554 (by decide) ?_
      obtain ⟨r_182, e_183, hf⟩ := xb_some hf
      refine x_callTi (As := [.int (p4 >>> ((12 : Int32) &&& 31)), .int 3]) (rest := [.int (((100 * r_176) + r_176) + 1)]) S hK (c_L_up l G z (p4 >>> ((12 : Int32) &&& 31)) 3 r_182 e_183) gL_isStep_L_up rfl 2 (by decide +kernel) rfl ⟨Nat.le_of_ble_eq_true rfl, Nat.le_of_ble_eq_true rfl⟩ rfl hl.1 rfl (Nat.le_of_ble_eq_true rfl) dL_isStep_562 hL ⟨Nat.zero_le _, Nat.zero_le _⟩ (fun H1 locs hL hpost => ?_)
      subst hpost
      refine lv_iadd hx hb dL_isStep_565 ?_
      obtain ⟨x_184, ex_184, hf⟩ := xl_some hf
      refine x_top ex_184 ?_
      refine lv_istore (lv' := [(8, .int x_184), (7, .int r_176), (0, .ref a), (1, .ref o), (2, .int p3), (3, .int p4), (5, .int x_47), (6, .int x_48)]) hx hb dL_isStep_566 hl (by decide) rfl (fun ls hl => ?_)
      exact jp_568 x_184 M_49 N_50 _ _ _ hL h_mo h_mp hF (lv_sub hl [2, 3, 4, 5, 0] rfl) hf
  unfold f_L_isStep at hf
  refine lv_aload_n hx hb dL_isStep_0 rfl (lv_at hl 0 rfl) ?_
  refine lv_iconst (v := 2) hx hb dL_isStep_1 (by decide) ?_
  obtain ⟨r_185, e_186, hf⟩ := xb_some hf
  refine x_callW (As := [.int 2]) (rest := []) S hKC (fun q hq => hF.2 q (fun h => by (try dsimp only at h); omega)) h_mo (h_X7_count l G z a M 2 r_185 e_186) gL_isStep_X7_count rfl 1 (by decide +kernel) rfl ⟨Nat.le_of_ble_eq_true rfl, Nat.le_of_ble_eq_true rfl⟩ h_mo hl.1 rfl (Nat.le_of_ble_eq_true rfl) dL_isStep_2 hL ⟨Nat.zero_le _, Nat.zero_le _⟩ (fun H1 locs hL hpost => ?_)
  subst hpost
  refine lv_istore (lv' := [(4, .int r_185), (0, .ref a), (1, .ref o), (2, .int p3), (3, .int p4)]) hx hb dL_isStep_5 hl (by decide) rfl (fun ls hl => ?_)
  refine lv_iload hx hb dL_isStep_7 (lv_at hl 0 rfl) ?_
  refine lv_if_ne (tgt := 16) hx hb dL_isStep_9 (by decide) (fun c_187 => ?_) (fun c_187 => ?_)
  · have hf := (if_neg c_187).symm.trans hf
    refine lv_iload_n hx hb dL_isStep_16 rfl (lv_at hl 4 rfl) ?_
    refine lv_iconst (v := 4) hx hb dL_isStep_17 (by decide) ?_
    refine lv_ishr hx hb dL_isStep_18 ?_
    refine lv_iload hx hb dL_isStep_19 (lv_at hl 0 rfl) ?_
    obtain ⟨r_188, e_189, hf⟩ := xb_some hf
    refine x_callTi (As := [.int (p4 >>> ((4 : Int32) &&& 31)), .int r_185]) (rest := []) S hK (c_L_up l G z (p4 >>> ((4 : Int32) &&& 31)) r_185 r_188 e_189) gL_isStep_L_up rfl 2 (by decide +kernel) rfl ⟨Nat.le_of_ble_eq_true rfl, Nat.le_of_ble_eq_true rfl⟩ rfl hl.1 rfl (Nat.le_of_ble_eq_true rfl) dL_isStep_21 hL ⟨Nat.zero_le _, Nat.zero_le _⟩ (fun H1 locs hL hpost => ?_)
    subst hpost
    refine lv_istore (lv' := [(5, .int r_188), (4, .int r_185), (0, .ref a), (1, .ref o), (2, .int p3), (3, .int p4)]) hx hb dL_isStep_24 hl (by decide) rfl (fun ls hl => ?_)
    refine lv_bipush (v := 20) hx hb dL_isStep_26 (by decide) ?_
    refine lv_iload hx hb dL_isStep_28 (lv_at hl 0 rfl) ?_
    refine lv_imul hx hb dL_isStep_30 ?_
    refine lv_iload_n hx hb dL_isStep_31 rfl (lv_at hl 5 rfl) ?_
    refine lv_bipush (v := 8) hx hb dL_isStep_32 (by decide) ?_
    refine lv_ishr hx hb dL_isStep_34 ?_
    refine lv_iload hx hb dL_isStep_35 (lv_at hl 1 rfl) ?_
    refine lv_if_ne (tgt := 44) hx hb dL_isStep_37 (by decide) (fun c_190 => ?_) (fun c_190 => ?_)
    · have hf := (if_neg c_190).symm.trans hf
      refine lv_aload_n hx hb dL_isStep_44 rfl (lv_at hl 2 rfl) ?_
      refine lv_iload hx hb dL_isStep_45 (lv_at hl 0 rfl) ?_
      refine lv_iconst (v := 4) hx hb dL_isStep_47 (by decide) ?_
      obtain ⟨r_191, e_192, hf⟩ := xb_some hf
      refine x_callW (As := [.int r_188, .int 4]) (rest := [.int (p4 >>> ((8 : Int32) &&& 31)), .int (20 * r_188)]) S hKC (fun q hq => hF.2 q (fun h => by (try dsimp only at h); omega)) h_mo (h_X7_hireInfo l G z a M r_188 4 r_191 e_192) gL_isStep_X7_hireInfo rfl 2 (by decide +kernel) rfl ⟨Nat.le_of_ble_eq_true rfl, Nat.le_of_ble_eq_true rfl⟩ h_mo hl.1 rfl (Nat.le_of_ble_eq_true rfl) dL_isStep_48 hL ⟨Nat.zero_le _, Nat.zero_le _⟩ (fun H1 locs hL hpost => ?_)
      subst hpost
      obtain ⟨r_193, e_194, hf⟩ := xb_some hf
      refine x_callTi (As := [.int (p4 >>> ((8 : Int32) &&& 31)), .int r_191]) (rest := [.int (20 * r_188)]) S hK (c_L_up l G z (p4 >>> ((8 : Int32) &&& 31)) r_191 r_193 e_194) gL_isStep_L_up rfl 2 (by decide +kernel) rfl ⟨Nat.le_of_ble_eq_true rfl, Nat.le_of_ble_eq_true rfl⟩ rfl hl.1 rfl (Nat.le_of_ble_eq_true rfl) dL_isStep_51 hL ⟨Nat.zero_le _, Nat.zero_le _⟩ (fun H1 locs hL hpost => ?_)
      subst hpost
      refine lv_iadd hx hb dL_isStep_54 ?_
      obtain ⟨x_195, ex_195, hf⟩ := xl_some hf
      refine x_top ex_195 ?_
      refine lv_istore (lv' := [(6, .int x_195), (5, .int r_188), (4, .int r_185), (0, .ref a), (1, .ref o), (2, .int p3), (3, .int p4)]) hx hb dL_isStep_55 hl (by decide) rfl (fun ls hl => ?_)
      exact jp_57 r_188 x_195 M N _ _ _ hL h_mo h_mp hF (lv_sub hl [3, 4, 5, 6, 1, 0] rfl) hf
    · have hf := (if_pos c_190).symm.trans hf
      refine lv_iconst (v := 1) hx hb dL_isStep_40 (by decide) ?_
      refine lv_goto (tgt := 51) hx hb dL_isStep_41 (by decide) ?_
      obtain ⟨r_196, e_197, hf⟩ := xb_some hf
      refine x_callTi (As := [.int (p4 >>> ((8 : Int32) &&& 31)), .int 1]) (rest := [.int (20 * r_188)]) S hK (c_L_up l G z (p4 >>> ((8 : Int32) &&& 31)) 1 r_196 e_197) gL_isStep_L_up rfl 2 (by decide +kernel) rfl ⟨Nat.le_of_ble_eq_true rfl, Nat.le_of_ble_eq_true rfl⟩ rfl hl.1 rfl (Nat.le_of_ble_eq_true rfl) dL_isStep_51 hL ⟨Nat.zero_le _, Nat.zero_le _⟩ (fun H1 locs hL hpost => ?_)
      subst hpost
      refine lv_iadd hx hb dL_isStep_54 ?_
      obtain ⟨x_198, ex_198, hf⟩ := xl_some hf
      refine x_top ex_198 ?_
      refine lv_istore (lv' := [(6, .int x_198), (5, .int r_188), (4, .int r_185), (0, .ref a), (1, .ref o), (2, .int p3), (3, .int p4)]) hx hb dL_isStep_55 hl (by decide) rfl (fun ls hl => ?_)
      exact jp_57 r_188 x_198 M N _ _ _ hL h_mo h_mp hF (lv_sub hl [3, 4, 5, 6, 1, 0] rfl) hf
  · have hf := (if_pos c_187).symm.trans hf
    refine lv_iconst (v := 0) hx hb dL_isStep_12 (by decide) ?_
    refine lv_goto (tgt := 24) hx hb dL_isStep_13 (by decide) ?_
    refine lv_istore (lv' := [(5, .int 0), (4, .int r_185), (0, .ref a), (1, .ref o), (2, .int p3), (3, .int p4)]) hx hb dL_isStep_24 hl (by decide) rfl (fun ls hl => ?_)
    refine lv_bipush (v := 20) hx hb dL_isStep_26 (by decide) ?_
    refine lv_iload hx hb dL_isStep_28 (lv_at hl 0 rfl) ?_
    refine lv_imul hx hb dL_isStep_30 ?_
    refine x_top (x := 0) (by decide) ?_
    refine lv_iload_n hx hb dL_isStep_31 rfl (lv_at hl 5 rfl) ?_
    refine lv_bipush (v := 8) hx hb dL_isStep_32 (by decide) ?_
    refine lv_ishr hx hb dL_isStep_34 ?_
    refine lv_iload hx hb dL_isStep_35 (lv_at hl 1 rfl) ?_
    refine lv_if_ne (tgt := 44) hx hb dL_isStep_37 (by decide) (fun c_199 => ?_) (fun c_199 => ?_)
    · have hf := (if_neg c_199).symm.trans hf
      refine lv_aload_n hx hb dL_isStep_44 rfl (lv_at hl 2 rfl) ?_
      refine lv_iload hx hb dL_isStep_45 (lv_at hl 0 rfl) ?_
      refine lv_iconst (v := 4) hx hb dL_isStep_47 (by decide) ?_
      obtain ⟨r_200, e_201, hf⟩ := xb_some hf
      refine x_callW (As := [.int 0, .int 4]) (rest := [.int (p4 >>> ((8 : Int32) &&& 31)), .int 0]) S hKC (fun q hq => hF.2 q (fun h => by (try dsimp only at h); omega)) h_mo (h_X7_hireInfo l G z a M 0 4 r_200 e_201) gL_isStep_X7_hireInfo rfl 2 (by decide +kernel) rfl ⟨Nat.le_of_ble_eq_true rfl, Nat.le_of_ble_eq_true rfl⟩ h_mo hl.1 rfl (Nat.le_of_ble_eq_true rfl) dL_isStep_48 hL ⟨Nat.zero_le _, Nat.zero_le _⟩ (fun H1 locs hL hpost => ?_)
      subst hpost
      obtain ⟨r_202, e_203, hf⟩ := xb_some hf
      refine x_callTi (As := [.int (p4 >>> ((8 : Int32) &&& 31)), .int r_200]) (rest := [.int 0]) S hK (c_L_up l G z (p4 >>> ((8 : Int32) &&& 31)) r_200 r_202 e_203) gL_isStep_L_up rfl 2 (by decide +kernel) rfl ⟨Nat.le_of_ble_eq_true rfl, Nat.le_of_ble_eq_true rfl⟩ rfl hl.1 rfl (Nat.le_of_ble_eq_true rfl) dL_isStep_51 hL ⟨Nat.zero_le _, Nat.zero_le _⟩ (fun H1 locs hL hpost => ?_)
      subst hpost
      refine lv_iadd hx hb dL_isStep_54 ?_
      obtain ⟨x_204, ex_204, hf⟩ := xl_some hf
      refine x_top ex_204 ?_
      refine lv_istore (lv' := [(6, .int x_204), (5, .int 0), (4, .int r_185), (0, .ref a), (1, .ref o), (2, .int p3), (3, .int p4)]) hx hb dL_isStep_55 hl (by decide) rfl (fun ls hl => ?_)
      exact jp_57 0 x_204 M N _ _ _ hL h_mo h_mp hF (lv_sub hl [3, 4, 5, 6, 1, 0] rfl) hf
    · have hf := (if_pos c_199).symm.trans hf
      refine lv_iconst (v := 1) hx hb dL_isStep_40 (by decide) ?_
      refine lv_goto (tgt := 51) hx hb dL_isStep_41 (by decide) ?_
      obtain ⟨r_205, e_206, hf⟩ := xb_some hf
      refine x_callTi (As := [.int (p4 >>> ((8 : Int32) &&& 31)), .int 1]) (rest := [.int 0]) S hK (c_L_up l G z (p4 >>> ((8 : Int32) &&& 31)) 1 r_205 e_206) gL_isStep_L_up rfl 2 (by decide +kernel) rfl ⟨Nat.le_of_ble_eq_true rfl, Nat.le_of_ble_eq_true rfl⟩ rfl hl.1 rfl (Nat.le_of_ble_eq_true rfl) dL_isStep_51 hL ⟨Nat.zero_le _, Nat.zero_le _⟩ (fun H1 locs hL hpost => ?_)
      subst hpost
      refine lv_iadd hx hb dL_isStep_54 ?_
      obtain ⟨x_207, ex_207, hf⟩ := xl_some hf
      refine x_top ex_207 ?_
      refine lv_istore (lv' := [(6, .int x_207), (5, .int 0), (4, .int r_185), (0, .ref a), (1, .ref o), (2, .int p3), (3, .int p4)]) hx hb dL_isStep_55 hl (by decide) rfl (fun ls hl => ?_)
      exact jp_57 0 x_207 M N _ _ _ hL h_mo h_mp hF (lv_sub hl [3, 4, 5, 6, 1, 0] rfl) hf
set_option maxRecDepth 100000 in
set_option maxHeartbeats 4000000 in
theorem c_L_areAlike (l : Launch) (G : xG) (z : Nat) (a : Nat) (o : Nat) (M : xV) (N : xV) (p3 : Int32) (r0 : Int32)  (hf : f_L_areAlike M N p3 = some r0) : xMc l yL_areAlike wsL_areAlike 4 107 0 0 (KC2 G z) z [.ref a, .ref o, .int p3] (fun H => WH G a M H ∧ WH G o N H) (some (.int r0)) (fun H H1 => H1 = H) := by
  refine xMc.of (cc := cL_areAlike) (maxL := 8) (ret := (some .boolean)) (by decide +kernel) rfl (Nat.le_of_ble_eq_true rfl) ?_
  intro p e s m args below meth c ls Q hQ S hr hlocks hname0 hKC hP hl
  have hK := hKC.1
  obtain ⟨hx, hb, hml, hown, hts⟩ := id S
  obtain ⟨h_mo, h_mp⟩ := hP
  have hL : ∀ q ∈ ([] : List Loc), z ≤ q.base := fun q h => absurd h List.not_mem_nil
  have hl : lv_has ls 8 [(0, .ref a), (1, .ref o), (2, .int p3)] := hl
  have jp_21 : ∀ (x_1 : Int32) (locs : List Loc) (ls : Array Slot), (∀ q ∈ locs, z ≤ q.base) → lv_has ls 8 [(0, .ref a), (1, .ref o), (2, .int p3), (3, .int x_1)] → J_L_areAlike_21 M N p3 x_1 = some r0 → W p l e { frames := 4, cells := 0, slots := 0, locals := 107 } s m args below meth c s.heap locs 0 0 Q (F0 m 21 ls []) := by
    intro x_1 locs ls hL hl hf
    unfold J_L_areAlike_21 at hf
    refine lv_iconst (v := 1) hx hb dL_areAlike_21 (by decide) ?_
    refine lv_istore (lv' := [(4, .int 1), (0, .ref a), (1, .ref o), (2, .int p3), (3, .int x_1)]) hx hb dL_areAlike_22 hl (by decide) rfl (fun ls hl => ?_)
    have lp_24 : ∀ (K_24 : Int32 → Int32 → Option Int32), (∀ (x_2 : Int32) (x_3 : Int32) (locs : List Loc) (ls : Array Slot), (∀ q ∈ locs, z ≤ q.base) → lv_has ls 8 [(0, .ref a), (1, .ref o), (2, .int p3), (3, .int x_2)] → K_24 x_2 x_3 = some r0 → W p l e { frames := 4, cells := 0, slots := 0, locals := 107 } s m args below meth c s.heap locs 0 0 Q (F0 m 69 ls [])) → ∀ (n : Nat) (x_2 : Int32) (x_3 : Int32) (locs : List Loc) (ls : Array Slot), (∀ q ∈ locs, z ≤ q.base) → lv_has ls 8 [(0, .ref a), (1, .ref o), (2, .int p3), (3, .int x_2), (4, .int x_3)] → L_L_areAlike_24 K_24 M N n x_2 x_3 = some r0 → W p l e { frames := 4, cells := 0, slots := 0, locals := 107 } s m args below meth c s.heap locs 0 0 Q (F0 m 24 ls []) := by
      intro K_24 hK_24 n
      induction n with
      | zero =>
        intro x_2 x_3 locs ls hL hl hf
        cases hf
      | succ n ih_24 =>
        intro x_2 x_3 locs ls hL hl hf
        unfold L_L_areAlike_24 at hf
        refine lv_iload hx hb dL_areAlike_24 (lv_at hl 4 rfl) ?_
        refine lv_bipush (v := 29) hx hb dL_areAlike_26 (by decide) ?_
        refine lv_icmp_ge (tgt := 69) hx hb dL_areAlike_28 (by decide) (fun c_4 => ?_) (fun c_4 => ?_)
        · have hf := (if_pos c_4).symm.trans hf
          exact hK_24 x_2 x_3 _ _ hL (lv_sub hl [0, 1, 2, 3] rfl) hf
        · have hf := (if_neg c_4).symm.trans hf
          refine lv_iload_n hx hb dL_areAlike_31 rfl (lv_at hl 3 rfl) ?_
          refine lv_if_eq (tgt := 61) hx hb dL_areAlike_32 (by decide) (fun c_5 => ?_) (fun c_5 => ?_)
          · have hf := (if_pos c_5).symm.trans hf
            refine lv_iconst (v := 0) hx hb dL_areAlike_61 (by decide) ?_
            refine lv_istore_n (lv' := [(3, .int 0), (0, .ref a), (1, .ref o), (2, .int p3), (4, .int x_3)]) hx hb dL_areAlike_62 rfl hl (by decide) rfl (fun ls hl => ?_)
            obtain ⟨x_6, ex_6, hf⟩ := xl_some hf
            refine lv_iinc (v := x_6) (lv' := [(4, .int x_6), (3, .int 0), (0, .ref a), (1, .ref o), (2, .int p3)]) hx hb dL_areAlike_63 hl (k := 4) rfl (by rw [ex_6]; rfl) (by decide) rfl (fun ls hl => ?_)
            refine lv_goto (tgt := 24) hx hb dL_areAlike_66 (by decide) ?_
            exact ih_24 0 x_6 _ _ hL (lv_sub hl [2, 3, 4, 1, 0] rfl) hf
          · have hf := (if_neg c_5).symm.trans hf
            refine lv_iload hx hb dL_areAlike_35 (lv_at hl 4 rfl) ?_
            refine lv_bipush (v := 7) hx hb dL_areAlike_37 (by decide) ?_
            refine lv_icmp_eq (tgt := 57) hx hb dL_areAlike_39 (by decide) (fun c_7 => ?_) (fun c_7 => ?_)
            · have hf := (if_pos c_7).symm.trans hf
              refine lv_iconst (v := 1) hx hb dL_areAlike_57 (by decide) ?_
              refine lv_goto (tgt := 62) hx hb dL_areAlike_58 (by decide) ?_
              refine lv_istore_n (lv' := [(3, .int 1), (0, .ref a), (1, .ref o), (2, .int p3), (4, .int x_3)]) hx hb dL_areAlike_62 rfl hl (by decide) rfl (fun ls hl => ?_)
              obtain ⟨x_8, ex_8, hf⟩ := xl_some hf
              refine lv_iinc (v := x_8) (lv' := [(4, .int x_8), (3, .int 1), (0, .ref a), (1, .ref o), (2, .int p3)]) hx hb dL_areAlike_63 hl (k := 4) rfl (by rw [ex_8]; rfl) (by decide) rfl (fun ls hl => ?_)
              refine lv_goto (tgt := 24) hx hb dL_areAlike_66 (by decide) ?_
              exact ih_24 1 x_8 _ _ hL (lv_sub hl [2, 3, 4, 1, 0] rfl) hf
            · have hf := (if_neg c_7).symm.trans hf
              refine lv_aload_n hx hb dL_areAlike_42 rfl (lv_at hl 0 rfl) ?_
              refine lv_iload hx hb dL_areAlike_43 (lv_at hl 4 rfl) ?_
              obtain ⟨r_9, e_10, hf⟩ := xb_some hf
              refine x_callW (As := [.int x_3]) (rest := []) S hKC (fun _ _ => rfl) h_mo (h_X7_count l G z a M x_3 r_9 e_10) gL_areAlike_X7_count rfl 1 (by decide +kernel) rfl ⟨Nat.le_of_ble_eq_true rfl, Nat.le_of_ble_eq_true rfl⟩ h_mo hl.1 rfl (Nat.le_of_ble_eq_true rfl) dL_areAlike_45 hL ⟨Nat.zero_le _, Nat.zero_le _⟩ (fun H1 locs hL hpost => ?_)
              subst hpost
              refine lv_aload_n hx hb dL_areAlike_48 rfl (lv_at hl 1 rfl) ?_
              refine lv_iload hx hb dL_areAlike_49 (lv_at hl 4 rfl) ?_
              obtain ⟨r_11, e_12, hf⟩ := xb_some hf
              refine x_callW (As := [.int x_3]) (rest := [.int r_9]) S hKC (fun _ _ => rfl) h_mp (h_X7_count l G z o N x_3 r_11 e_12) gL_areAlike_X7_count rfl 1 (by decide +kernel) rfl ⟨Nat.le_of_ble_eq_true rfl, Nat.le_of_ble_eq_true rfl⟩ h_mp hl.1 rfl (Nat.le_of_ble_eq_true rfl) dL_areAlike_51 hL ⟨Nat.zero_le _, Nat.zero_le _⟩ (fun H1 locs hL hpost => ?_)
              subst hpost
              refine lv_icmp_ne (tgt := 61) hx hb dL_areAlike_54 (by decide) (fun c_13 => ?_) (fun c_13 => ?_)
              · have hf := (if_neg c_13).symm.trans hf
                refine lv_iconst (v := 0) hx hb dL_areAlike_61 (by decide) ?_
                refine lv_istore_n (lv' := [(3, .int 0), (0, .ref a), (1, .ref o), (2, .int p3), (4, .int x_3)]) hx hb dL_areAlike_62 rfl hl (by decide) rfl (fun ls hl => ?_)
                obtain ⟨x_14, ex_14, hf⟩ := xl_some hf
                refine lv_iinc (v := x_14) (lv' := [(4, .int x_14), (3, .int 0), (0, .ref a), (1, .ref o), (2, .int p3)]) hx hb dL_areAlike_63 hl (k := 4) rfl (by rw [ex_14]; rfl) (by decide) rfl (fun ls hl => ?_)
                refine lv_goto (tgt := 24) hx hb dL_areAlike_66 (by decide) ?_
                exact ih_24 0 x_14 _ _ hL (lv_sub hl [2, 3, 4, 1, 0] rfl) hf
              · have hf := (if_pos c_13).symm.trans hf
                refine lv_iconst (v := 1) hx hb dL_areAlike_57 (by decide) ?_
                refine lv_goto (tgt := 62) hx hb dL_areAlike_58 (by decide) ?_
                refine lv_istore_n (lv' := [(3, .int 1), (0, .ref a), (1, .ref o), (2, .int p3), (4, .int x_3)]) hx hb dL_areAlike_62 rfl hl (by decide) rfl (fun ls hl => ?_)
                obtain ⟨x_15, ex_15, hf⟩ := xl_some hf
                refine lv_iinc (v := x_15) (lv' := [(4, .int x_15), (3, .int 1), (0, .ref a), (1, .ref o), (2, .int p3)]) hx hb dL_areAlike_63 hl (k := 4) rfl (by rw [ex_15]; rfl) (by decide) rfl (fun ls hl => ?_)
                refine lv_goto (tgt := 24) hx hb dL_areAlike_66 (by decide) ?_
                exact ih_24 1 x_15 _ _ hL (lv_sub hl [2, 3, 4, 1, 0] rfl) hf
    refine lp_24 _ (fun x_16 x_17 locs ls hL hl hf => ?_) 100000 x_1 1 _ _ hL (lv_sub hl [1, 2, 3, 4, 0] rfl) hf
    refine lv_iconst (v := 0) hx hb dL_areAlike_69 (by decide) ?_
    refine lv_istore (lv' := [(4, .int 0), (0, .ref a), (1, .ref o), (2, .int p3), (3, .int x_16)]) hx hb dL_areAlike_70 hl (by decide) rfl (fun ls hl => ?_)
    have lp_72 : ∀ (K_72 : Int32 → Int32 → Option Int32), (∀ (x_18 : Int32) (x_19 : Int32) (locs : List Loc) (ls : Array Slot), (∀ q ∈ locs, z ≤ q.base) → lv_has ls 8 [(0, .ref a), (1, .ref o), (2, .int p3), (3, .int x_18)] → K_72 x_18 x_19 = some r0 → W p l e { frames := 4, cells := 0, slots := 0, locals := 107 } s m args below meth c s.heap locs 0 0 Q (F0 m 129 ls [])) → ∀ (n : Nat) (x_18 : Int32) (x_19 : Int32) (locs : List Loc) (ls : Array Slot), (∀ q ∈ locs, z ≤ q.base) → lv_has ls 8 [(0, .ref a), (1, .ref o), (2, .int p3), (3, .int x_18), (4, .int x_19)] → L_L_areAlike_72 K_72 M N n x_18 x_19 = some r0 → W p l e { frames := 4, cells := 0, slots := 0, locals := 107 } s m args below meth c s.heap locs 0 0 Q (F0 m 72 ls []) := by
      intro K_72 hK_72 n
      induction n with
      | zero =>
        intro x_18 x_19 locs ls hL hl hf
        cases hf
      | succ n ih_72 =>
        intro x_18 x_19 locs ls hL hl hf
        unfold L_L_areAlike_72 at hf
        refine lv_iload hx hb dL_areAlike_72 (lv_at hl 4 rfl) ?_
        refine lv_iconst (v := 3) hx hb dL_areAlike_74 (by decide) ?_
        refine lv_icmp_ge (tgt := 129) hx hb dL_areAlike_75 (by decide) (fun c_20 => ?_) (fun c_20 => ?_)
        · have hf := (if_pos c_20).symm.trans hf
          exact hK_72 x_18 x_19 _ _ hL (lv_sub hl [0, 1, 2, 3] rfl) hf
        · have hf := (if_neg c_20).symm.trans hf
          refine lv_iconst (v := 0) hx hb dL_areAlike_78 (by decide) ?_
          refine lv_istore (lv' := [(5, .int 0), (0, .ref a), (1, .ref o), (2, .int p3), (3, .int x_18), (4, .int x_19)]) hx hb dL_areAlike_79 hl (by decide) rfl (fun ls hl => ?_)
          have lp_81 : ∀ (K_81 : Int32 → Int32 → Option Int32), (∀ (x_21 : Int32) (x_22 : Int32) (locs : List Loc) (ls : Array Slot), (∀ q ∈ locs, z ≤ q.base) → lv_has ls 8 [(0, .ref a), (1, .ref o), (2, .int p3), (3, .int x_21), (4, .int x_19)] → K_81 x_21 x_22 = some r0 → W p l e { frames := 4, cells := 0, slots := 0, locals := 107 } s m args below meth c s.heap locs 0 0 Q (F0 m 123 ls [])) → ∀ (n : Nat) (x_21 : Int32) (x_22 : Int32) (locs : List Loc) (ls : Array Slot), (∀ q ∈ locs, z ≤ q.base) → lv_has ls 8 [(0, .ref a), (1, .ref o), (2, .int p3), (3, .int x_21), (4, .int x_19), (5, .int x_22)] → L_L_areAlike_81 K_81 M N x_19 n x_21 x_22 = some r0 → W p l e { frames := 4, cells := 0, slots := 0, locals := 107 } s m args below meth c s.heap locs 0 0 Q (F0 m 81 ls []) := by
            intro K_81 hK_81 n
            induction n with
            | zero =>
              intro x_21 x_22 locs ls hL hl hf
              cases hf
            | succ n ih_81 =>
              intro x_21 x_22 locs ls hL hl hf
              unfold L_L_areAlike_81 at hf
              refine lv_iload hx hb dL_areAlike_81 (lv_at hl 5 rfl) ?_
              refine lv_bipush (v := 7) hx hb dL_areAlike_83 (by decide) ?_
              refine lv_icmp_ge (tgt := 123) hx hb dL_areAlike_85 (by decide) (fun c_23 => ?_) (fun c_23 => ?_)
              · have hf := (if_pos c_23).symm.trans hf
                exact hK_81 x_21 x_22 _ _ hL (lv_sub hl [0, 1, 2, 3, 4] rfl) hf
              · have hf := (if_neg c_23).symm.trans hf
                refine lv_iload_n hx hb dL_areAlike_88 rfl (lv_at hl 3 rfl) ?_
                refine lv_if_eq (tgt := 115) hx hb dL_areAlike_89 (by decide) (fun c_24 => ?_) (fun c_24 => ?_)
                · have hf := (if_pos c_24).symm.trans hf
                  refine lv_iconst (v := 0) hx hb dL_areAlike_115 (by decide) ?_
                  refine lv_istore_n (lv' := [(3, .int 0), (0, .ref a), (1, .ref o), (2, .int p3), (4, .int x_19), (5, .int x_22)]) hx hb dL_areAlike_116 rfl hl (by decide) rfl (fun ls hl => ?_)
                  obtain ⟨x_25, ex_25, hf⟩ := xl_some hf
                  refine lv_iinc (v := x_25) (lv' := [(5, .int x_25), (3, .int 0), (0, .ref a), (1, .ref o), (2, .int p3), (4, .int x_19)]) hx hb dL_areAlike_117 hl (k := 5) rfl (by rw [ex_25]; rfl) (by decide) rfl (fun ls hl => ?_)
                  refine lv_goto (tgt := 81) hx hb dL_areAlike_120 (by decide) ?_
                  exact ih_81 0 x_25 _ _ hL (lv_sub hl [2, 3, 4, 1, 5, 0] rfl) hf
                · have hf := (if_neg c_24).symm.trans hf
                  refine lv_aload_n hx hb dL_areAlike_92 rfl (lv_at hl 0 rfl) ?_
                  refine lv_iload hx hb dL_areAlike_93 (lv_at hl 4 rfl) ?_
                  refine lv_iload hx hb dL_areAlike_95 (lv_at hl 5 rfl) ?_
                  obtain ⟨r_26, e_27, hf⟩ := xb_some hf
                  refine x_callW (As := [.int x_19, .int x_22]) (rest := []) S hKC (fun _ _ => rfl) h_mo (h_X7_hirer l G z a M x_19 x_22 r_26 e_27) gL_areAlike_X7_hirer rfl 2 (by decide +kernel) rfl ⟨Nat.le_of_ble_eq_true rfl, Nat.le_of_ble_eq_true rfl⟩ h_mo hl.1 rfl (Nat.le_of_ble_eq_true rfl) dL_areAlike_97 hL ⟨Nat.zero_le _, Nat.zero_le _⟩ (fun H1 locs hL hpost => ?_)
                  subst hpost
                  refine lv_aload_n hx hb dL_areAlike_100 rfl (lv_at hl 1 rfl) ?_
                  refine lv_iload hx hb dL_areAlike_101 (lv_at hl 4 rfl) ?_
                  refine lv_iload hx hb dL_areAlike_103 (lv_at hl 5 rfl) ?_
                  obtain ⟨r_28, e_29, hf⟩ := xb_some hf
                  refine x_callW (As := [.int x_19, .int x_22]) (rest := [.int r_26]) S hKC (fun _ _ => rfl) h_mp (h_X7_hirer l G z o N x_19 x_22 r_28 e_29) gL_areAlike_X7_hirer rfl 2 (by decide +kernel) rfl ⟨Nat.le_of_ble_eq_true rfl, Nat.le_of_ble_eq_true rfl⟩ h_mp hl.1 rfl (Nat.le_of_ble_eq_true rfl) dL_areAlike_105 hL ⟨Nat.zero_le _, Nat.zero_le _⟩ (fun H1 locs hL hpost => ?_)
                  subst hpost
                  refine lv_icmp_ne (tgt := 115) hx hb dL_areAlike_108 (by decide) (fun c_30 => ?_) (fun c_30 => ?_)
                  · have hf := (if_neg c_30).symm.trans hf
                    refine lv_iconst (v := 0) hx hb dL_areAlike_115 (by decide) ?_
                    refine lv_istore_n (lv' := [(3, .int 0), (0, .ref a), (1, .ref o), (2, .int p3), (4, .int x_19), (5, .int x_22)]) hx hb dL_areAlike_116 rfl hl (by decide) rfl (fun ls hl => ?_)
                    obtain ⟨x_31, ex_31, hf⟩ := xl_some hf
                    refine lv_iinc (v := x_31) (lv' := [(5, .int x_31), (3, .int 0), (0, .ref a), (1, .ref o), (2, .int p3), (4, .int x_19)]) hx hb dL_areAlike_117 hl (k := 5) rfl (by rw [ex_31]; rfl) (by decide) rfl (fun ls hl => ?_)
                    refine lv_goto (tgt := 81) hx hb dL_areAlike_120 (by decide) ?_
                    exact ih_81 0 x_31 _ _ hL (lv_sub hl [2, 3, 4, 1, 5, 0] rfl) hf
                  · have hf := (if_pos c_30).symm.trans hf
                    refine lv_iconst (v := 1) hx hb dL_areAlike_111 (by decide) ?_
                    refine lv_goto (tgt := 116) hx hb dL_areAlike_112 (by decide) ?_
                    refine lv_istore_n (lv' := [(3, .int 1), (0, .ref a), (1, .ref o), (2, .int p3), (4, .int x_19), (5, .int x_22)]) hx hb dL_areAlike_116 rfl hl (by decide) rfl (fun ls hl => ?_)
                    obtain ⟨x_32, ex_32, hf⟩ := xl_some hf
                    refine lv_iinc (v := x_32) (lv' := [(5, .int x_32), (3, .int 1), (0, .ref a), (1, .ref o), (2, .int p3), (4, .int x_19)]) hx hb dL_areAlike_117 hl (k := 5) rfl (by rw [ex_32]; rfl) (by decide) rfl (fun ls hl => ?_)
                    refine lv_goto (tgt := 81) hx hb dL_areAlike_120 (by decide) ?_
                    exact ih_81 1 x_32 _ _ hL (lv_sub hl [2, 3, 4, 1, 5, 0] rfl) hf
          refine lp_81 _ (fun x_33 x_34 locs ls hL hl hf => ?_) 100000 x_18 0 _ _ hL (lv_sub hl [1, 2, 3, 4, 5, 0] rfl) hf
          obtain ⟨x_35, ex_35, hf⟩ := xl_some hf
          refine lv_iinc (v := x_35) (lv' := [(4, .int x_35), (0, .ref a), (1, .ref o), (2, .int p3), (3, .int x_33)]) hx hb dL_areAlike_123 hl (k := 4) rfl (by rw [ex_35]; rfl) (by decide) rfl (fun ls hl => ?_)
          refine lv_goto (tgt := 72) hx hb dL_areAlike_126 (by decide) ?_
          exact ih_72 x_33 x_35 _ _ hL (lv_sub hl [1, 2, 3, 4, 0] rfl) hf
    refine lp_72 _ (fun x_36 x_37 locs ls hL hl hf => ?_) 100000 x_16 0 _ _ hL (lv_sub hl [1, 2, 3, 4, 0] rfl) hf
    refine lv_iconst (v := 0) hx hb dL_areAlike_129 (by decide) ?_
    refine lv_istore (lv' := [(4, .int 0), (0, .ref a), (1, .ref o), (2, .int p3), (3, .int x_36)]) hx hb dL_areAlike_130 hl (by decide) rfl (fun ls hl => ?_)
    have lp_132 : ∀ (K_132 : Int32 → Int32 → Option Int32), (∀ (x_38 : Int32) (x_39 : Int32) (locs : List Loc) (ls : Array Slot), (∀ q ∈ locs, z ≤ q.base) → lv_has ls 8 [(3, .int x_38)] → K_132 x_38 x_39 = some r0 → W p l e { frames := 4, cells := 0, slots := 0, locals := 107 } s m args below meth c s.heap locs 0 0 Q (F0 m 377 ls [])) → ∀ (n : Nat) (x_38 : Int32) (x_39 : Int32) (locs : List Loc) (ls : Array Slot), (∀ q ∈ locs, z ≤ q.base) → lv_has ls 8 [(0, .ref a), (1, .ref o), (2, .int p3), (3, .int x_38), (4, .int x_39)] → L_L_areAlike_132 K_132 M N p3 n x_38 x_39 = some r0 → W p l e { frames := 4, cells := 0, slots := 0, locals := 107 } s m args below meth c s.heap locs 0 0 Q (F0 m 132 ls []) := by
      intro K_132 hK_132 n
      induction n with
      | zero =>
        intro x_38 x_39 locs ls hL hl hf
        cases hf
      | succ n ih_132 =>
        intro x_38 x_39 locs ls hL hl hf
        unfold L_L_areAlike_132 at hf
        refine lv_iload hx hb dL_areAlike_132 (lv_at hl 4 rfl) ?_
        refine lv_aload_n hx hb dL_areAlike_134 rfl (lv_at hl 0 rfl) ?_
        refine lv_iconst (v := 2) hx hb dL_areAlike_135 (by decide) ?_
        obtain ⟨r_40, e_41, hf⟩ := xb_some hf
        refine x_callW (As := [.int 2]) (rest := [.int x_39]) S hKC (fun _ _ => rfl) h_mo (h_X7_count l G z a M 2 r_40 e_41) gL_areAlike_X7_count rfl 1 (by decide +kernel) rfl ⟨Nat.le_of_ble_eq_true rfl, Nat.le_of_ble_eq_true rfl⟩ h_mo hl.1 rfl (Nat.le_of_ble_eq_true rfl) dL_areAlike_136 hL ⟨Nat.zero_le _, Nat.zero_le _⟩ (fun H1 locs hL hpost => ?_)
        subst hpost
        refine lv_icmp_ge (tgt := 377) hx hb dL_areAlike_139 (by decide) (fun c_42 => ?_) (fun c_42 => ?_)
        · have hf := (if_pos c_42).symm.trans hf
          exact hK_132 x_38 x_39 _ _ hL (lv_sub hl [3] rfl) hf
        · have hf := (if_neg c_42).symm.trans hf
          refine lv_iload_n hx hb dL_areAlike_142 rfl (lv_at hl 3 rfl) ?_
          refine lv_if_eq (tgt := 377) hx hb dL_areAlike_143 (by decide) (fun c_43 => ?_) (fun c_43 => ?_)
          · have hf := (if_pos c_43).symm.trans hf
            exact hK_132 x_38 x_39 _ _ hL (lv_sub hl [3] rfl) hf
          · have hf := (if_neg c_43).symm.trans hf
            refine lv_iconst (v := 0) hx hb dL_areAlike_146 (by decide) ?_
            refine lv_istore (lv' := [(5, .int 0), (0, .ref a), (1, .ref o), (2, .int p3), (3, .int x_38), (4, .int x_39)]) hx hb dL_areAlike_147 hl (by decide) rfl (fun ls hl => ?_)
            have lp_149 : ∀ (K_149 : Int32 → Int32 → Option Int32), (∀ (x_44 : Int32) (x_45 : Int32) (locs : List Loc) (ls : Array Slot), (∀ q ∈ locs, z ≤ q.base) → lv_has ls 8 [(0, .ref a), (1, .ref o), (2, .int p3), (3, .int x_44), (4, .int x_39)] → K_149 x_44 x_45 = some r0 → W p l e { frames := 4, cells := 0, slots := 0, locals := 107 } s m args below meth c s.heap locs 0 0 Q (F0 m 203 ls [])) → ∀ (n : Nat) (x_44 : Int32) (x_45 : Int32) (locs : List Loc) (ls : Array Slot), (∀ q ∈ locs, z ≤ q.base) → lv_has ls 8 [(0, .ref a), (1, .ref o), (2, .int p3), (3, .int x_44), (4, .int x_39), (5, .int x_45)] → L_L_areAlike_149 K_149 M N p3 x_39 n x_44 x_45 = some r0 → W p l e { frames := 4, cells := 0, slots := 0, locals := 107 } s m args below meth c s.heap locs 0 0 Q (F0 m 149 ls []) := by
              intro K_149 hK_149 n
              induction n with
              | zero =>
                intro x_44 x_45 locs ls hL hl hf
                cases hf
              | succ n ih_149 =>
                intro x_44 x_45 locs ls hL hl hf
                unfold L_L_areAlike_149 at hf
                refine lv_iload hx hb dL_areAlike_149 (lv_at hl 5 rfl) ?_
                refine lv_bipush (v := 16) hx hb dL_areAlike_151 (by decide) ?_
                refine lv_icmp_ge (tgt := 203) hx hb dL_areAlike_153 (by decide) (fun c_46 => ?_) (fun c_46 => ?_)
                · have hf := (if_pos c_46).symm.trans hf
                  exact hK_149 x_44 x_45 _ _ hL (lv_sub hl [0, 1, 2, 3, 4] rfl) hf
                · have hf := (if_neg c_46).symm.trans hf
                  refine lv_iload_n hx hb dL_areAlike_156 rfl (lv_at hl 3 rfl) ?_
                  refine lv_if_eq (tgt := 195) hx hb dL_areAlike_157 (by decide) (fun c_47 => ?_) (fun c_47 => ?_)
                  · have hf := (if_pos c_47).symm.trans hf
                    refine lv_iconst (v := 0) hx hb dL_areAlike_195 (by decide) ?_
                    refine lv_istore_n (lv' := [(3, .int 0), (0, .ref a), (1, .ref o), (2, .int p3), (4, .int x_39), (5, .int x_45)]) hx hb dL_areAlike_196 rfl hl (by decide) rfl (fun ls hl => ?_)
                    obtain ⟨x_48, ex_48, hf⟩ := xl_some hf
                    refine lv_iinc (v := x_48) (lv' := [(5, .int x_48), (3, .int 0), (0, .ref a), (1, .ref o), (2, .int p3), (4, .int x_39)]) hx hb dL_areAlike_197 hl (k := 5) rfl (by rw [ex_48]; rfl) (by decide) rfl (fun ls hl => ?_)
                    refine lv_goto (tgt := 149) hx hb dL_areAlike_200 (by decide) ?_
                    exact ih_149 0 x_48 _ _ hL (lv_sub hl [2, 3, 4, 1, 5, 0] rfl) hf
                  · have hf := (if_neg c_47).symm.trans hf
                    refine lv_aload_n hx hb dL_areAlike_160 rfl (lv_at hl 0 rfl) ?_
                    refine lv_iload hx hb dL_areAlike_161 (lv_at hl 4 rfl) ?_
                    refine lv_iload hx hb dL_areAlike_163 (lv_at hl 5 rfl) ?_
                    obtain ⟨r_49, e_50, hf⟩ := xb_some hf
                    refine x_callW (As := [.int x_39, .int x_45]) (rest := []) S hKC (fun _ _ => rfl) h_mo (h_X7_hireInfo l G z a M x_39 x_45 r_49 e_50) gL_areAlike_X7_hireInfo rfl 2 (by decide +kernel) rfl ⟨Nat.le_of_ble_eq_true rfl, Nat.le_of_ble_eq_true rfl⟩ h_mo hl.1 rfl (Nat.le_of_ble_eq_true rfl) dL_areAlike_165 hL ⟨Nat.zero_le _, Nat.zero_le _⟩ (fun H1 locs hL hpost => ?_)
                    subst hpost
                    refine lv_iload hx hb dL_areAlike_168 (lv_at hl 5 rfl) ?_
                    refine lv_iconst (v := 5) hx hb dL_areAlike_170 (by decide) ?_
                    refine lv_icmp_ne (tgt := 178) hx hb dL_areAlike_171 (by decide) (fun c_51 => ?_) (fun c_51 => ?_)
                    · have hf := (if_neg c_51).symm.trans hf
                      refine lv_iconst (v := 0) hx hb dL_areAlike_178 (by decide) ?_
                      refine lv_iadd hx hb dL_areAlike_179 ?_
                      refine lv_aload_n hx hb dL_areAlike_180 rfl (lv_at hl 1 rfl) ?_
                      refine lv_iload hx hb dL_areAlike_181 (lv_at hl 4 rfl) ?_
                      refine lv_iload hx hb dL_areAlike_183 (lv_at hl 5 rfl) ?_
                      obtain ⟨r_52, e_53, hf⟩ := xb_some hf
                      refine x_callW (As := [.int x_39, .int x_45]) (rest := [.int (r_49 + 0)]) S hKC (fun _ _ => rfl) h_mp (h_X7_hireInfo l G z o N x_39 x_45 r_52 e_53) gL_areAlike_X7_hireInfo rfl 2 (by decide +kernel) rfl ⟨Nat.le_of_ble_eq_true rfl, Nat.le_of_ble_eq_true rfl⟩ h_mp hl.1 rfl (Nat.le_of_ble_eq_true rfl) dL_areAlike_185 hL ⟨Nat.zero_le _, Nat.zero_le _⟩ (fun H1 locs hL hpost => ?_)
                      subst hpost
                      refine lv_icmp_ne (tgt := 195) hx hb dL_areAlike_188 (by decide) (fun c_54 => ?_) (fun c_54 => ?_)
                      · have hf := (if_neg c_54).symm.trans hf
                        refine lv_iconst (v := 0) hx hb dL_areAlike_195 (by decide) ?_
                        refine lv_istore_n (lv' := [(3, .int 0), (0, .ref a), (1, .ref o), (2, .int p3), (4, .int x_39), (5, .int x_45)]) hx hb dL_areAlike_196 rfl hl (by decide) rfl (fun ls hl => ?_)
                        obtain ⟨x_55, ex_55, hf⟩ := xl_some hf
                        refine lv_iinc (v := x_55) (lv' := [(5, .int x_55), (3, .int 0), (0, .ref a), (1, .ref o), (2, .int p3), (4, .int x_39)]) hx hb dL_areAlike_197 hl (k := 5) rfl (by rw [ex_55]; rfl) (by decide) rfl (fun ls hl => ?_)
                        refine lv_goto (tgt := 149) hx hb dL_areAlike_200 (by decide) ?_
                        exact ih_149 0 x_55 _ _ hL (lv_sub hl [2, 3, 4, 1, 5, 0] rfl) hf
                      · have hf := (if_pos c_54).symm.trans hf
                        refine lv_iconst (v := 1) hx hb dL_areAlike_191 (by decide) ?_
                        refine lv_goto (tgt := 196) hx hb dL_areAlike_192 (by decide) ?_
                        refine lv_istore_n (lv' := [(3, .int 1), (0, .ref a), (1, .ref o), (2, .int p3), (4, .int x_39), (5, .int x_45)]) hx hb dL_areAlike_196 rfl hl (by decide) rfl (fun ls hl => ?_)
                        obtain ⟨x_56, ex_56, hf⟩ := xl_some hf
                        refine lv_iinc (v := x_56) (lv' := [(5, .int x_56), (3, .int 1), (0, .ref a), (1, .ref o), (2, .int p3), (4, .int x_39)]) hx hb dL_areAlike_197 hl (k := 5) rfl (by rw [ex_56]; rfl) (by decide) rfl (fun ls hl => ?_)
                        refine lv_goto (tgt := 149) hx hb dL_areAlike_200 (by decide) ?_
                        exact ih_149 1 x_56 _ _ hL (lv_sub hl [2, 3, 4, 1, 5, 0] rfl) hf
                    · have hf := (if_pos c_51).symm.trans hf
                      refine lv_iload_n hx hb dL_areAlike_174 rfl (lv_at hl 2 rfl) ?_
                      refine lv_goto (tgt := 179) hx hb dL_areAlike_175 (by decide) ?_
                      refine lv_iadd hx hb dL_areAlike_179 ?_
                      refine lv_aload_n hx hb dL_areAlike_180 rfl (lv_at hl 1 rfl) ?_
                      refine lv_iload hx hb dL_areAlike_181 (lv_at hl 4 rfl) ?_
                      refine lv_iload hx hb dL_areAlike_183 (lv_at hl 5 rfl) ?_
                      obtain ⟨r_57, e_58, hf⟩ := xb_some hf
                      refine x_callW (As := [.int x_39, .int x_45]) (rest := [.int (r_49 + p3)]) S hKC (fun _ _ => rfl) h_mp (h_X7_hireInfo l G z o N x_39 x_45 r_57 e_58) gL_areAlike_X7_hireInfo rfl 2 (by decide +kernel) rfl ⟨Nat.le_of_ble_eq_true rfl, Nat.le_of_ble_eq_true rfl⟩ h_mp hl.1 rfl (Nat.le_of_ble_eq_true rfl) dL_areAlike_185 hL ⟨Nat.zero_le _, Nat.zero_le _⟩ (fun H1 locs hL hpost => ?_)
                      subst hpost
                      refine lv_icmp_ne (tgt := 195) hx hb dL_areAlike_188 (by decide) (fun c_59 => ?_) (fun c_59 => ?_)
                      · have hf := (if_neg c_59).symm.trans hf
                        refine lv_iconst (v := 0) hx hb dL_areAlike_195 (by decide) ?_
                        refine lv_istore_n (lv' := [(3, .int 0), (0, .ref a), (1, .ref o), (2, .int p3), (4, .int x_39), (5, .int x_45)]) hx hb dL_areAlike_196 rfl hl (by decide) rfl (fun ls hl => ?_)
                        obtain ⟨x_60, ex_60, hf⟩ := xl_some hf
                        refine lv_iinc (v := x_60) (lv' := [(5, .int x_60), (3, .int 0), (0, .ref a), (1, .ref o), (2, .int p3), (4, .int x_39)]) hx hb dL_areAlike_197 hl (k := 5) rfl (by rw [ex_60]; rfl) (by decide) rfl (fun ls hl => ?_)
                        refine lv_goto (tgt := 149) hx hb dL_areAlike_200 (by decide) ?_
                        exact ih_149 0 x_60 _ _ hL (lv_sub hl [2, 3, 4, 1, 5, 0] rfl) hf
                      · have hf := (if_pos c_59).symm.trans hf
                        refine lv_iconst (v := 1) hx hb dL_areAlike_191 (by decide) ?_
                        refine lv_goto (tgt := 196) hx hb dL_areAlike_192 (by decide) ?_
                        refine lv_istore_n (lv' := [(3, .int 1), (0, .ref a), (1, .ref o), (2, .int p3), (4, .int x_39), (5, .int x_45)]) hx hb dL_areAlike_196 rfl hl (by decide) rfl (fun ls hl => ?_)
                        obtain ⟨x_61, ex_61, hf⟩ := xl_some hf
                        refine lv_iinc (v := x_61) (lv' := [(5, .int x_61), (3, .int 1), (0, .ref a), (1, .ref o), (2, .int p3), (4, .int x_39)]) hx hb dL_areAlike_197 hl (k := 5) rfl (by rw [ex_61]; rfl) (by decide) rfl (fun ls hl => ?_)
                        refine lv_goto (tgt := 149) hx hb dL_areAlike_200 (by decide) ?_
                        exact ih_149 1 x_61 _ _ hL (lv_sub hl [2, 3, 4, 1, 5, 0] rfl) hf
            refine lp_149 _ (fun x_62 x_63 locs ls hL hl hf => ?_) 100000 x_38 0 _ _ hL (lv_sub hl [1, 2, 3, 4, 5, 0] rfl) hf
            refine lv_iconst (v := 0) hx hb dL_areAlike_203 (by decide) ?_
            refine lv_istore (lv' := [(5, .int 0), (0, .ref a), (1, .ref o), (2, .int p3), (3, .int x_62), (4, .int x_39)]) hx hb dL_areAlike_204 hl (by decide) rfl (fun ls hl => ?_)
            refine lv_iconst (v := 0) hx hb dL_areAlike_206 (by decide) ?_
            refine lv_istore (lv' := [(6, .int 0), (5, .int 0), (0, .ref a), (1, .ref o), (2, .int p3), (3, .int x_62), (4, .int x_39)]) hx hb dL_areAlike_207 hl (by decide) rfl (fun ls hl => ?_)
            have lp_209 : ∀ (K_209 : Int32 → Int32 → Int32 → Option Int32), (∀ (x_64 : Int32) (x_65 : Int32) (x_66 : Int32) (locs : List Loc) (ls : Array Slot), (∀ q ∈ locs, z ≤ q.base) → lv_has ls 8 [(0, .ref a), (1, .ref o), (2, .int p3), (3, .int x_64), (4, .int x_39), (5, .int x_65)] → K_209 x_64 x_65 x_66 = some r0 → W p l e { frames := 4, cells := 0, slots := 0, locals := 107 } s m args below meth c s.heap locs 0 0 Q (F0 m 312 ls [])) → ∀ (n : Nat) (x_64 : Int32) (x_65 : Int32) (x_66 : Int32) (locs : List Loc) (ls : Array Slot), (∀ q ∈ locs, z ≤ q.base) → lv_has ls 8 [(0, .ref a), (1, .ref o), (2, .int p3), (3, .int x_64), (4, .int x_39), (5, .int x_65), (6, .int x_66)] → L_L_areAlike_209 K_209 M N p3 x_39 n x_64 x_65 x_66 = some r0 → W p l e { frames := 4, cells := 0, slots := 0, locals := 107 } s m args below meth c s.heap locs 0 0 Q (F0 m 209 ls []) := by
              intro K_209 hK_209 n
              induction n with
              | zero =>
                intro x_64 x_65 x_66 locs ls hL hl hf
                cases hf
              | succ n ih_209 =>
                intro x_64 x_65 x_66 locs ls hL hl hf
                unfold L_L_areAlike_209 at hf
                refine lv_iload hx hb dL_areAlike_209 (lv_at hl 6 rfl) ?_
                refine lv_aload_n hx hb dL_areAlike_211 rfl (lv_at hl 0 rfl) ?_
                refine lv_iload hx hb dL_areAlike_212 (lv_at hl 4 rfl) ?_
                refine lv_iconst (v := 4) hx hb dL_areAlike_214 (by decide) ?_
                obtain ⟨r_67, e_68, hf⟩ := xb_some hf
                refine x_callW (As := [.int x_39, .int 4]) (rest := [.int x_66]) S hKC (fun _ _ => rfl) h_mo (h_X7_hireInfo l G z a M x_39 4 r_67 e_68) gL_areAlike_X7_hireInfo rfl 2 (by decide +kernel) rfl ⟨Nat.le_of_ble_eq_true rfl, Nat.le_of_ble_eq_true rfl⟩ h_mo hl.1 rfl (Nat.le_of_ble_eq_true rfl) dL_areAlike_215 hL ⟨Nat.zero_le _, Nat.zero_le _⟩ (fun H1 locs hL hpost => ?_)
                subst hpost
                refine lv_icmp_ge (tgt := 312) hx hb dL_areAlike_218 (by decide) (fun c_69 => ?_) (fun c_69 => ?_)
                · have hf := (if_pos c_69).symm.trans hf
                  exact hK_209 x_64 x_65 x_66 _ _ hL (lv_sub hl [0, 1, 2, 3, 4, 5] rfl) hf
                · have hf := (if_neg c_69).symm.trans hf
                  refine lv_bipush (v := 20) hx hb dL_areAlike_221 (by decide) ?_
                  refine lv_iload hx hb dL_areAlike_223 (lv_at hl 4 rfl) ?_
                  refine lv_imul hx hb dL_areAlike_225 ?_
                  refine lv_iload hx hb dL_areAlike_226 (lv_at hl 6 rfl) ?_
                  refine lv_iadd hx hb dL_areAlike_228 ?_
                  obtain ⟨x_70, ex_70, hf⟩ := xl_some hf
                  refine x_top ex_70 ?_
                  refine lv_istore (lv' := [(7, .int x_70), (0, .ref a), (1, .ref o), (2, .int p3), (3, .int x_64), (4, .int x_39), (5, .int x_65), (6, .int x_66)]) hx hb dL_areAlike_229 hl (by decide) rfl (fun ls hl => ?_)
                  refine lv_iload hx hb dL_areAlike_231 (lv_at hl 6 rfl) ?_
                  refine lv_aload_n hx hb dL_areAlike_233 rfl (lv_at hl 1 rfl) ?_
                  refine lv_iload hx hb dL_areAlike_234 (lv_at hl 0 rfl) ?_
                  refine lv_iconst (v := 2) hx hb dL_areAlike_236 (by decide) ?_
                  obtain ⟨r_71, e_72, hf⟩ := xb_some hf
                  refine x_callW (As := [.int x_70, .int 2]) (rest := [.int x_65]) S hKC (fun _ _ => rfl) h_mo (h_X7_session l G z a M x_70 2 r_71 e_72) gL_areAlike_X7_session rfl 2 (by decide +kernel) rfl ⟨Nat.le_of_ble_eq_true rfl, Nat.le_of_ble_eq_true rfl⟩ h_mo hl.1 rfl (Nat.le_of_ble_eq_true rfl) dL_areAlike_237 hL ⟨Nat.zero_le _, Nat.zero_le _⟩ (fun H1 locs hL hpost => ?_)
                  subst hpost
                  refine lv_iadd hx hb dL_areAlike_240 ?_
                  obtain ⟨x_73, ex_73, hf⟩ := xl_some hf
                  refine x_top ex_73 ?_
                  refine lv_istore (lv' := [(5, .int x_73), (7, .int x_70), (0, .ref a), (1, .ref o), (2, .int p3), (3, .int x_64), (4, .int x_39), (6, .int x_66)]) hx hb dL_areAlike_241 hl (by decide) rfl (fun ls hl => ?_)
                  refine lv_iload_n hx hb dL_areAlike_243 rfl (lv_at hl 5 rfl) ?_
                  refine lv_if_eq (tgt := 304) hx hb dL_areAlike_244 (by decide) (fun c_74 => ?_) (fun c_74 => ?_)
                  · have hf := (if_pos c_74).symm.trans hf
                    refine lv_iconst (v := 0) hx hb dL_areAlike_304 (by decide) ?_
                    refine lv_istore_n (lv' := [(3, .int 0), (5, .int x_73), (7, .int x_70), (0, .ref a), (1, .ref o), (2, .int p3), (4, .int x_39), (6, .int x_66)]) hx hb dL_areAlike_305 rfl hl (by decide) rfl (fun ls hl => ?_)
                    obtain ⟨x_75, ex_75, hf⟩ := xl_some hf
                    refine lv_iinc (v := x_75) (lv' := [(6, .int x_75), (3, .int 0), (5, .int x_73), (7, .int x_70), (0, .ref a), (1, .ref o), (2, .int p3), (4, .int x_39)]) hx hb dL_areAlike_306 hl (k := 7) rfl (by rw [ex_75]; rfl) (by decide) rfl (fun ls hl => ?_)
                    refine lv_goto (tgt := 209) hx hb dL_areAlike_309 (by decide) ?_
                    exact ih_209 0 x_73 x_75 _ _ hL (lv_sub hl [4, 5, 6, 1, 7, 2, 0] rfl) hf
                  · have hf := (if_neg c_74).symm.trans hf
                    refine lv_aload_n hx hb dL_areAlike_247 rfl (lv_at hl 2 rfl) ?_
                    refine lv_iload hx hb dL_areAlike_248 (lv_at hl 1 rfl) ?_
                    refine lv_iconst (v := 0) hx hb dL_areAlike_250 (by decide) ?_
                    obtain ⟨r_76, e_77, hf⟩ := xb_some hf
                    refine x_callW (As := [.int x_70, .int 0]) (rest := []) S hKC (fun _ _ => rfl) h_mo (h_X7_session l G z a M x_70 0 r_76 e_77) gL_areAlike_X7_session rfl 2 (by decide +kernel) rfl ⟨Nat.le_of_ble_eq_true rfl, Nat.le_of_ble_eq_true rfl⟩ h_mo hl.1 rfl (Nat.le_of_ble_eq_true rfl) dL_areAlike_251 hL ⟨Nat.zero_le _, Nat.zero_le _⟩ (fun H1 locs hL hpost => ?_)
                    subst hpost
                    refine lv_iload_n hx hb dL_areAlike_254 rfl (lv_at hl 4 rfl) ?_
                    refine lv_iadd hx hb dL_areAlike_255 ?_
                    refine lv_aload_n hx hb dL_areAlike_256 rfl (lv_at hl 3 rfl) ?_
                    refine lv_iload hx hb dL_areAlike_257 (lv_at hl 1 rfl) ?_
                    refine lv_iconst (v := 0) hx hb dL_areAlike_259 (by decide) ?_
                    obtain ⟨r_78, e_79, hf⟩ := xb_some hf
                    refine x_callW (As := [.int x_70, .int 0]) (rest := [.int (r_76 + p3)]) S hKC (fun _ _ => rfl) h_mp (h_X7_session l G z o N x_70 0 r_78 e_79) gL_areAlike_X7_session rfl 2 (by decide +kernel) rfl ⟨Nat.le_of_ble_eq_true rfl, Nat.le_of_ble_eq_true rfl⟩ h_mp hl.1 rfl (Nat.le_of_ble_eq_true rfl) dL_areAlike_260 hL ⟨Nat.zero_le _, Nat.zero_le _⟩ (fun H1 locs hL hpost => ?_)
                    subst hpost
                    refine lv_icmp_ne (tgt := 304) hx hb dL_areAlike_263 (by decide) (fun c_80 => ?_) (fun c_80 => ?_)
                    · have hf := (if_neg c_80).symm.trans hf
                      refine lv_iconst (v := 0) hx hb dL_areAlike_304 (by decide) ?_
                      refine lv_istore_n (lv' := [(3, .int 0), (5, .int x_73), (7, .int x_70), (0, .ref a), (1, .ref o), (2, .int p3), (4, .int x_39), (6, .int x_66)]) hx hb dL_areAlike_305 rfl hl (by decide) rfl (fun ls hl => ?_)
                      obtain ⟨x_81, ex_81, hf⟩ := xl_some hf
                      refine lv_iinc (v := x_81) (lv' := [(6, .int x_81), (3, .int 0), (5, .int x_73), (7, .int x_70), (0, .ref a), (1, .ref o), (2, .int p3), (4, .int x_39)]) hx hb dL_areAlike_306 hl (k := 7) rfl (by rw [ex_81]; rfl) (by decide) rfl (fun ls hl => ?_)
                      refine lv_goto (tgt := 209) hx hb dL_areAlike_309 (by decide) ?_
                      exact ih_209 0 x_73 x_81 _ _ hL (lv_sub hl [4, 5, 6, 1, 7, 2, 0] rfl) hf
                    · have hf := (if_pos c_80).symm.trans hf
                      refine lv_aload_n hx hb dL_areAlike_266 rfl (lv_at hl 2 rfl) ?_
                      refine lv_iload hx hb dL_areAlike_267 (lv_at hl 1 rfl) ?_
                      refine lv_iconst (v := 3) hx hb dL_areAlike_269 (by decide) ?_
                      obtain ⟨r_82, e_83, hf⟩ := xb_some hf
                      refine x_callW (As := [.int x_70, .int 3]) (rest := []) S hKC (fun _ _ => rfl) h_mo (h_X7_session l G z a M x_70 3 r_82 e_83) gL_areAlike_X7_session rfl 2 (by decide +kernel) rfl ⟨Nat.le_of_ble_eq_true rfl, Nat.le_of_ble_eq_true rfl⟩ h_mo hl.1 rfl (Nat.le_of_ble_eq_true rfl) dL_areAlike_270 hL ⟨Nat.zero_le _, Nat.zero_le _⟩ (fun H1 locs hL hpost => ?_)
                      subst hpost
                      refine lv_aload_n hx hb dL_areAlike_273 rfl (lv_at hl 3 rfl) ?_
                      refine lv_iload hx hb dL_areAlike_274 (lv_at hl 1 rfl) ?_
                      refine lv_iconst (v := 3) hx hb dL_areAlike_276 (by decide) ?_
                      obtain ⟨r_84, e_85, hf⟩ := xb_some hf
                      refine x_callW (As := [.int x_70, .int 3]) (rest := [.int r_82]) S hKC (fun _ _ => rfl) h_mp (h_X7_session l G z o N x_70 3 r_84 e_85) gL_areAlike_X7_session rfl 2 (by decide +kernel) rfl ⟨Nat.le_of_ble_eq_true rfl, Nat.le_of_ble_eq_true rfl⟩ h_mp hl.1 rfl (Nat.le_of_ble_eq_true rfl) dL_areAlike_277 hL ⟨Nat.zero_le _, Nat.zero_le _⟩ (fun H1 locs hL hpost => ?_)
                      subst hpost
                      refine lv_icmp_ne (tgt := 304) hx hb dL_areAlike_280 (by decide) (fun c_86 => ?_) (fun c_86 => ?_)
                      · have hf := (if_neg c_86).symm.trans hf
                        refine lv_iconst (v := 0) hx hb dL_areAlike_304 (by decide) ?_
                        refine lv_istore_n (lv' := [(3, .int 0), (5, .int x_73), (7, .int x_70), (0, .ref a), (1, .ref o), (2, .int p3), (4, .int x_39), (6, .int x_66)]) hx hb dL_areAlike_305 rfl hl (by decide) rfl (fun ls hl => ?_)
                        obtain ⟨x_87, ex_87, hf⟩ := xl_some hf
                        refine lv_iinc (v := x_87) (lv' := [(6, .int x_87), (3, .int 0), (5, .int x_73), (7, .int x_70), (0, .ref a), (1, .ref o), (2, .int p3), (4, .int x_39)]) hx hb dL_areAlike_306 hl (k := 7) rfl (by rw [ex_87]; rfl) (by decide) rfl (fun ls hl => ?_)
                        refine lv_goto (tgt := 209) hx hb dL_areAlike_309 (by decide) ?_
                        exact ih_209 0 x_73 x_87 _ _ hL (lv_sub hl [4, 5, 6, 1, 7, 2, 0] rfl) hf
                      · have hf := (if_pos c_86).symm.trans hf
                        refine lv_aload_n hx hb dL_areAlike_283 rfl (lv_at hl 2 rfl) ?_
                        refine lv_iload hx hb dL_areAlike_284 (lv_at hl 1 rfl) ?_
                        refine lv_iconst (v := 2) hx hb dL_areAlike_286 (by decide) ?_
                        obtain ⟨r_88, e_89, hf⟩ := xb_some hf
                        refine x_callW (As := [.int x_70, .int 2]) (rest := []) S hKC (fun _ _ => rfl) h_mo (h_X7_session l G z a M x_70 2 r_88 e_89) gL_areAlike_X7_session rfl 2 (by decide +kernel) rfl ⟨Nat.le_of_ble_eq_true rfl, Nat.le_of_ble_eq_true rfl⟩ h_mo hl.1 rfl (Nat.le_of_ble_eq_true rfl) dL_areAlike_287 hL ⟨Nat.zero_le _, Nat.zero_le _⟩ (fun H1 locs hL hpost => ?_)
                        subst hpost
                        refine lv_aload_n hx hb dL_areAlike_290 rfl (lv_at hl 3 rfl) ?_
                        refine lv_iload hx hb dL_areAlike_291 (lv_at hl 1 rfl) ?_
                        refine lv_iconst (v := 2) hx hb dL_areAlike_293 (by decide) ?_
                        obtain ⟨r_90, e_91, hf⟩ := xb_some hf
                        refine x_callW (As := [.int x_70, .int 2]) (rest := [.int r_88]) S hKC (fun _ _ => rfl) h_mp (h_X7_session l G z o N x_70 2 r_90 e_91) gL_areAlike_X7_session rfl 2 (by decide +kernel) rfl ⟨Nat.le_of_ble_eq_true rfl, Nat.le_of_ble_eq_true rfl⟩ h_mp hl.1 rfl (Nat.le_of_ble_eq_true rfl) dL_areAlike_294 hL ⟨Nat.zero_le _, Nat.zero_le _⟩ (fun H1 locs hL hpost => ?_)
                        subst hpost
                        refine lv_icmp_ne (tgt := 304) hx hb dL_areAlike_297 (by decide) (fun c_92 => ?_) (fun c_92 => ?_)
                        · have hf := (if_neg c_92).symm.trans hf
                          refine lv_iconst (v := 0) hx hb dL_areAlike_304 (by decide) ?_
                          refine lv_istore_n (lv' := [(3, .int 0), (5, .int x_73), (7, .int x_70), (0, .ref a), (1, .ref o), (2, .int p3), (4, .int x_39), (6, .int x_66)]) hx hb dL_areAlike_305 rfl hl (by decide) rfl (fun ls hl => ?_)
                          obtain ⟨x_93, ex_93, hf⟩ := xl_some hf
                          refine lv_iinc (v := x_93) (lv' := [(6, .int x_93), (3, .int 0), (5, .int x_73), (7, .int x_70), (0, .ref a), (1, .ref o), (2, .int p3), (4, .int x_39)]) hx hb dL_areAlike_306 hl (k := 7) rfl (by rw [ex_93]; rfl) (by decide) rfl (fun ls hl => ?_)
                          refine lv_goto (tgt := 209) hx hb dL_areAlike_309 (by decide) ?_
                          exact ih_209 0 x_73 x_93 _ _ hL (lv_sub hl [4, 5, 6, 1, 7, 2, 0] rfl) hf
                        · have hf := (if_pos c_92).symm.trans hf
                          refine lv_iconst (v := 1) hx hb dL_areAlike_300 (by decide) ?_
                          refine lv_goto (tgt := 305) hx hb dL_areAlike_301 (by decide) ?_
                          refine lv_istore_n (lv' := [(3, .int 1), (5, .int x_73), (7, .int x_70), (0, .ref a), (1, .ref o), (2, .int p3), (4, .int x_39), (6, .int x_66)]) hx hb dL_areAlike_305 rfl hl (by decide) rfl (fun ls hl => ?_)
                          obtain ⟨x_94, ex_94, hf⟩ := xl_some hf
                          refine lv_iinc (v := x_94) (lv' := [(6, .int x_94), (3, .int 1), (5, .int x_73), (7, .int x_70), (0, .ref a), (1, .ref o), (2, .int p3), (4, .int x_39)]) hx hb dL_areAlike_306 hl (k := 7) rfl (by rw [ex_94]; rfl) (by decide) rfl (fun ls hl => ?_)
                          refine lv_goto (tgt := 209) hx hb dL_areAlike_309 (by decide) ?_
                          exact ih_209 1 x_73 x_94 _ _ hL (lv_sub hl [4, 5, 6, 1, 7, 2, 0] rfl) hf
            refine lp_209 _ (fun x_95 x_96 x_97 locs ls hL hl hf => ?_) 100000 x_62 0 0 _ _ hL (lv_sub hl [2, 3, 4, 5, 6, 1, 0] rfl) hf
            refine lv_iload_n hx hb dL_areAlike_312 rfl (lv_at hl 3 rfl) ?_
            refine lv_if_eq (tgt := 369) hx hb dL_areAlike_313 (by decide) (fun c_98 => ?_) (fun c_98 => ?_)
            · have hf := (if_pos c_98).symm.trans hf
              refine lv_iconst (v := 0) hx hb dL_areAlike_369 (by decide) ?_
              refine lv_istore_n (lv' := [(3, .int 0), (0, .ref a), (1, .ref o), (2, .int p3), (4, .int x_39), (5, .int x_96)]) hx hb dL_areAlike_370 rfl hl (by decide) rfl (fun ls hl => ?_)
              obtain ⟨x_99, ex_99, hf⟩ := xl_some hf
              refine lv_iinc (v := x_99) (lv' := [(4, .int x_99), (3, .int 0), (0, .ref a), (1, .ref o), (2, .int p3), (5, .int x_96)]) hx hb dL_areAlike_371 hl (k := 4) rfl (by rw [ex_99]; rfl) (by decide) rfl (fun ls hl => ?_)
              refine lv_goto (tgt := 132) hx hb dL_areAlike_374 (by decide) ?_
              exact ih_132 0 x_99 _ _ hL (lv_sub hl [2, 3, 4, 1, 0] rfl) hf
            · have hf := (if_neg c_98).symm.trans hf
              refine lv_iload hx hb dL_areAlike_316 (lv_at hl 5 rfl) ?_
              refine lv_aload_n hx hb dL_areAlike_318 rfl (lv_at hl 0 rfl) ?_
              refine lv_iload hx hb dL_areAlike_319 (lv_at hl 4 rfl) ?_
              refine lv_bipush (v := 7) hx hb dL_areAlike_321 (by decide) ?_
              obtain ⟨r_100, e_101, hf⟩ := xb_some hf
              refine x_callW (As := [.int x_39, .int 7]) (rest := [.int x_96]) S hKC (fun _ _ => rfl) h_mo (h_X7_hireInfo l G z a M x_39 7 r_100 e_101) gL_areAlike_X7_hireInfo rfl 2 (by decide +kernel) rfl ⟨Nat.le_of_ble_eq_true rfl, Nat.le_of_ble_eq_true rfl⟩ h_mo hl.1 rfl (Nat.le_of_ble_eq_true rfl) dL_areAlike_323 hL ⟨Nat.zero_le _, Nat.zero_le _⟩ (fun H1 locs hL hpost => ?_)
              subst hpost
              refine lv_icmp_ne (tgt := 369) hx hb dL_areAlike_326 (by decide) (fun c_102 => ?_) (fun c_102 => ?_)
              · have hf := (if_neg c_102).symm.trans hf
                refine lv_iconst (v := 0) hx hb dL_areAlike_369 (by decide) ?_
                refine lv_istore_n (lv' := [(3, .int 0), (0, .ref a), (1, .ref o), (2, .int p3), (4, .int x_39), (5, .int x_96)]) hx hb dL_areAlike_370 rfl hl (by decide) rfl (fun ls hl => ?_)
                obtain ⟨x_103, ex_103, hf⟩ := xl_some hf
                refine lv_iinc (v := x_103) (lv' := [(4, .int x_103), (3, .int 0), (0, .ref a), (1, .ref o), (2, .int p3), (5, .int x_96)]) hx hb dL_areAlike_371 hl (k := 4) rfl (by rw [ex_103]; rfl) (by decide) rfl (fun ls hl => ?_)
                refine lv_goto (tgt := 132) hx hb dL_areAlike_374 (by decide) ?_
                exact ih_132 0 x_103 _ _ hL (lv_sub hl [2, 3, 4, 1, 0] rfl) hf
              · have hf := (if_pos c_102).symm.trans hf
                refine lv_aload_n hx hb dL_areAlike_329 rfl (lv_at hl 0 rfl) ?_
                refine lv_iload hx hb dL_areAlike_330 (lv_at hl 4 rfl) ?_
                refine lv_bipush (v := 9) hx hb dL_areAlike_332 (by decide) ?_
                obtain ⟨r_104, e_105, hf⟩ := xb_some hf
                refine x_callW (As := [.int x_39, .int 9]) (rest := []) S hKC (fun _ _ => rfl) h_mo (h_X7_hireInfo l G z a M x_39 9 r_104 e_105) gL_areAlike_X7_hireInfo rfl 2 (by decide +kernel) rfl ⟨Nat.le_of_ble_eq_true rfl, Nat.le_of_ble_eq_true rfl⟩ h_mo hl.1 rfl (Nat.le_of_ble_eq_true rfl) dL_areAlike_334 hL ⟨Nat.zero_le _, Nat.zero_le _⟩ (fun H1 locs hL hpost => ?_)
                subst hpost
                refine lv_aload_n hx hb dL_areAlike_337 rfl (lv_at hl 0 rfl) ?_
                refine lv_iload hx hb dL_areAlike_338 (lv_at hl 4 rfl) ?_
                refine lv_bipush (v := 10) hx hb dL_areAlike_340 (by decide) ?_
                obtain ⟨r_106, e_107, hf⟩ := xb_some hf
                refine x_callW (As := [.int x_39, .int 10]) (rest := [.int r_104]) S hKC (fun _ _ => rfl) h_mo (h_X7_hireInfo l G z a M x_39 10 r_106 e_107) gL_areAlike_X7_hireInfo rfl 2 (by decide +kernel) rfl ⟨Nat.le_of_ble_eq_true rfl, Nat.le_of_ble_eq_true rfl⟩ h_mo hl.1 rfl (Nat.le_of_ble_eq_true rfl) dL_areAlike_342 hL ⟨Nat.zero_le _, Nat.zero_le _⟩ (fun H1 locs hL hpost => ?_)
                subst hpost
                refine lv_iadd hx hb dL_areAlike_345 ?_
                refine lv_aload_n hx hb dL_areAlike_346 rfl (lv_at hl 0 rfl) ?_
                refine lv_iload hx hb dL_areAlike_347 (lv_at hl 4 rfl) ?_
                refine lv_bipush (v := 11) hx hb dL_areAlike_349 (by decide) ?_
                obtain ⟨r_108, e_109, hf⟩ := xb_some hf
                refine x_callW (As := [.int x_39, .int 11]) (rest := [.int (r_104 + r_106)]) S hKC (fun _ _ => rfl) h_mo (h_X7_hireInfo l G z a M x_39 11 r_108 e_109) gL_areAlike_X7_hireInfo rfl 2 (by decide +kernel) rfl ⟨Nat.le_of_ble_eq_true rfl, Nat.le_of_ble_eq_true rfl⟩ h_mo hl.1 rfl (Nat.le_of_ble_eq_true rfl) dL_areAlike_351 hL ⟨Nat.zero_le _, Nat.zero_le _⟩ (fun H1 locs hL hpost => ?_)
                subst hpost
                refine lv_iadd hx hb dL_areAlike_354 ?_
                refine lv_aload_n hx hb dL_areAlike_355 rfl (lv_at hl 0 rfl) ?_
                refine lv_iload hx hb dL_areAlike_356 (lv_at hl 4 rfl) ?_
                refine lv_iconst (v := 4) hx hb dL_areAlike_358 (by decide) ?_
                obtain ⟨r_110, e_111, hf⟩ := xb_some hf
                refine x_callW (As := [.int x_39, .int 4]) (rest := [.int ((r_104 + r_106) + r_108)]) S hKC (fun _ _ => rfl) h_mo (h_X7_hireInfo l G z a M x_39 4 r_110 e_111) gL_areAlike_X7_hireInfo rfl 2 (by decide +kernel) rfl ⟨Nat.le_of_ble_eq_true rfl, Nat.le_of_ble_eq_true rfl⟩ h_mo hl.1 rfl (Nat.le_of_ble_eq_true rfl) dL_areAlike_359 hL ⟨Nat.zero_le _, Nat.zero_le _⟩ (fun H1 locs hL hpost => ?_)
                subst hpost
                refine lv_icmp_ne (tgt := 369) hx hb dL_areAlike_362 (by decide) (fun c_112 => ?_) (fun c_112 => ?_)
                · have hf := (if_neg c_112).symm.trans hf
                  refine lv_iconst (v := 0) hx hb dL_areAlike_369 (by decide) ?_
                  refine lv_istore_n (lv' := [(3, .int 0), (0, .ref a), (1, .ref o), (2, .int p3), (4, .int x_39), (5, .int x_96)]) hx hb dL_areAlike_370 rfl hl (by decide) rfl (fun ls hl => ?_)
                  obtain ⟨x_113, ex_113, hf⟩ := xl_some hf
                  refine lv_iinc (v := x_113) (lv' := [(4, .int x_113), (3, .int 0), (0, .ref a), (1, .ref o), (2, .int p3), (5, .int x_96)]) hx hb dL_areAlike_371 hl (k := 4) rfl (by rw [ex_113]; rfl) (by decide) rfl (fun ls hl => ?_)
                  refine lv_goto (tgt := 132) hx hb dL_areAlike_374 (by decide) ?_
                  exact ih_132 0 x_113 _ _ hL (lv_sub hl [2, 3, 4, 1, 0] rfl) hf
                · have hf := (if_pos c_112).symm.trans hf
                  refine lv_iconst (v := 1) hx hb dL_areAlike_365 (by decide) ?_
                  refine lv_goto (tgt := 370) hx hb dL_areAlike_366 (by decide) ?_
                  refine lv_istore_n (lv' := [(3, .int 1), (0, .ref a), (1, .ref o), (2, .int p3), (4, .int x_39), (5, .int x_96)]) hx hb dL_areAlike_370 rfl hl (by decide) rfl (fun ls hl => ?_)
                  obtain ⟨x_114, ex_114, hf⟩ := xl_some hf
                  refine lv_iinc (v := x_114) (lv' := [(4, .int x_114), (3, .int 1), (0, .ref a), (1, .ref o), (2, .int p3), (5, .int x_96)]) hx hb dL_areAlike_371 hl (k := 4) rfl (by rw [ex_114]; rfl) (by decide) rfl (fun ls hl => ?_)
                  refine lv_goto (tgt := 132) hx hb dL_areAlike_374 (by decide) ?_
                  exact ih_132 1 x_114 _ _ hL (lv_sub hl [2, 3, 4, 1, 0] rfl) hf
    refine lp_132 _ (fun x_115 x_116 locs ls hL hl hf => ?_) 100000 x_36 0 _ _ hL (lv_sub hl [1, 2, 3, 4, 0] rfl) hf
    refine lv_iload_n hx hb dL_areAlike_377 rfl (lv_at hl 0 rfl) ?_
    obtain ⟨g_117, hf⟩ := xg_some hf
    have q0 := Option.some.inj hf
    subst r0
    subst hQ
    refine x_zret (post := (fun H H1 => H1 = H)) S hr hlocks g_117 rfl ?_ hL dL_areAlike_378
    exact rfl
  unfold f_L_areAlike at hf
  refine lv_aload_n hx hb dL_areAlike_0 rfl (lv_at hl 0 rfl) ?_
  refine lv_iconst (v := 0) hx hb dL_areAlike_1 (by decide) ?_
  obtain ⟨r_118, e_119, hf⟩ := xb_some hf
  refine x_callW (As := [.int 0]) (rest := []) S hKC (fun _ _ => rfl) h_mo (h_X7_count l G z a M 0 r_118 e_119) gL_areAlike_X7_count rfl 1 (by decide +kernel) rfl ⟨Nat.le_of_ble_eq_true rfl, Nat.le_of_ble_eq_true rfl⟩ h_mo hl.1 rfl (Nat.le_of_ble_eq_true rfl) dL_areAlike_2 hL ⟨Nat.zero_le _, Nat.zero_le _⟩ (fun H1 locs hL hpost => ?_)
  subst hpost
  refine lv_iload_n hx hb dL_areAlike_5 rfl (lv_at hl 2 rfl) ?_
  refine lv_iadd hx hb dL_areAlike_6 ?_
  refine lv_aload_n hx hb dL_areAlike_7 rfl (lv_at hl 1 rfl) ?_
  refine lv_iconst (v := 0) hx hb dL_areAlike_8 (by decide) ?_
  obtain ⟨r_120, e_121, hf⟩ := xb_some hf
  refine x_callW (As := [.int 0]) (rest := [.int (r_118 + p3)]) S hKC (fun _ _ => rfl) h_mp (h_X7_count l G z o N 0 r_120 e_121) gL_areAlike_X7_count rfl 1 (by decide +kernel) rfl ⟨Nat.le_of_ble_eq_true rfl, Nat.le_of_ble_eq_true rfl⟩ h_mp hl.1 rfl (Nat.le_of_ble_eq_true rfl) dL_areAlike_9 hL ⟨Nat.zero_le _, Nat.zero_le _⟩ (fun H1 locs hL hpost => ?_)
  subst hpost
  refine lv_icmp_ne (tgt := 19) hx hb dL_areAlike_12 (by decide) (fun c_122 => ?_) (fun c_122 => ?_)
  · have hf := (if_neg c_122).symm.trans hf
    refine lv_iconst (v := 0) hx hb dL_areAlike_19 (by decide) ?_
    refine lv_istore_n (lv' := [(3, .int 0), (0, .ref a), (1, .ref o), (2, .int p3)]) hx hb dL_areAlike_20 rfl hl (by decide) rfl (fun ls hl => ?_)
    exact jp_21 0 _ _ hL (lv_sub hl [1, 2, 3, 0] rfl) hf
  · have hf := (if_pos c_122).symm.trans hf
    refine lv_iconst (v := 1) hx hb dL_areAlike_15 (by decide) ?_
    refine lv_goto (tgt := 20) hx hb dL_areAlike_16 (by decide) ?_
    refine lv_istore_n (lv' := [(3, .int 1), (0, .ref a), (1, .ref o), (2, .int p3)]) hx hb dL_areAlike_20 rfl hl (by decide) rfl (fun ls hl => ?_)
    exact jp_21 1 _ _ hL (lv_sub hl [1, 2, 3, 0] rfl) hf
set_option maxRecDepth 100000 in
set_option maxHeartbeats 4000000 in
theorem c_L_isSound (l : Launch) (G : xG) (z : Nat) (a : Nat) (M : xV) (r0 : Int32)  (hf : f_L_isSound M = some r0) : xMc l yL_isSound wsL_isSound 5 121 0 0 (KC2 G z) z [.ref a] (fun H => WH G a M H) (some (.int r0)) (fun H H1 => H1 = H) := by
  refine xMc.of (cc := cL_isSound) (maxL := 7) (ret := (some .boolean)) (by decide +kernel) rfl (Nat.le_of_ble_eq_true rfl) ?_
  intro p e s m args below meth c ls Q hQ S hr hlocks hname0 hKC hP hl
  have hK := hKC.1
  obtain ⟨hx, hb, hml, hown, hts⟩ := id S
  have h_mo := hP
  have hL : ∀ q ∈ ([] : List Loc), z ≤ q.base := fun q h => absurd h List.not_mem_nil
  have hl : lv_has ls 7 [(0, .ref a)] := hl
  have jp_251 : ∀ (x_1 : Int32) (locs : List Loc) (ls : Array Slot), (∀ q ∈ locs, z ≤ q.base) → lv_has ls 7 [(0, .ref a), (6, .int x_1)] → J_L_isSound_251 M x_1 = some r0 → W p l e { frames := 5, cells := 0, slots := 0, locals := 121 } s m args below meth c s.heap locs 0 0 Q (F0 m 251 ls []) := by
    intro x_1 locs ls hL hl hf
    unfold J_L_isSound_251 at hf
    refine lv_iload hx hb dL_isSound_251 (lv_at hl 1 rfl) ?_
    refine lv_if_eq (tgt := 296) hx hb dL_isSound_253 (by decide) (fun c_2 => ?_) (fun c_2 => ?_)
    · have hf := (if_pos c_2).symm.trans hf
      refine lv_iconst (v := 0) hx hb dL_isSound_296 (by decide) ?_
      have q0 := Option.some.inj hf
      subst r0
      subst hQ
      refine x_zret (post := (fun H H1 => H1 = H)) S hr hlocks (by decide) rfl ?_ hL dL_isSound_297
      exact rfl
    · have hf := (if_neg c_2).symm.trans hf
      refine lv_aload_n hx hb dL_isSound_256 rfl (lv_at hl 0 rfl) ?_
      refine lv_aload_n hx hb dL_isSound_257 rfl (lv_at hl 0 rfl) ?_
      refine lv_iconst (v := 3) hx hb dL_isSound_258 (by decide) ?_
      obtain ⟨r_3, e_4, hf⟩ := xb_some hf
      refine x_callW (As := [.int 3]) (rest := [.ref a]) S hKC (fun _ _ => rfl) h_mo (h_X7_count l G z a M 3 r_3 e_4) gL_isSound_X7_count rfl 1 (by decide +kernel) rfl ⟨Nat.le_of_ble_eq_true rfl, Nat.le_of_ble_eq_true rfl⟩ h_mo hl.1 rfl (Nat.le_of_ble_eq_true rfl) dL_isSound_259 hL ⟨Nat.zero_le _, Nat.zero_le _⟩ (fun H1 locs hL hpost => ?_)
      subst hpost
      obtain ⟨r_5, e_6, hf⟩ := xb_some hf
      refine x_callW (As := [.int r_3]) (rest := []) S hKC (fun _ _ => rfl) h_mo (h_X7_inOrder l G z a M r_3 r_5 e_6) gL_isSound_X7_inOrder rfl 1 (by decide +kernel) rfl ⟨Nat.le_of_ble_eq_true rfl, Nat.le_of_ble_eq_true rfl⟩ h_mo hl.1 rfl (Nat.le_of_ble_eq_true rfl) dL_isSound_262 hL ⟨Nat.zero_le _, Nat.zero_le _⟩ (fun H1 locs hL hpost => ?_)
      subst hpost
      refine lv_ldc (v := (-2000000004)) hx hb hown (hts _ (xm 1 rfl)) dL_isSound_265 ?_
      refine lv_icmp_ne (tgt := 296) hx hb dL_isSound_267 (by decide) (fun c_7 => ?_) (fun c_7 => ?_)
      · have hf := (if_neg c_7).symm.trans hf
        refine lv_iconst (v := 0) hx hb dL_isSound_296 (by decide) ?_
        have q0 := Option.some.inj hf
        subst r0
        subst hQ
        refine x_zret (post := (fun H H1 => H1 = H)) S hr hlocks (by decide) rfl ?_ hL dL_isSound_297
        exact rfl
      · have hf := (if_pos c_7).symm.trans hf
        refine lv_aload_n hx hb dL_isSound_270 rfl (lv_at hl 0 rfl) ?_
        refine lv_iconst (v := 3) hx hb dL_isSound_271 (by decide) ?_
        obtain ⟨r_8, e_9, hf⟩ := xb_some hf
        refine x_callW (As := [.int 3]) (rest := []) S hKC (fun _ _ => rfl) h_mo (h_X7_count l G z a M 3 r_8 e_9) gL_isSound_X7_count rfl 1 (by decide +kernel) rfl ⟨Nat.le_of_ble_eq_true rfl, Nat.le_of_ble_eq_true rfl⟩ h_mo hl.1 rfl (Nat.le_of_ble_eq_true rfl) dL_isSound_272 hL ⟨Nat.zero_le _, Nat.zero_le _⟩ (fun H1 locs hL hpost => ?_)
        subst hpost
        refine lv_if_eq (tgt := 292) hx hb dL_isSound_275 (by decide) (fun c_10 => ?_) (fun c_10 => ?_)
        · have hf := (if_pos c_10).symm.trans hf
          refine lv_iconst (v := 1) hx hb dL_isSound_292 (by decide) ?_
          refine lv_goto (tgt := 297) hx hb dL_isSound_293 (by decide) ?_
          have q0 := Option.some.inj hf
          subst r0
          subst hQ
          refine x_zret (post := (fun H H1 => H1 = H)) S hr hlocks (by decide) rfl ?_ hL dL_isSound_297
          exact rfl
        · have hf := (if_neg c_10).symm.trans hf
          refine lv_aload_n hx hb dL_isSound_278 rfl (lv_at hl 0 rfl) ?_
          refine lv_aload_n hx hb dL_isSound_279 rfl (lv_at hl 0 rfl) ?_
          refine lv_iconst (v := 3) hx hb dL_isSound_280 (by decide) ?_
          obtain ⟨r_11, e_12, hf⟩ := xb_some hf
          refine x_callW (As := [.int 3]) (rest := [.ref a]) S hKC (fun _ _ => rfl) h_mo (h_X7_count l G z a M 3 r_11 e_12) gL_isSound_X7_count rfl 1 (by decide +kernel) rfl ⟨Nat.le_of_ble_eq_true rfl, Nat.le_of_ble_eq_true rfl⟩ h_mo hl.1 rfl (Nat.le_of_ble_eq_true rfl) dL_isSound_281 hL ⟨Nat.zero_le _, Nat.zero_le _⟩ (fun H1 locs hL hpost => ?_)
          subst hpost
          refine lv_iconst (v := 1) hx hb dL_isSound_284 (by decide) ?_
          refine lv_isub hx hb dL_isSound_285 ?_
          obtain ⟨r_13, e_14, hf⟩ := xb_some hf
          refine x_callW (As := [.int (r_11 - 1)]) (rest := []) S hKC (fun _ _ => rfl) h_mo (h_X7_inOrder l G z a M (r_11 - 1) r_13 e_14) gL_isSound_X7_inOrder rfl 1 (by decide +kernel) rfl ⟨Nat.le_of_ble_eq_true rfl, Nat.le_of_ble_eq_true rfl⟩ h_mo hl.1 rfl (Nat.le_of_ble_eq_true rfl) dL_isSound_286 hL ⟨Nat.zero_le _, Nat.zero_le _⟩ (fun H1 locs hL hpost => ?_)
          subst hpost
          refine lv_if_lt (tgt := 296) hx hb dL_isSound_289 (by decide) (fun c_15 => ?_) (fun c_15 => ?_)
          · have hf := (if_pos c_15).symm.trans hf
            refine lv_iconst (v := 0) hx hb dL_isSound_296 (by decide) ?_
            have q0 := Option.some.inj hf
            subst r0
            subst hQ
            refine x_zret (post := (fun H H1 => H1 = H)) S hr hlocks (by decide) rfl ?_ hL dL_isSound_297
            exact rfl
          · have hf := (if_neg c_15).symm.trans hf
            refine lv_iconst (v := 1) hx hb dL_isSound_292 (by decide) ?_
            refine lv_goto (tgt := 297) hx hb dL_isSound_293 (by decide) ?_
            have q0 := Option.some.inj hf
            subst r0
            subst hQ
            refine x_zret (post := (fun H H1 => H1 = H)) S hr hlocks (by decide) rfl ?_ hL dL_isSound_297
            exact rfl
  have jp_194 : ∀ (x_16 : Int32) (x_17 : Int32) (locs : List Loc) (ls : Array Slot), (∀ q ∈ locs, z ≤ q.base) → lv_has ls 7 [(0, .ref a), (1, .int x_16), (6, .int x_17)] → J_L_isSound_194 M x_16 x_17 = some r0 → W p l e { frames := 5, cells := 0, slots := 0, locals := 121 } s m args below meth c s.heap locs 0 0 Q (F0 m 194 ls []) := by
    intro x_16 x_17 locs ls hL hl hf
    unfold J_L_isSound_194 at hf
    refine lv_iload hx hb dL_isSound_194 (lv_at hl 2 rfl) ?_
    refine lv_if_eq (tgt := 248) hx hb dL_isSound_196 (by decide) (fun c_18 => ?_) (fun c_18 => ?_)
    · have hf := (if_pos c_18).symm.trans hf
      refine lv_iconst (v := 0) hx hb dL_isSound_248 (by decide) ?_
      refine lv_istore (lv' := [(6, .int 0), (0, .ref a), (1, .int x_16)]) hx hb dL_isSound_249 hl (by decide) rfl (fun ls hl => ?_)
      exact jp_251 0 _ _ hL (lv_sub hl [1, 0] rfl) hf
    · have hf := (if_neg c_18).symm.trans hf
      refine lv_iload_n hx hb dL_isSound_199 rfl (lv_at hl 1 rfl) ?_
      refine lv_aload_n hx hb dL_isSound_200 rfl (lv_at hl 0 rfl) ?_
      refine lv_bipush (v := 20) hx hb dL_isSound_201 (by decide) ?_
      obtain ⟨r_19, e_20, hf⟩ := xb_some hf
      refine x_callW (As := [.int 20]) (rest := [.int x_16]) S hKC (fun _ _ => rfl) h_mo (h_X7_count l G z a M 20 r_19 e_20) gL_isSound_X7_count rfl 1 (by decide +kernel) rfl ⟨Nat.le_of_ble_eq_true rfl, Nat.le_of_ble_eq_true rfl⟩ h_mo hl.1 rfl (Nat.le_of_ble_eq_true rfl) dL_isSound_203 hL ⟨Nat.zero_le _, Nat.zero_le _⟩ (fun H1 locs hL hpost => ?_)
      subst hpost
      refine lv_aload_n hx hb dL_isSound_206 rfl (lv_at hl 0 rfl) ?_
      refine lv_bipush (v := 21) hx hb dL_isSound_207 (by decide) ?_
      obtain ⟨r_21, e_22, hf⟩ := xb_some hf
      refine x_callW (As := [.int 21]) (rest := [.int r_19, .int x_16]) S hKC (fun _ _ => rfl) h_mo (h_X7_count l G z a M 21 r_21 e_22) gL_isSound_X7_count rfl 1 (by decide +kernel) rfl ⟨Nat.le_of_ble_eq_true rfl, Nat.le_of_ble_eq_true rfl⟩ h_mo hl.1 rfl (Nat.le_of_ble_eq_true rfl) dL_isSound_209 hL ⟨Nat.zero_le _, Nat.zero_le _⟩ (fun H1 locs hL hpost => ?_)
      subst hpost
      refine lv_isub hx hb dL_isSound_212 ?_
      refine lv_aload_n hx hb dL_isSound_213 rfl (lv_at hl 0 rfl) ?_
      refine lv_bipush (v := 22) hx hb dL_isSound_214 (by decide) ?_
      obtain ⟨r_23, e_24, hf⟩ := xb_some hf
      refine x_callW (As := [.int 22]) (rest := [.int (r_19 - r_21), .int x_16]) S hKC (fun _ _ => rfl) h_mo (h_X7_count l G z a M 22 r_23 e_24) gL_isSound_X7_count rfl 1 (by decide +kernel) rfl ⟨Nat.le_of_ble_eq_true rfl, Nat.le_of_ble_eq_true rfl⟩ h_mo hl.1 rfl (Nat.le_of_ble_eq_true rfl) dL_isSound_216 hL ⟨Nat.zero_le _, Nat.zero_le _⟩ (fun H1 locs hL hpost => ?_)
      subst hpost
      refine lv_iadd hx hb dL_isSound_219 ?_
      refine lv_aload_n hx hb dL_isSound_220 rfl (lv_at hl 0 rfl) ?_
      refine lv_bipush (v := 26) hx hb dL_isSound_221 (by decide) ?_
      obtain ⟨r_25, e_26, hf⟩ := xb_some hf
      refine x_callW (As := [.int 26]) (rest := [.int ((r_19 - r_21) + r_23), .int x_16]) S hKC (fun _ _ => rfl) h_mo (h_X7_count l G z a M 26 r_25 e_26) gL_isSound_X7_count rfl 1 (by decide +kernel) rfl ⟨Nat.le_of_ble_eq_true rfl, Nat.le_of_ble_eq_true rfl⟩ h_mo hl.1 rfl (Nat.le_of_ble_eq_true rfl) dL_isSound_223 hL ⟨Nat.zero_le _, Nat.zero_le _⟩ (fun H1 locs hL hpost => ?_)
      subst hpost
      refine lv_isub hx hb dL_isSound_226 ?_
      refine lv_aload_n hx hb dL_isSound_227 rfl (lv_at hl 0 rfl) ?_
      refine lv_bipush (v := 27) hx hb dL_isSound_228 (by decide) ?_
      obtain ⟨r_27, e_28, hf⟩ := xb_some hf
      refine x_callW (As := [.int 27]) (rest := [.int (((r_19 - r_21) + r_23) - r_25), .int x_16]) S hKC (fun _ _ => rfl) h_mo (h_X7_count l G z a M 27 r_27 e_28) gL_isSound_X7_count rfl 1 (by decide +kernel) rfl ⟨Nat.le_of_ble_eq_true rfl, Nat.le_of_ble_eq_true rfl⟩ h_mo hl.1 rfl (Nat.le_of_ble_eq_true rfl) dL_isSound_230 hL ⟨Nat.zero_le _, Nat.zero_le _⟩ (fun H1 locs hL hpost => ?_)
      subst hpost
      refine lv_iadd hx hb dL_isSound_233 ?_
      refine lv_aload_n hx hb dL_isSound_234 rfl (lv_at hl 0 rfl) ?_
      refine lv_bipush (v := 28) hx hb dL_isSound_235 (by decide) ?_
      obtain ⟨r_29, e_30, hf⟩ := xb_some hf
      refine x_callW (As := [.int 28]) (rest := [.int ((((r_19 - r_21) + r_23) - r_25) + r_27), .int x_16]) S hKC (fun _ _ => rfl) h_mo (h_X7_count l G z a M 28 r_29 e_30) gL_isSound_X7_count rfl 1 (by decide +kernel) rfl ⟨Nat.le_of_ble_eq_true rfl, Nat.le_of_ble_eq_true rfl⟩ h_mo hl.1 rfl (Nat.le_of_ble_eq_true rfl) dL_isSound_237 hL ⟨Nat.zero_le _, Nat.zero_le _⟩ (fun H1 locs hL hpost => ?_)
      subst hpost
      refine lv_isub hx hb dL_isSound_240 ?_
      refine lv_icmp_ne (tgt := 248) hx hb dL_isSound_241 (by decide) (fun c_31 => ?_) (fun c_31 => ?_)
      · have hf := (if_neg c_31).symm.trans hf
        refine lv_iconst (v := 0) hx hb dL_isSound_248 (by decide) ?_
        refine lv_istore (lv' := [(6, .int 0), (0, .ref a), (1, .int x_16)]) hx hb dL_isSound_249 hl (by decide) rfl (fun ls hl => ?_)
        exact jp_251 0 _ _ hL (lv_sub hl [1, 0] rfl) hf
      · have hf := (if_pos c_31).symm.trans hf
        refine lv_iconst (v := 1) hx hb dL_isSound_244 (by decide) ?_
        refine lv_goto (tgt := 249) hx hb dL_isSound_245 (by decide) ?_
        refine lv_istore (lv' := [(6, .int 1), (0, .ref a), (1, .int x_16)]) hx hb dL_isSound_249 hl (by decide) rfl (fun ls hl => ?_)
        exact jp_251 1 _ _ hL (lv_sub hl [1, 0] rfl) hf
  unfold f_L_isSound at hf
  refine lv_iconst (v := 0) hx hb dL_isSound_0 (by decide) ?_
  refine lv_istore_n (lv' := [(1, .int 0), (0, .ref a)]) hx hb dL_isSound_1 rfl hl (by decide) rfl (fun ls hl => ?_)
  refine lv_iconst (v := 0) hx hb dL_isSound_2 (by decide) ?_
  refine lv_istore_n (lv' := [(2, .int 0), (1, .int 0), (0, .ref a)]) hx hb dL_isSound_3 rfl hl (by decide) rfl (fun ls hl => ?_)
  refine lv_iconst (v := 0) hx hb dL_isSound_4 (by decide) ?_
  refine lv_istore_n (lv' := [(3, .int 0), (2, .int 0), (1, .int 0), (0, .ref a)]) hx hb dL_isSound_5 rfl hl (by decide) rfl (fun ls hl => ?_)
  refine lv_iconst (v := 0) hx hb dL_isSound_6 (by decide) ?_
  refine lv_istore (lv' := [(4, .int 0), (3, .int 0), (2, .int 0), (1, .int 0), (0, .ref a)]) hx hb dL_isSound_7 hl (by decide) rfl (fun ls hl => ?_)
  have lp_9 : ∀ (K_9 : Int32 → Int32 → Int32 → Option Int32), (∀ (x_32 : Int32) (x_33 : Int32) (x_34 : Int32) (locs : List Loc) (ls : Array Slot), (∀ q ∈ locs, z ≤ q.base) → lv_has ls 7 [(0, .ref a), (1, .int x_32), (2, .int x_33), (3, .int 0)] → K_9 x_32 x_33 x_34 = some r0 → W p l e { frames := 5, cells := 0, slots := 0, locals := 121 } s m args below meth c s.heap locs 0 0 Q (F0 m 42 ls [])) → ∀ (n : Nat) (x_32 : Int32) (x_33 : Int32) (x_34 : Int32) (locs : List Loc) (ls : Array Slot), (∀ q ∈ locs, z ≤ q.base) → lv_has ls 7 [(0, .ref a), (1, .int x_32), (2, .int x_33), (3, .int 0), (4, .int x_34)] → L_L_isSound_9 K_9 M n x_32 x_33 x_34 = some r0 → W p l e { frames := 5, cells := 0, slots := 0, locals := 121 } s m args below meth c s.heap locs 0 0 Q (F0 m 9 ls []) := by
    intro K_9 hK_9 n
    induction n with
    | zero =>
      intro x_32 x_33 x_34 locs ls hL hl hf
      cases hf
    | succ n ih_9 =>
      intro x_32 x_33 x_34 locs ls hL hl hf
      unfold L_L_isSound_9 at hf
      refine lv_iload hx hb dL_isSound_9 (lv_at hl 4 rfl) ?_
      refine lv_iconst (v := 3) hx hb dL_isSound_11 (by decide) ?_
      refine lv_icmp_ge (tgt := 42) hx hb dL_isSound_12 (by decide) (fun c_35 => ?_) (fun c_35 => ?_)
      · have hf := (if_pos c_35).symm.trans hf
        exact hK_9 x_32 x_33 x_34 _ _ hL (lv_sub hl [0, 1, 2, 3] rfl) hf
      · have hf := (if_neg c_35).symm.trans hf
        refine lv_iload_n hx hb dL_isSound_15 rfl (lv_at hl 1 rfl) ?_
        refine lv_aload_n hx hb dL_isSound_16 rfl (lv_at hl 0 rfl) ?_
        refine lv_iload hx hb dL_isSound_17 (lv_at hl 4 rfl) ?_
        refine lv_iconst (v := 2) hx hb dL_isSound_19 (by decide) ?_
        obtain ⟨r_36, e_37, hf⟩ := xb_some hf
        refine x_callW (As := [.int x_34, .int 2]) (rest := [.int x_32]) S hKC (fun _ _ => rfl) h_mo (h_X7_hirer l G z a M x_34 2 r_36 e_37) gL_isSound_X7_hirer rfl 2 (by decide +kernel) rfl ⟨Nat.le_of_ble_eq_true rfl, Nat.le_of_ble_eq_true rfl⟩ h_mo hl.1 rfl (Nat.le_of_ble_eq_true rfl) dL_isSound_20 hL ⟨Nat.zero_le _, Nat.zero_le _⟩ (fun H1 locs hL hpost => ?_)
        subst hpost
        refine lv_iadd hx hb dL_isSound_23 ?_
        obtain ⟨x_38, ex_38, hf⟩ := xl_some hf
        refine x_top ex_38 ?_
        refine lv_istore_n (lv' := [(1, .int x_38), (0, .ref a), (2, .int x_33), (3, .int 0), (4, .int x_34)]) hx hb dL_isSound_24 rfl hl (by decide) rfl (fun ls hl => ?_)
        refine lv_iload_n hx hb dL_isSound_25 rfl (lv_at hl 2 rfl) ?_
        refine lv_aload_n hx hb dL_isSound_26 rfl (lv_at hl 1 rfl) ?_
        refine lv_iload hx hb dL_isSound_27 (lv_at hl 4 rfl) ?_
        refine lv_bipush (v := 6) hx hb dL_isSound_29 (by decide) ?_
        obtain ⟨r_39, e_40, hf⟩ := xb_some hf
        refine x_callW (As := [.int x_34, .int 6]) (rest := [.int x_33]) S hKC (fun _ _ => rfl) h_mo (h_X7_hirer l G z a M x_34 6 r_39 e_40) gL_isSound_X7_hirer rfl 2 (by decide +kernel) rfl ⟨Nat.le_of_ble_eq_true rfl, Nat.le_of_ble_eq_true rfl⟩ h_mo hl.1 rfl (Nat.le_of_ble_eq_true rfl) dL_isSound_31 hL ⟨Nat.zero_le _, Nat.zero_le _⟩ (fun H1 locs hL hpost => ?_)
        subst hpost
        refine lv_iadd hx hb dL_isSound_34 ?_
        obtain ⟨x_41, ex_41, hf⟩ := xl_some hf
        refine x_top ex_41 ?_
        refine lv_istore_n (lv' := [(2, .int x_41), (1, .int x_38), (0, .ref a), (3, .int 0), (4, .int x_34)]) hx hb dL_isSound_35 rfl hl (by decide) rfl (fun ls hl => ?_)
        obtain ⟨x_42, ex_42, hf⟩ := xl_some hf
        refine lv_iinc (v := x_42) (lv' := [(4, .int x_42), (2, .int x_41), (1, .int x_38), (0, .ref a), (3, .int 0)]) hx hb dL_isSound_36 hl (k := 4) rfl (by rw [ex_42]; rfl) (by decide) rfl (fun ls hl => ?_)
        refine lv_goto (tgt := 9) hx hb dL_isSound_39 (by decide) ?_
        exact ih_9 x_38 x_41 x_42 _ _ hL (lv_sub hl [3, 2, 1, 4, 0] rfl) hf
  refine lp_9 _ (fun x_43 x_44 x_45 locs ls hL hl hf => ?_) 100000 0 0 0 _ _ hL (lv_sub hl [4, 3, 2, 1, 0] rfl) hf
  refine lv_aload_n hx hb dL_isSound_42 rfl (lv_at hl 0 rfl) ?_
  refine lv_iconst (v := 4) hx hb dL_isSound_43 (by decide) ?_
  obtain ⟨r_46, e_47, hf⟩ := xb_some hf
  refine x_callW (As := [.int 4]) (rest := []) S hKC (fun _ _ => rfl) h_mo (h_X7_count l G z a M 4 r_46 e_47) gL_isSound_X7_count rfl 1 (by decide +kernel) rfl ⟨Nat.le_of_ble_eq_true rfl, Nat.le_of_ble_eq_true rfl⟩ h_mo hl.1 rfl (Nat.le_of_ble_eq_true rfl) dL_isSound_44 hL ⟨Nat.zero_le _, Nat.zero_le _⟩ (fun H1 locs hL hpost => ?_)
  subst hpost
  refine lv_istore (lv' := [(4, .int r_46), (0, .ref a), (1, .int x_43), (2, .int x_44), (3, .int 0)]) hx hb dL_isSound_47 hl (by decide) rfl (fun ls hl => ?_)
  refine lv_iconst (v := 0) hx hb dL_isSound_49 (by decide) ?_
  refine lv_istore (lv' := [(5, .int 0), (4, .int r_46), (0, .ref a), (1, .int x_43), (2, .int x_44), (3, .int 0)]) hx hb dL_isSound_50 hl (by decide) rfl (fun ls hl => ?_)
  refine lv_iconst (v := 0) hx hb dL_isSound_52 (by decide) ?_
  refine lv_istore (lv' := [(6, .int 0), (5, .int 0), (4, .int r_46), (0, .ref a), (1, .int x_43), (2, .int x_44), (3, .int 0)]) hx hb dL_isSound_53 hl (by decide) rfl (fun ls hl => ?_)
  have lp_55 : ∀ (K_55 : Int32 → Int32 → Int32 → Int32 → Int32 → Option Int32), (∀ (x_48 : Int32) (x_49 : Int32) (x_50 : Int32) (x_51 : Int32) (x_52 : Int32) (locs : List Loc) (ls : Array Slot), (∀ q ∈ locs, z ≤ q.base) → lv_has ls 7 [(0, .ref a), (1, .int x_43), (2, .int x_48), (3, .int x_49), (4, .int x_50), (5, .int x_51)] → K_55 x_48 x_49 x_50 x_51 x_52 = some r0 → W p l e { frames := 5, cells := 0, slots := 0, locals := 121 } s m args below meth c s.heap locs 0 0 Q (F0 m 119 ls [])) → ∀ (n : Nat) (x_48 : Int32) (x_49 : Int32) (x_50 : Int32) (x_51 : Int32) (x_52 : Int32) (locs : List Loc) (ls : Array Slot), (∀ q ∈ locs, z ≤ q.base) → lv_has ls 7 [(0, .ref a), (1, .int x_43), (2, .int x_48), (3, .int x_49), (4, .int x_50), (5, .int x_51), (6, .int x_52)] → L_L_isSound_55 K_55 M n x_48 x_49 x_50 x_51 x_52 = some r0 → W p l e { frames := 5, cells := 0, slots := 0, locals := 121 } s m args below meth c s.heap locs 0 0 Q (F0 m 55 ls []) := by
    intro K_55 hK_55 n
    induction n with
    | zero =>
      intro x_48 x_49 x_50 x_51 x_52 locs ls hL hl hf
      cases hf
    | succ n ih_55 =>
      intro x_48 x_49 x_50 x_51 x_52 locs ls hL hl hf
      unfold L_L_isSound_55 at hf
      refine lv_iload hx hb dL_isSound_55 (lv_at hl 6 rfl) ?_
      refine lv_aload_n hx hb dL_isSound_57 rfl (lv_at hl 0 rfl) ?_
      refine lv_iconst (v := 2) hx hb dL_isSound_58 (by decide) ?_
      obtain ⟨r_53, e_54, hf⟩ := xb_some hf
      refine x_callW (As := [.int 2]) (rest := [.int x_52]) S hKC (fun _ _ => rfl) h_mo (h_X7_count l G z a M 2 r_53 e_54) gL_isSound_X7_count rfl 1 (by decide +kernel) rfl ⟨Nat.le_of_ble_eq_true rfl, Nat.le_of_ble_eq_true rfl⟩ h_mo hl.1 rfl (Nat.le_of_ble_eq_true rfl) dL_isSound_59 hL ⟨Nat.zero_le _, Nat.zero_le _⟩ (fun H1 locs hL hpost => ?_)
      subst hpost
      refine lv_icmp_ge (tgt := 119) hx hb dL_isSound_62 (by decide) (fun c_55 => ?_) (fun c_55 => ?_)
      · have hf := (if_pos c_55).symm.trans hf
        exact hK_55 x_48 x_49 x_50 x_51 x_52 _ _ hL (lv_sub hl [0, 1, 2, 3, 4, 5] rfl) hf
      · have hf := (if_neg c_55).symm.trans hf
        refine lv_iload_n hx hb dL_isSound_65 rfl (lv_at hl 3 rfl) ?_
        refine lv_aload_n hx hb dL_isSound_66 rfl (lv_at hl 0 rfl) ?_
        refine lv_iload hx hb dL_isSound_67 (lv_at hl 6 rfl) ?_
        refine lv_bipush (v := 12) hx hb dL_isSound_69 (by decide) ?_
        obtain ⟨r_56, e_57, hf⟩ := xb_some hf
        refine x_callW (As := [.int x_52, .int 12]) (rest := [.int x_49]) S hKC (fun _ _ => rfl) h_mo (h_X7_hireInfo l G z a M x_52 12 r_56 e_57) gL_isSound_X7_hireInfo rfl 2 (by decide +kernel) rfl ⟨Nat.le_of_ble_eq_true rfl, Nat.le_of_ble_eq_true rfl⟩ h_mo hl.1 rfl (Nat.le_of_ble_eq_true rfl) dL_isSound_71 hL ⟨Nat.zero_le _, Nat.zero_le _⟩ (fun H1 locs hL hpost => ?_)
        subst hpost
        refine lv_iadd hx hb dL_isSound_74 ?_
        obtain ⟨x_58, ex_58, hf⟩ := xl_some hf
        refine x_top ex_58 ?_
        refine lv_istore_n (lv' := [(3, .int x_58), (0, .ref a), (1, .int x_43), (2, .int x_48), (4, .int x_50), (5, .int x_51), (6, .int x_52)]) hx hb dL_isSound_75 rfl hl (by decide) rfl (fun ls hl => ?_)
        refine lv_iload hx hb dL_isSound_76 (lv_at hl 4 rfl) ?_
        refine lv_aload_n hx hb dL_isSound_78 rfl (lv_at hl 1 rfl) ?_
        refine lv_iload hx hb dL_isSound_79 (lv_at hl 6 rfl) ?_
        refine lv_bipush (v := 14) hx hb dL_isSound_81 (by decide) ?_
        obtain ⟨r_59, e_60, hf⟩ := xb_some hf
        refine x_callW (As := [.int x_52, .int 14]) (rest := [.int x_50]) S hKC (fun _ _ => rfl) h_mo (h_X7_hireInfo l G z a M x_52 14 r_59 e_60) gL_isSound_X7_hireInfo rfl 2 (by decide +kernel) rfl ⟨Nat.le_of_ble_eq_true rfl, Nat.le_of_ble_eq_true rfl⟩ h_mo hl.1 rfl (Nat.le_of_ble_eq_true rfl) dL_isSound_83 hL ⟨Nat.zero_le _, Nat.zero_le _⟩ (fun H1 locs hL hpost => ?_)
        subst hpost
        refine lv_iadd hx hb dL_isSound_86 ?_
        obtain ⟨x_61, ex_61, hf⟩ := xl_some hf
        refine x_top ex_61 ?_
        refine lv_istore (lv' := [(4, .int x_61), (3, .int x_58), (0, .ref a), (1, .int x_43), (2, .int x_48), (5, .int x_51), (6, .int x_52)]) hx hb dL_isSound_87 hl (by decide) rfl (fun ls hl => ?_)
        refine lv_iload_n hx hb dL_isSound_89 rfl (lv_at hl 4 rfl) ?_
        refine lv_aload_n hx hb dL_isSound_90 rfl (lv_at hl 2 rfl) ?_
        refine lv_iload hx hb dL_isSound_91 (lv_at hl 6 rfl) ?_
        refine lv_bipush (v := 13) hx hb dL_isSound_93 (by decide) ?_
        obtain ⟨r_62, e_63, hf⟩ := xb_some hf
        refine x_callW (As := [.int x_52, .int 13]) (rest := [.int x_48]) S hKC (fun _ _ => rfl) h_mo (h_X7_hireInfo l G z a M x_52 13 r_62 e_63) gL_isSound_X7_hireInfo rfl 2 (by decide +kernel) rfl ⟨Nat.le_of_ble_eq_true rfl, Nat.le_of_ble_eq_true rfl⟩ h_mo hl.1 rfl (Nat.le_of_ble_eq_true rfl) dL_isSound_95 hL ⟨Nat.zero_le _, Nat.zero_le _⟩ (fun H1 locs hL hpost => ?_)
        subst hpost
        refine lv_isub hx hb dL_isSound_98 ?_
        obtain ⟨x_64, ex_64, hf⟩ := xl_some hf
        refine x_top ex_64 ?_
        refine lv_istore_n (lv' := [(2, .int x_64), (4, .int x_61), (3, .int x_58), (0, .ref a), (1, .int x_43), (5, .int x_51), (6, .int x_52)]) hx hb dL_isSound_99 rfl hl (by decide) rfl (fun ls hl => ?_)
        refine lv_iload hx hb dL_isSound_100 (lv_at hl 5 rfl) ?_
        refine lv_aload_n hx hb dL_isSound_102 rfl (lv_at hl 3 rfl) ?_
        refine lv_iload hx hb dL_isSound_103 (lv_at hl 6 rfl) ?_
        refine lv_bipush (v := 7) hx hb dL_isSound_105 (by decide) ?_
        obtain ⟨r_65, e_66, hf⟩ := xb_some hf
        refine x_callW (As := [.int x_52, .int 7]) (rest := [.int x_51]) S hKC (fun _ _ => rfl) h_mo (h_X7_hireInfo l G z a M x_52 7 r_65 e_66) gL_isSound_X7_hireInfo rfl 2 (by decide +kernel) rfl ⟨Nat.le_of_ble_eq_true rfl, Nat.le_of_ble_eq_true rfl⟩ h_mo hl.1 rfl (Nat.le_of_ble_eq_true rfl) dL_isSound_107 hL ⟨Nat.zero_le _, Nat.zero_le _⟩ (fun H1 locs hL hpost => ?_)
        subst hpost
        refine lv_iadd hx hb dL_isSound_110 ?_
        obtain ⟨x_67, ex_67, hf⟩ := xl_some hf
        refine x_top ex_67 ?_
        refine lv_istore (lv' := [(5, .int x_67), (2, .int x_64), (4, .int x_61), (3, .int x_58), (0, .ref a), (1, .int x_43), (6, .int x_52)]) hx hb dL_isSound_111 hl (by decide) rfl (fun ls hl => ?_)
        obtain ⟨x_68, ex_68, hf⟩ := xl_some hf
        refine lv_iinc (v := x_68) (lv' := [(6, .int x_68), (5, .int x_67), (2, .int x_64), (4, .int x_61), (3, .int x_58), (0, .ref a), (1, .int x_43)]) hx hb dL_isSound_113 hl (k := 6) rfl (by rw [ex_68]; rfl) (by decide) rfl (fun ls hl => ?_)
        refine lv_goto (tgt := 55) hx hb dL_isSound_116 (by decide) ?_
        exact ih_55 x_64 x_58 x_61 x_67 x_68 _ _ hL (lv_sub hl [5, 6, 2, 4, 3, 1, 0] rfl) hf
  refine lp_55 _ (fun x_69 x_70 x_71 x_72 x_73 locs ls hL hl hf => ?_) 100000 x_44 0 r_46 0 0 _ _ hL (lv_sub hl [3, 4, 5, 6, 2, 1, 0] rfl) hf
  refine lv_iload hx hb dL_isSound_119 (lv_at hl 4 rfl) ?_
  refine lv_bipush (v := 6) hx hb dL_isSound_121 (by decide) ?_
  refine lv_icmp_ne (tgt := 191) hx hb dL_isSound_123 (by decide) (fun c_74 => ?_) (fun c_74 => ?_)
  · have hf := (if_neg c_74).symm.trans hf
    refine lv_iconst (v := 0) hx hb dL_isSound_191 (by decide) ?_
    refine lv_istore (lv' := [(6, .int 0), (0, .ref a), (1, .int x_43), (2, .int x_69), (3, .int x_70), (4, .int x_71), (5, .int x_72)]) hx hb dL_isSound_192 hl (by decide) rfl (fun ls hl => ?_)
    exact jp_194 x_43 0 _ _ hL (lv_sub hl [1, 2, 0] rfl) hf
  · have hf := (if_pos c_74).symm.trans hf
    refine lv_iload_n hx hb dL_isSound_126 rfl (lv_at hl 2 rfl) ?_
    refine lv_if_ne (tgt := 191) hx hb dL_isSound_127 (by decide) (fun c_75 => ?_) (fun c_75 => ?_)
    · have hf := (if_neg c_75).symm.trans hf
      refine lv_iconst (v := 0) hx hb dL_isSound_191 (by decide) ?_
      refine lv_istore (lv' := [(6, .int 0), (0, .ref a), (1, .int x_43), (2, .int x_69), (3, .int x_70), (4, .int x_71), (5, .int x_72)]) hx hb dL_isSound_192 hl (by decide) rfl (fun ls hl => ?_)
      exact jp_194 x_43 0 _ _ hL (lv_sub hl [1, 2, 0] rfl) hf
    · have hf := (if_pos c_75).symm.trans hf
      refine lv_iload_n hx hb dL_isSound_130 rfl (lv_at hl 3 rfl) ?_
      refine lv_aload_n hx hb dL_isSound_131 rfl (lv_at hl 0 rfl) ?_
      refine lv_bipush (v := 23) hx hb dL_isSound_132 (by decide) ?_
      obtain ⟨r_76, e_77, hf⟩ := xb_some hf
      refine x_callW (As := [.int 23]) (rest := [.int x_70]) S hKC (fun _ _ => rfl) h_mo (h_X7_count l G z a M 23 r_76 e_77) gL_isSound_X7_count rfl 1 (by decide +kernel) rfl ⟨Nat.le_of_ble_eq_true rfl, Nat.le_of_ble_eq_true rfl⟩ h_mo hl.1 rfl (Nat.le_of_ble_eq_true rfl) dL_isSound_134 hL ⟨Nat.zero_le _, Nat.zero_le _⟩ (fun H1 locs hL hpost => ?_)
      subst hpost
      refine lv_icmp_ne (tgt := 191) hx hb dL_isSound_137 (by decide) (fun c_78 => ?_) (fun c_78 => ?_)
      · have hf := (if_neg c_78).symm.trans hf
        refine lv_iconst (v := 0) hx hb dL_isSound_191 (by decide) ?_
        refine lv_istore (lv' := [(6, .int 0), (0, .ref a), (1, .int x_43), (2, .int x_69), (3, .int x_70), (4, .int x_71), (5, .int x_72)]) hx hb dL_isSound_192 hl (by decide) rfl (fun ls hl => ?_)
        exact jp_194 x_43 0 _ _ hL (lv_sub hl [1, 2, 0] rfl) hf
      · have hf := (if_pos c_78).symm.trans hf
        refine lv_iload hx hb dL_isSound_140 (lv_at hl 5 rfl) ?_
        refine lv_aload_n hx hb dL_isSound_142 rfl (lv_at hl 0 rfl) ?_
        refine lv_bipush (v := 20) hx hb dL_isSound_143 (by decide) ?_
        obtain ⟨r_79, e_80, hf⟩ := xb_some hf
        refine x_callW (As := [.int 20]) (rest := [.int x_72]) S hKC (fun _ _ => rfl) h_mo (h_X7_count l G z a M 20 r_79 e_80) gL_isSound_X7_count rfl 1 (by decide +kernel) rfl ⟨Nat.le_of_ble_eq_true rfl, Nat.le_of_ble_eq_true rfl⟩ h_mo hl.1 rfl (Nat.le_of_ble_eq_true rfl) dL_isSound_145 hL ⟨Nat.zero_le _, Nat.zero_le _⟩ (fun H1 locs hL hpost => ?_)
        subst hpost
        refine lv_icmp_ne (tgt := 191) hx hb dL_isSound_148 (by decide) (fun c_81 => ?_) (fun c_81 => ?_)
        · have hf := (if_neg c_81).symm.trans hf
          refine lv_iconst (v := 0) hx hb dL_isSound_191 (by decide) ?_
          refine lv_istore (lv' := [(6, .int 0), (0, .ref a), (1, .int x_43), (2, .int x_69), (3, .int x_70), (4, .int x_71), (5, .int x_72)]) hx hb dL_isSound_192 hl (by decide) rfl (fun ls hl => ?_)
          exact jp_194 x_43 0 _ _ hL (lv_sub hl [1, 2, 0] rfl) hf
        · have hf := (if_pos c_81).symm.trans hf
          refine lv_aload_n hx hb dL_isSound_151 rfl (lv_at hl 0 rfl) ?_
          refine lv_bipush (v := 22) hx hb dL_isSound_152 (by decide) ?_
          obtain ⟨r_82, e_83, hf⟩ := xb_some hf
          refine x_callW (As := [.int 22]) (rest := []) S hKC (fun _ _ => rfl) h_mo (h_X7_count l G z a M 22 r_82 e_83) gL_isSound_X7_count rfl 1 (by decide +kernel) rfl ⟨Nat.le_of_ble_eq_true rfl, Nat.le_of_ble_eq_true rfl⟩ h_mo hl.1 rfl (Nat.le_of_ble_eq_true rfl) dL_isSound_154 hL ⟨Nat.zero_le _, Nat.zero_le _⟩ (fun H1 locs hL hpost => ?_)
          subst hpost
          refine lv_aload_n hx hb dL_isSound_157 rfl (lv_at hl 0 rfl) ?_
          refine lv_bipush (v := 23) hx hb dL_isSound_158 (by decide) ?_
          obtain ⟨r_84, e_85, hf⟩ := xb_some hf
          refine x_callW (As := [.int 23]) (rest := [.int r_82]) S hKC (fun _ _ => rfl) h_mo (h_X7_count l G z a M 23 r_84 e_85) gL_isSound_X7_count rfl 1 (by decide +kernel) rfl ⟨Nat.le_of_ble_eq_true rfl, Nat.le_of_ble_eq_true rfl⟩ h_mo hl.1 rfl (Nat.le_of_ble_eq_true rfl) dL_isSound_160 hL ⟨Nat.zero_le _, Nat.zero_le _⟩ (fun H1 locs hL hpost => ?_)
          subst hpost
          refine lv_aload_n hx hb dL_isSound_163 rfl (lv_at hl 0 rfl) ?_
          refine lv_bipush (v := 24) hx hb dL_isSound_164 (by decide) ?_
          obtain ⟨r_86, e_87, hf⟩ := xb_some hf
          refine x_callW (As := [.int 24]) (rest := [.int r_84, .int r_82]) S hKC (fun _ _ => rfl) h_mo (h_X7_count l G z a M 24 r_86 e_87) gL_isSound_X7_count rfl 1 (by decide +kernel) rfl ⟨Nat.le_of_ble_eq_true rfl, Nat.le_of_ble_eq_true rfl⟩ h_mo hl.1 rfl (Nat.le_of_ble_eq_true rfl) dL_isSound_166 hL ⟨Nat.zero_le _, Nat.zero_le _⟩ (fun H1 locs hL hpost => ?_)
          subst hpost
          refine lv_iadd hx hb dL_isSound_169 ?_
          refine lv_aload_n hx hb dL_isSound_170 rfl (lv_at hl 0 rfl) ?_
          refine lv_bipush (v := 25) hx hb dL_isSound_171 (by decide) ?_
          obtain ⟨r_88, e_89, hf⟩ := xb_some hf
          refine x_callW (As := [.int 25]) (rest := [.int (r_84 + r_86), .int r_82]) S hKC (fun _ _ => rfl) h_mo (h_X7_count l G z a M 25 r_88 e_89) gL_isSound_X7_count rfl 1 (by decide +kernel) rfl ⟨Nat.le_of_ble_eq_true rfl, Nat.le_of_ble_eq_true rfl⟩ h_mo hl.1 rfl (Nat.le_of_ble_eq_true rfl) dL_isSound_173 hL ⟨Nat.zero_le _, Nat.zero_le _⟩ (fun H1 locs hL hpost => ?_)
          subst hpost
          refine lv_iadd hx hb dL_isSound_176 ?_
          refine lv_aload_n hx hb dL_isSound_177 rfl (lv_at hl 0 rfl) ?_
          refine lv_bipush (v := 26) hx hb dL_isSound_178 (by decide) ?_
          obtain ⟨r_90, e_91, hf⟩ := xb_some hf
          refine x_callW (As := [.int 26]) (rest := [.int ((r_84 + r_86) + r_88), .int r_82]) S hKC (fun _ _ => rfl) h_mo (h_X7_count l G z a M 26 r_90 e_91) gL_isSound_X7_count rfl 1 (by decide +kernel) rfl ⟨Nat.le_of_ble_eq_true rfl, Nat.le_of_ble_eq_true rfl⟩ h_mo hl.1 rfl (Nat.le_of_ble_eq_true rfl) dL_isSound_180 hL ⟨Nat.zero_le _, Nat.zero_le _⟩ (fun H1 locs hL hpost => ?_)
          subst hpost
          refine lv_iadd hx hb dL_isSound_183 ?_
          refine lv_icmp_ne (tgt := 191) hx hb dL_isSound_184 (by decide) (fun c_92 => ?_) (fun c_92 => ?_)
          · have hf := (if_neg c_92).symm.trans hf
            refine lv_iconst (v := 0) hx hb dL_isSound_191 (by decide) ?_
            refine lv_istore (lv' := [(6, .int 0), (0, .ref a), (1, .int x_43), (2, .int x_69), (3, .int x_70), (4, .int x_71), (5, .int x_72)]) hx hb dL_isSound_192 hl (by decide) rfl (fun ls hl => ?_)
            exact jp_194 x_43 0 _ _ hL (lv_sub hl [1, 2, 0] rfl) hf
          · have hf := (if_pos c_92).symm.trans hf
            refine lv_iconst (v := 1) hx hb dL_isSound_187 (by decide) ?_
            refine lv_goto (tgt := 192) hx hb dL_isSound_188 (by decide) ?_
            refine lv_istore (lv' := [(6, .int 1), (0, .ref a), (1, .int x_43), (2, .int x_69), (3, .int x_70), (4, .int x_71), (5, .int x_72)]) hx hb dL_isSound_192 hl (by decide) rfl (fun ls hl => ?_)
            exact jp_194 x_43 1 _ _ hL (lv_sub hl [1, 2, 0] rfl) hf
