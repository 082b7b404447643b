/-! ===== the law: its loops (written by program) ===== -/
set_option maxRecDepth 100000 in
set_option maxHeartbeats 4000000 in
theorem law_loop {p : Program} {e : Env} {s : State} {m : MethodId} {below : List Frame} {meth : Method} {c : Code} {l : Launch} {b L z A O : Nat} {xs : Nat → Int32} {G : xG} {d : Nat} (S : CallFix p m c cL_law 10 s #[Value.ref b] wsL_law RL) (hr : meth.sig.returnType = ret) (hlocks : meth.locks = false) (hKC : KC2 G z s) (hX : va_X b L xs s s.heap) (hzs : s.heap.size = z) (hbl : b < z) (hA : z ≤ A) (hO : A + 230 ≤ O) (hL3 : L ≤ 260) (hd1 : 1 ≤ d) (hd : d ≤ 50) : ∀ (n k : Nat), k + n = 49 → ∀ (M N : xV) (H : Heap) (locs : List Loc) (ls : Array Slot), TW d k M N → WH G A M H → WH G O N H → (∀ q, q < z → H[q]? = s.heap[q]?) → s.heap.size ≤ H.size → (∀ q ∈ locs, z ≤ q.base) → lv_has ls 10 [(0, .ref b), (1, .ref A), (2, .ref O), (3, .int (nI d)), (4, .int 1), (5, .int (nI (k + 1)))] → W p l e room_1 s m #[Value.ref b] below meth c H locs 460 7982 (lw_Z below #[Value.ref b] s) (F0 m 92 ls []) := by
  obtain ⟨hx, hb, hml, hown, hts⟩ := id S
  have hK := hKC.1
  intro n
  induction n with
  | zero =>
    intro k hkn M N H locs ls T h_mo h_mp hz0 hsz hL hl
    have hk : k = 49 := by omega
    subst hk
    refine lv_iload hx hb dL_law_92 (lv_at hl 5 rfl) ?_
    refine lv_bipush (v := 50) hx hb dL_law_94 (by decide) ?_
    refine lv_icmp_ge (tgt := 148) hx hb dL_law_96 (by decide) (fun _ => ?_) (fun c9 => absurd (show (50 : Int32) ≤ nI (49 + 1) by decide) c9)
    exact law_tail S hr hlocks hKC hX hzs hbl hA hO hL3 T (Nat.le_refl _) hd h_mo h_mp hz0 hsz hL (lv_sub hl [0, 1, 2, 3, 4] rfl)
  | succ n ih =>
    intro k hkn M N H locs ls T h_mo h_mp hz0 hsz hL hl
    obtain ⟨M', N', e1, T'⟩ := o_step T hd1 hd (by omega) (cw L xs (k + 1))
    have e2 := alike_ok T' (by omega)
    have e3 := sound_ok T'
    refine lv_iload hx hb dL_law_92 (lv_at hl 5 rfl) ?_
    refine lv_bipush (v := 50) hx hb dL_law_94 (by decide) ?_
    refine lv_icmp_ge (tgt := 148) hx hb dL_law_96 (by decide) (fun c9 => absurd c9 (nI_ge (b := 50) (by omega) (by decide))) (fun _ => ?_)
    refine lv_iload hx hb dL_law_99 (lv_at hl 4 rfl) ?_
    refine lv_if_eq (tgt := 148) hx hb dL_law_101 (by decide) (fun c9 => absurd c9 (by decide)) (fun _ => ?_)
    refine lv_aload_n hx hb dL_law_104 rfl (lv_at hl 1 rfl) ?_
    refine lv_aload_n hx hb dL_law_105 rfl (lv_at hl 2 rfl) ?_
    refine lv_iload_n hx hb dL_law_106 rfl (lv_at hl 3 rfl) ?_
    refine lv_aload_n hx hb dL_law_107 rfl (lv_at hl 0 rfl) ?_
    refine lv_iload hx hb dL_law_108 (lv_at hl 5 rfl) ?_
    refine x_callTK (As := [.ref b, .int (nI (k + 1))]) (rest := [.int (nI d), .ref O, .ref A]) S (fun U hU hV => (hX.moved hV.alike).at hU (hz0 b hbl)) (fun U g mk q h => KX.calling h) (c_L_cell l z b L xs (k + 1) (by omega) hL3) gL_law_L_cell rfl 2 (by decide +kernel) rfl ⟨Nat.le_of_ble_eq_true rfl, Nat.le_of_ble_eq_true rfl⟩ rfl hl.1 rfl (Nat.le_of_ble_eq_true rfl) dL_law_110 hL ⟨Nat.le_of_ble_eq_true rfl, Nat.le_of_ble_eq_true rfl⟩ (fun H1 locs hL hpost => ?_)
    subst hpost
    refine x_callTK (As := [.ref A, .ref O, .int (nI d), .int (cw L xs (k + 1))]) (rest := []) S (fun U hU hV => hKC.go hz0 hU hV) (fun U g mk q h => h.calling) (c_L_isStep l G z A O M N (nI d) (cw L xs (k + 1)) 1 M' N' hA (by omega) (by omega) e1) gL_law_L_isStep rfl 4 (by decide +kernel) rfl ⟨Nat.le_of_ble_eq_true rfl, Nat.le_of_ble_eq_true rfl⟩ ⟨h_mo, h_mp⟩ hl.1 rfl (Nat.le_of_ble_eq_true rfl) dL_law_113 hL ⟨Nat.le_of_ble_eq_true rfl, Nat.le_of_ble_eq_true rfl⟩ (fun H1 locs hL hpost => ?_)
    obtain ⟨h_mo, h_mp, hfr⟩ := hpost
    have hz0 : ∀ q, q < z → H1[q]? = s.heap[q]? := fun q hq => (hfr.2 q (fun h3 => by (try dsimp only at h3); omega)).trans (hz0 q hq)
    have hsz : s.heap.size ≤ H1.size := hfr.1 ▸ hsz
    refine lv_if_eq (tgt := 139) hx hb dL_law_116 (by decide) (fun c9 => absurd c9 (by decide)) (fun _ => ?_)
    refine lv_aload_n hx hb dL_law_119 rfl (lv_at hl 1 rfl) ?_
    refine lv_aload_n hx hb dL_law_120 rfl (lv_at hl 2 rfl) ?_
    refine lv_iload_n hx hb dL_law_121 rfl (lv_at hl 3 rfl) ?_
    refine x_callTK (As := [.ref A, .ref O, .int (nI d)]) (rest := []) S (fun U hU hV => hKC.go hz0 hU hV) (fun U g mk q h => h.calling) (c_L_areAlike l G z A O M' N' (nI d) 1 e2) gL_law_L_areAlike rfl 3 (by decide +kernel) rfl ⟨Nat.le_of_ble_eq_true rfl, Nat.le_of_ble_eq_true rfl⟩ ⟨h_mo, h_mp⟩ hl.1 rfl (Nat.le_of_ble_eq_true rfl) dL_law_122 hL ⟨Nat.le_of_ble_eq_true rfl, Nat.le_of_ble_eq_true rfl⟩ (fun H1 locs hL hpost => ?_)
    subst hpost
    refine lv_if_eq (tgt := 139) hx hb dL_law_125 (by decide) (fun c9 => absurd c9 (by decide)) (fun _ => ?_)
    refine lv_aload_n hx hb dL_law_128 rfl (lv_at hl 1 rfl) ?_
    refine x_callTK (As := [.ref A]) (rest := []) S (fun U hU hV => hKC.go hz0 hU hV) (fun U g mk q h => h.calling) (c_L_isSound l G z A M' 1 e3) gL_law_L_isSound rfl 1 (by decide +kernel) rfl ⟨Nat.le_of_ble_eq_true rfl, Nat.le_of_ble_eq_true rfl⟩ h_mo hl.1 rfl (Nat.le_of_ble_eq_true rfl) dL_law_129 hL ⟨Nat.le_of_ble_eq_true rfl, Nat.le_of_ble_eq_true rfl⟩ (fun H1 locs hL hpost => ?_)
    subst hpost
    refine lv_if_eq (tgt := 139) hx hb dL_law_132 (by decide) (fun c9 => absurd c9 (by decide)) (fun _ => ?_)
    refine lv_iconst (v := 1) hx hb dL_law_135 (by decide) ?_
    refine lv_goto (tgt := 140) hx hb dL_law_136 (by decide) ?_
    refine lv_istore (lv' := [(4, .int 1), (0, .ref b), (1, .ref A), (2, .ref O), (3, .int (nI d)), (5, .int (nI (k + 1)))]) hx hb dL_law_140 hl (by decide) rfl (fun ls hl => ?_)
    refine lv_iinc (v := nI (k + 1 + 1)) (lv' := [(5, .int (nI (k + 1 + 1))), (4, .int 1), (0, .ref b), (1, .ref A), (2, .ref O), (3, .int (nI d))]) hx hb dL_law_142 hl (k := 5) rfl (nI_succ (k + 1)).symm (by decide) rfl (fun ls hl => ?_)
    refine lv_goto (tgt := 92) hx hb dL_law_145 (by decide) ?_
    exact ih (k + 1) (by omega) M' N' _ _ ls T' h_mo h_mp hz0 hsz hL (lv_sub hl [2, 3, 4, 5, 1, 0] rfl)
set_option maxRecDepth 100000 in
set_option maxHeartbeats 4000000 in
theorem law_adds {p : Program} {e : Env} {s : State} {m : MethodId} {below : List Frame} {meth : Method} {c : Code} {l : Launch} {b L z A O : Nat} {xs : Nat → Int32} {G : xG} {d : Nat} (S : CallFix p m c cL_law 10 s #[Value.ref b] wsL_law RL) (hr : meth.sig.returnType = ret) (hlocks : meth.locks = false) (hKC : KC2 G z s) (hX : va_X b L xs s s.heap) (hzs : s.heap.size = z) (hbl : b < z) (hA : z ≤ A) (hO : A + 230 ≤ O) (hL3 : L ≤ 260) (hd1 : 1 ≤ d) (hd : d ≤ 50) : ∀ (n h : Nat), h + n = 3 → ∀ (M N : xV) (H : Heap) (locs : List Loc) (ls : Array Slot), ST d h M N → WH G A M H → WH G O N H → (∀ q, q < z → H[q]? = s.heap[q]?) → s.heap.size ≤ H.size → (∀ q ∈ locs, z ≤ q.base) → lv_has ls 10 [(0, .ref b), (1, .ref A), (2, .ref O), (3, .int (nI d)), (4, .int 1), (5, .int (nI h))] → W p l e room_1 s m #[Value.ref b] below meth c H locs 460 7982 (lw_Z below #[Value.ref b] s) (F0 m 47 ls []) := by
  obtain ⟨hx, hb, hml, hown, hts⟩ := id S
  have hK := hKC.1
  intro n
  induction n with
  | zero =>
    intro h hhn M N H locs ls T h_mo h_mp hz0 hsz hL hl
    have hh : h = 3 := by omega
    subst hh
    refine lv_iload hx hb dL_law_47 (lv_at hl 5 rfl) ?_
    refine lv_iconst (v := 3) hx hb dL_law_49 (by decide) ?_
    refine lv_icmp_ge (tgt := 89) hx hb dL_law_50 (by decide) (fun _ => ?_) (fun c9 => absurd (show (3 : Int32) ≤ nI 3 by decide) c9)
    refine lv_iconst (v := nI (0 + 1)) hx hb dL_law_89 (by decide) ?_
    refine lv_istore (lv' := [(5, .int (nI (0 + 1))), (0, .ref b), (1, .ref A), (2, .ref O), (3, .int (nI d)), (4, .int 1)]) hx hb dL_law_90 hl (by decide) rfl (fun ls hl => ?_)
    exact law_loop S hr hlocks hKC hX hzs hbl hA hO hL3 hd1 hd 49 0 (by decide) M N H locs ls (go_end T) h_mo h_mp hz0 hsz hL (lv_sub hl [1, 2, 3, 4, 5, 0] rfl)
  | succ n ih =>
    intro h hhn M N H locs ls T h_mo h_mp hz0 hsz hL hl
    obtain ⟨M', N', e1, e2, T'⟩ := go_add T (by omega)
    refine lv_iload hx hb dL_law_47 (lv_at hl 5 rfl) ?_
    refine lv_iconst (v := 3) hx hb dL_law_49 (by decide) ?_
    refine lv_icmp_ge (tgt := 89) hx hb dL_law_50 (by decide) (fun c9 => absurd c9 (nI_ge (b := 3) (by omega) (by decide))) (fun _ => ?_)
    refine lv_iload hx hb dL_law_53 (lv_at hl 4 rfl) ?_
    refine lv_if_eq (tgt := 80) hx hb dL_law_55 (by decide) (fun c9 => absurd c9 (by decide)) (fun _ => ?_)
    refine lv_aload_n hx hb dL_law_58 rfl (lv_at hl 1 rfl) ?_
    refine x_callW (As := []) (rest := []) S hKC hz0 h_mo (h_X7_addHirer l G z A M (nI h) M' hA e1) gL_law_X7_addHirer rfl 0 (by decide +kernel) rfl ⟨Nat.le_of_ble_eq_true rfl, Nat.le_of_ble_eq_true rfl⟩ h_mo hl.1 rfl (Nat.le_of_ble_eq_true rfl) dL_law_59 hL ⟨Nat.le_of_ble_eq_true rfl, Nat.le_of_ble_eq_true rfl⟩ (fun H1 locs hL hpost => ?_)
    obtain ⟨h_mo, hfr⟩ := hpost
    have h_mp := h_mp.kept hfr (fun q h1 h2 h3 => by (try dsimp only at h3); omega)
    have hz0 : ∀ q, q < z → H1[q]? = s.heap[q]? := fun q hq => (hfr.2 q (fun h3 => by (try dsimp only at h3); omega)).trans (hz0 q hq)
    have hsz : s.heap.size ≤ H1.size := hfr.1 ▸ hsz
    refine lv_iload hx hb dL_law_62 (lv_at hl 5 rfl) ?_
    refine lv_icmp_ne (tgt := 80) hx hb dL_law_64 (by decide) (fun c9 => absurd rfl c9) (fun _ => ?_)
    refine lv_aload_n hx hb dL_law_67 rfl (lv_at hl 2 rfl) ?_
    refine x_callW (As := []) (rest := []) S hKC hz0 h_mp (h_X7_addHirer l G z O N (nI h) N' (by omega) e2) gL_law_X7_addHirer rfl 0 (by decide +kernel) rfl ⟨Nat.le_of_ble_eq_true rfl, Nat.le_of_ble_eq_true rfl⟩ h_mp hl.1 rfl (Nat.le_of_ble_eq_true rfl) dL_law_68 hL ⟨Nat.le_of_ble_eq_true rfl, Nat.le_of_ble_eq_true rfl⟩ (fun H1 locs hL hpost => ?_)
    obtain ⟨h_mp, hfr⟩ := hpost
    have h_mo := h_mo.kept hfr (fun q h1 h2 h3 => by (try dsimp only at h3); omega)
    have hz0 : ∀ q, q < z → H1[q]? = s.heap[q]? := fun q hq => (hfr.2 q (fun h3 => by (try dsimp only at h3); omega)).trans (hz0 q hq)
    have hsz : s.heap.size ≤ H1.size := hfr.1 ▸ hsz
    refine lv_iload hx hb dL_law_71 (lv_at hl 5 rfl) ?_
    refine lv_icmp_ne (tgt := 80) hx hb dL_law_73 (by decide) (fun c9 => absurd rfl c9) (fun _ => ?_)
    refine lv_iconst (v := 1) hx hb dL_law_76 (by decide) ?_
    refine lv_goto (tgt := 81) hx hb dL_law_77 (by decide) ?_
    refine lv_istore (lv' := [(4, .int 1), (0, .ref b), (1, .ref A), (2, .ref O), (3, .int (nI d)), (5, .int (nI h))]) hx hb dL_law_81 hl (by decide) rfl (fun ls hl => ?_)
    refine lv_iinc (v := nI (h + 1)) (lv' := [(5, .int (nI (h + 1))), (4, .int 1), (0, .ref b), (1, .ref A), (2, .ref O), (3, .int (nI d))]) hx hb dL_law_83 hl (k := 5) rfl (nI_succ h).symm (by decide) rfl (fun ls hl => ?_)
    refine lv_goto (tgt := 47) hx hb dL_law_86 (by decide) ?_
    exact ih (h + 1) (by omega) M' N' _ _ ls T' h_mo h_mp hz0 hsz hL (lv_sub hl [2, 3, 4, 5, 1, 0] rfl)
set_option maxRecDepth 100000 in
set_option maxHeartbeats 4000000 in
theorem law_mid {p : Program} {e : Env} {s : State} {m : MethodId} {below : List Frame} {meth : Method} {c : Code} {l : Launch} {b L z A O : Nat} {xs : Nat → Int32} {G : xG} {H : Heap} {locs : List Loc} {ls : Array Slot} (S : CallFix p m c cL_law 10 s #[Value.ref b] wsL_law RL) (hr : meth.sig.returnType = ret) (hlocks : meth.locks = false) (hKC : KC2 G z s) (hX : va_X b L xs s s.heap) (hzs : s.heap.size = z) (hbl : b < z) (hA : z ≤ A) (hO : A + 230 ≤ O) (hL3 : L ≤ 260) (h_mo : WH G A M0 H) (h_mp : WH G O M0 H) (hz0 : ∀ q, q < z → H[q]? = s.heap[q]?) (hsz : s.heap.size ≤ H.size) (hL : ∀ q ∈ locs, z ≤ q.base) (hl : lv_has ls 10 [(0, .ref b), (1, .ref A), (2, .ref O)]) : W p l e room_1 s m #[Value.ref b] below meth c H locs 460 7982 (lw_Z below #[Value.ref b] s) (F0 m 16 ls []) := by
  obtain ⟨hx, hb, hml, hown, hts⟩ := id S
  have hK := hKC.1
  obtain ⟨u, hu, f0⟩ := up_ok (cw L xs 0) (p2 := 50) (n := 50) rfl (by decide) (by decide)
  obtain ⟨N0, e1, T⟩ := go_pass (d := 1 + u) (by omega) (by omega)
  refine lv_iconst (v := 1) hx hb dL_law_16 (by decide) ?_
  refine lv_aload_n hx hb dL_law_17 rfl (lv_at hl 0 rfl) ?_
  refine lv_iconst (v := 0) hx hb dL_law_18 (by decide) ?_
  refine x_callTK (As := [.ref b, .int 0]) (rest := [.int 1]) S (fun U hU hV => (hX.moved hV.alike).at hU (hz0 b hbl)) (fun U g mk q h => KX.calling h) (c_L_cell l z b L xs 0 (by omega) hL3) gL_law_L_cell rfl 2 (by decide +kernel) rfl ⟨Nat.le_of_ble_eq_true rfl, Nat.le_of_ble_eq_true rfl⟩ rfl hl.1 rfl (Nat.le_of_ble_eq_true rfl) dL_law_19 hL ⟨Nat.le_of_ble_eq_true rfl, Nat.le_of_ble_eq_true rfl⟩ (fun H1 locs hL hpost => ?_)
  subst hpost
  refine lv_bipush (v := 50) hx hb dL_law_22 (by decide) ?_
  refine x_callTi (As := [.int (cw L xs 0), .int 50]) (rest := [.int 1]) S hK (c_L_up l G z ((cw L xs 0)) 50 (nI u) f0) gL_law_L_up rfl 2 (by decide +kernel) rfl ⟨Nat.le_of_ble_eq_true rfl, Nat.le_of_ble_eq_true rfl⟩ rfl hl.1 rfl (Nat.le_of_ble_eq_true rfl) dL_law_24 hL ⟨Nat.le_of_ble_eq_true rfl, Nat.le_of_ble_eq_true rfl⟩ (fun H1 locs hL hpost => ?_)
  subst hpost
  refine lv_iadd hx hb dL_law_27 ?_
  refine x_top (x := nI (1 + u)) (one_add u).symm ?_
  refine lv_istore_n (lv' := [(3, .int (nI (1 + u))), (0, .ref b), (1, .ref A), (2, .ref O)]) hx hb dL_law_28 rfl hl (by decide) rfl (fun ls hl => ?_)
  refine lv_aload_n hx hb dL_law_29 rfl (lv_at hl 3 rfl) ?_
  refine lv_iload_n hx hb dL_law_30 rfl (lv_at hl 0 rfl) ?_
  refine x_callW (As := [.int (nI (1 + u))]) (rest := []) S hKC hz0 h_mp (h_X7_pass l G z O M0 (nI (1 + u)) 0 N0 (by omega) e1) gL_law_X7_pass rfl 1 (by decide +kernel) rfl ⟨Nat.le_of_ble_eq_true rfl, Nat.le_of_ble_eq_true rfl⟩ h_mp hl.1 rfl (Nat.le_of_ble_eq_true rfl) dL_law_31 hL ⟨Nat.le_of_ble_eq_true rfl, Nat.le_of_ble_eq_true rfl⟩ (fun H1 locs hL hpost => ?_)
  obtain ⟨h_mp, hfr⟩ := hpost
  have h_mo := h_mo.kept hfr (fun q h1 h2 h3 => by (try dsimp only at h3); omega)
  have hz0 : ∀ q, q < z → H1[q]? = s.heap[q]? := fun q hq => (hfr.2 q (fun h3 => by (try dsimp only at h3); omega)).trans (hz0 q hq)
  have hsz : s.heap.size ≤ H1.size := hfr.1 ▸ hsz
  refine lv_if_ne (tgt := 41) hx hb dL_law_34 (by decide) (fun c9 => absurd c9 (by decide)) (fun _ => ?_)
  refine lv_iconst (v := 1) hx hb dL_law_37 (by decide) ?_
  refine lv_goto (tgt := 42) hx hb dL_law_38 (by decide) ?_
  refine lv_istore (lv' := [(4, .int 1), (3, .int (nI (1 + u))), (0, .ref b), (1, .ref A), (2, .ref O)]) hx hb dL_law_42 hl (by decide) rfl (fun ls hl => ?_)
  refine lv_iconst (v := nI 0) hx hb dL_law_44 (by decide) ?_
  refine lv_istore (lv' := [(5, .int (nI 0)), (4, .int 1), (3, .int (nI (1 + u))), (0, .ref b), (1, .ref A), (2, .ref O)]) hx hb dL_law_45 hl (by decide) rfl (fun ls hl => ?_)
  exact law_adds S hr hlocks hKC hX hzs hbl hA hO hL3 (by omega) (by omega) 3 0 (by decide) M0 N0 _ _ ls T h_mo h_mp hz0 hsz hL (lv_sub hl [3, 4, 5, 2, 1, 0] rfl)
