/-! ===== the constructors with loops, over KC2 ===== -/
set_option maxRecDepth 100000 in
set_option maxHeartbeats 4000000 in
theorem c2_X0_init (l : Launch) (G : xG) (z : Nat) (h : Nat) (hz : z ≤ h) : xMc l yX0_init wsX0_init 2 33 36 637 (KC2 G z) z [.ref h] (fun H => At G h (.inr (0, [.int 0, .int 0, .int 0, .null, .null, .null, .null, .null, .null])) H ∧ H.size = h + 1) none (fun H H1 => PX G h 37 (bkE G h) bk0 H1 ∧ H1.size = h + 37 ∧ ∀ q, q < h → H1[q]? = H[q]?) := by
  refine xMc.of (cc := cX0_init) (maxL := 2) (ret := none) (by decide +kernel) rfl (Nat.le_of_ble_eq_true rfl) ?_
  intro p e s m args below meth c ls Q hQ S hr hlocks hname0 hKC hP hl
  have hK := hKC.1
  have hname : meth.name = "<init>" := hname0
  obtain ⟨hx, hb, hml, hown, hts⟩ := id S
  have hL : ∀ q ∈ ([] : List Loc), z ≤ q.base := fun q h => absurd h List.not_mem_nil
  obtain ⟨hA, hsz⟩ := hP
  have hz0 : ∀ q, q < h → s.heap[q]? = s.heap[q]? := fun _ _ => rfl
  have hl : lv_has ls 2 [(0, .ref h)] := hl
  have in0 : ∀ w ∈ u_ws RX0 TX0 9, w ∈ wsX0_init := fun _ h => List.mem_cons_of_mem _ (List.mem_append_left _ (List.mem_append_left _ (List.mem_append_right _ h)))
  have in1 : ∀ w ∈ u_ws RX1 TX1 15, w ∈ wsX0_init := fun _ h => List.mem_cons_of_mem _ (List.mem_append_left _ (List.mem_append_right _ h))
  have in3 : ∀ w ∈ u_ws RX3 TX3 3, w ∈ wsX0_init := fun _ h => List.mem_cons_of_mem _ (List.mem_append_right _ h)
  obtain ⟨t1, t2, hS⟩ := hKC.2.2.2.2.2.2
  have after2 : ∀ (H : Heap) (locs : List Loc) (ls : Array Slot), (∀ q ∈ locs, z ≤ q.base) → At G h (.inr (0, [.int 0, .int 0, .int 0, .ref (h + 1), .ref (h + 2), .ref (h + 3), .ref (h + 4), .ref (h + 5), .ref (h + 30)])) H → At G (h + 30) (.inl (G.2.2.2.2, 6, .inr (.inr (.inr (.inr (fun j => if j < 6 then some (h + (31 + j)) else none)))))) H → (∀ k, 1 ≤ k → k ≠ 30 → k < 31 + 6 → At G (h + k) (bkE G h k (bk0 k)) H) → H.size = h + (31 + 6) → (∀ q, q < h → H[q]? = s.heap[q]?) → lv_has ls 2 [(0, .ref h), (1, .int (nI 6))] → W p l e { frames := 2, cells := 36, slots := 637, locals := 33 } s m args below meth c H locs (30 + 6) (619 + 18) Q (F0 m 123 ls []) := by
    intro H locs ls hL hA h30 hFam hsz hz0 hl
    refine W.cs (cells' := 36) (slots' := 637) (by omega) (by omega) ?_
    subst hQ
    refine x_vret (post := fun H H1 => PX G h 37 (bkE G h) bk0 H1 ∧ H1.size = h + 37 ∧ ∀ q, q < h → H1[q]? = H[q]?) S hr hlocks rfl ?_ hL dX0_init_123
    refine ⟨fun k hk => ?_, hsz, hz0⟩
    by_cases k0 : k = 0
    · subst k0; exact hA
    by_cases k1 : k = 30
    · subst k1; exact h30.rq fun j hj => if_pos hj
    exact hFam k (by omega) k1 hk
  have lp2 : ∀ (n i : Nat) (H : Heap) (locs : List Loc) (ls : Array Slot), i + n = 6 → (∀ q ∈ locs, z ≤ q.base) → At G h (.inr (0, [.int 0, .int 0, .int 0, .ref (h + 1), .ref (h + 2), .ref (h + 3), .ref (h + 4), .ref (h + 5), .ref (h + 30)])) H → At G (h + 30) (.inl (G.2.2.2.2, 6, .inr (.inr (.inr (.inr (fun j => if j < i then some (h + (31 + j)) else none)))))) H → (∀ k, 1 ≤ k → k ≠ 30 → k < 31 + i → At G (h + k) (bkE G h k (bk0 k)) H) → H.size = h + (31 + i) → (∀ q, q < h → H[q]? = s.heap[q]?) → lv_has ls 2 [(0, .ref h), (1, .int (nI i))] → W p l e { frames := 2, cells := 36, slots := 637, locals := 33 } s m args below meth c H locs (30 + i) (619 + 3 * i) Q (F0 m 92 ls []) := by
    intro n
    induction n with
    | zero =>
      intro i H locs ls hin hL hA h30 hFam hsz hz0 hl
      have hi : i = 6 := by omega
      subst hi
      refine lv_iload_n hx hb dX0_init_92 rfl (lv_at hl 1 rfl) ?_
      refine lv_aload_n hx hb dX0_init_93 rfl (lv_at hl 0 rfl) ?_
      refine x_getA S hK hA rfl in0 8 (by decide) (xm 20 rfl) (x := .ref (h + 30)) rfl dX0_init_94 ?_
      refine x_alenA S hK h30 3 rfl (r := 6) rfl dX0_init_97 ?_
      refine lv_icmp_ge (tgt := 123) hx hb dX0_init_98 (by decide) (fun cc1 => ?_) (fun cc1 => ?_)
      · exact after2 _ _ _ hL hA h30 hFam hsz hz0 hl
      · exact absurd (nI_le (Nat.le_refl 6) (by decide)) cc1
    | succ n ih =>
      intro i H locs ls hin hL hA h30 hFam hsz hz0 hl
      have hi : i < 6 := by omega
      refine lv_iload_n hx hb dX0_init_92 rfl (lv_at hl 1 rfl) ?_
      refine lv_aload_n hx hb dX0_init_93 rfl (lv_at hl 0 rfl) ?_
      refine x_getA S hK hA rfl in0 8 (by decide) (xm 20 rfl) (x := .ref (h + 30)) rfl dX0_init_94 ?_
      refine x_alenA S hK h30 3 rfl (r := 6) rfl dX0_init_97 ?_
      refine lv_icmp_ge (tgt := 123) hx hb dX0_init_98 (by decide) (fun cc1 => ?_) (fun cc1 => ?_)
      · exact absurd cc1 (nI_ge (b := 6) hi (by decide))
      · refine lv_aload_n hx hb dX0_init_101 rfl (lv_at hl 0 rfl) ?_
        refine x_getA S hK hA rfl in0 8 (by decide) (xm 20 rfl) (x := .ref (h + 30)) rfl dX0_init_102 ?_
        refine lv_iload_n hx hb dX0_init_105 rfl (lv_at hl 1 rfl) ?_
        refine x_new S hK (ci := 3) (fs := [.int 0, .int 0, .int 0]) rfl in3 tyX3 tyX3_ok (xm 19 rfl) (xm 21 rfl) (xm 22 rfl) (fun j hj => by rcases (show j = 0 ∨ j = 1 ∨ j = 2 by omega) with rfl | rfl | rfl <;> rfl) (by dsimp only; omega) (by dsimp only; omega) (h := h + (31 + i)) (by omega) dX0_init_106 (fun H1 hN hs1 oq => ?_)
        have hA := hA.old hsz oq
        have h30 := h30.old hsz oq
        have hFam := fun k k1 k2 k3 => (hFam k k1 k2 k3).old hsz oq
        have hz0 : ∀ q, q < h → H1[q]? = s.heap[q]? := fun q hq => (oq q (by omega)).trans (hz0 q hq)
        have hsz : H1.size = h + (31 + i) + 1 := by omega
        have hN : At G (h + (31 + i)) (.inr (3, [.int 0, .int 0, .int 0])) H1 := hN
        refine lv_dup hx hb dX0_init_109 rfl ?_
        refine lv_iload_n hx hb dX0_init_110 rfl (lv_at hl 1 rfl) ?_
        refine lv_iconst (v := 3) hx hb dX0_init_111 (by decide) ?_
        refine lv_irem hx hb dX0_init_112 (by decide) ?_
        refine x_top (x := nI (i % 3)) (by rcases (show i = 0 ∨ i = 1 ∨ i = 2 ∨ i = 3 ∨ i = 4 ∨ i = 5 by omega) with rfl | rfl | rfl | rfl | rfl | rfl <;> decide +kernel) ?_
        refine x_callI (As := [.int (nI (i % 3))]) (rest := [.ref (h + (31 + i)), .int (nI i), .ref (h + 30)]) S (fun U hU hW => hKC.go (fun q hq => hz0 q (by omega)) hU hW) (fun U g mk a h => h.calling) (c2_X3_init l G z (h + (31 + i)) (nI (i % 3)) (by omega)) gX0_init_X3_init (xm 22 rfl) (xm 30 rfl) (xm 31 rfl) rfl rfl 1 (by decide +kernel) rfl ⟨Nat.le_of_ble_eq_true rfl, Nat.le_of_ble_eq_true rfl⟩ ⟨hN, hsz⟩ hl.1 rfl (Nat.le_of_ble_eq_true rfl) dX0_init_113 hL ⟨(by dsimp only; omega), (by dsimp only; omega)⟩ (fun H1 locs hL hpost => ?_)
        obtain ⟨hN, hs1, oq⟩ := hpost
        have hA := hA.kept (oq _ (by omega))
        have h30 := h30.kept (oq _ (by omega))
        have hFam := fun k k1 k2 k3 => (hFam k k1 k2 k3).kept (oq _ (by omega))
        have hz0 : ∀ q, q < h → H1[q]? = s.heap[q]? := fun q hq => (oq q (by omega)).trans (hz0 q hq)
        have hsz : H1.size = h + (31 + i) + 1 := hs1
        refine x_aastA S hK h30 (by omega) hL hN rfl 3 rfl i (nI_clamp (by omega)) (nI_in hi (by decide)) dX0_init_116 (fun H1 locs hL h30 hs1 oq => ?_)
        have h30 : At G (h + 30) (.inl (G.2.2.2.2, 6, .inr (.inr (.inr (.inr (fun j => if j < (i + 1) then some (h + (31 + j)) else none)))))) H1 := h30.rq fun j hj => by simp only [va_up]; split <;> split <;> (try split) <;> first | rfl | omega | (congr 1; omega)
        have hA := hA.kept (oq _ (by omega))
        have hN := hN.kept (oq _ (by omega))
        have hFam : (∀ k, 1 ≤ k → k ≠ 30 → k < 31 + (i + 1) → At G (h + k) (bkE G h k (bk0 k)) H1) := fun k k1 k2 k3 => by
          by_cases e : k = 31 + i
          · subst e; exact hN.to bkE0_k.symm
          · exact (hFam k k1 k2 (by omega)).kept (oq _ (by omega))
        have hz0 : ∀ q, q < h → H1[q]? = s.heap[q]? := fun q hq => (oq q (by omega)).trans (hz0 q hq)
        have hsz : H1.size = h + (31 + (i + 1)) := by omega
        refine lv_iinc (v := nI (i + 1)) (lv' := [(1, .int (nI (i + 1))), (0, .ref h)]) hx hb dX0_init_117 hl (k := 1) rfl (nI_succ i).symm (by decide) rfl (fun ls hl => ?_)
        refine lv_goto (tgt := 92) hx hb dX0_init_120 (by decide) ?_
        refine W.cs (cells' := 30 + (i + 1)) (slots' := 619 + 3 * (i + 1)) (by omega) (by omega) ?_
        exact ih (i + 1) _ _ _ (by omega) hL hA h30 hFam hsz hz0 (lv_sub hl [1, 0] rfl)
  have after1 : ∀ (H : Heap) (locs : List Loc) (ls : Array Slot), (∀ q ∈ locs, z ≤ q.base) → At G h (.inr (0, [.int 0, .int 0, .int 0, .ref (h + 1), .ref (h + 2), .ref (h + 3), .ref (h + 4), .ref (h + 5), .null])) H → At G (h + 5) (.inl (G.2.2.2.1, 12, .inr (.inr (.inr (.inr (fun j => if j < 12 then some (h + (6 + 2 * j)) else none)))))) H → (∀ k, 1 ≤ k → k ≠ 5 → k < 6 + 2 * 12 → At G (h + k) (bkE G h k (bk0 k)) H) → H.size = h + (6 + 2 * 12) → (∀ q, q < h → H[q]? = s.heap[q]?) → lv_has ls 2 [(0, .ref h), (1, .int (nI 12))] → W p l e { frames := 2, cells := 36, slots := 637, locals := 33 } s m args below meth c H locs (5 + 2 * 12) (49 + 47 * 12) Q (F0 m 81 ls []) := by
    intro H locs ls hL hA h5 hFam hsz hz0 hl
    refine W.cs (cells' := 29) (slots' := 613) (by omega) (by omega) ?_
    have hsz : H.size = h + 30 := hsz
    have hFam : (∀ k, 1 ≤ k → k ≠ 30 → k < 31 → At G (h + k) (bkE G h k (bk0 k)) H) := fun k k1 k2 k3 => by
      by_cases e : k = 5
      · subst e; exact h5.rq fun j hj => if_pos hj
      · exact hFam k k1 e (by omega)
    refine lv_aload_n hx hb dX0_init_81 rfl (lv_at hl 0 rfl) ?_
    refine lv_bipush (v := 6) hx hb dX0_init_82 (by decide) ?_
    refine x_newr S hK (xm 19 rfl) hKC.2.2.2.1 3 rfl (by decide) (N := 6) (by decide) (by decide) (Nat.le_of_ble_eq_true rfl) (Nat.le_of_ble_eq_true rfl) (h := h + 30) (by omega) dX0_init_84 (fun H1 h30 hs1 oq => ?_)
    have hA := hA.old hsz oq
    have hFam : ∀ k, 1 ≤ k → k ≠ 30 → k < 31 → At G (h + k) (bkE G h k (bk0 k)) H1 := fun k k1 k2 k3 => (hFam k k1 k2 k3).old hsz oq
    have hz0 : ∀ q, q < h → H1[q]? = s.heap[q]? := fun q hq => (oq q (by omega)).trans (hz0 q hq)
    have hsz : H1.size = h + 31 := by omega
    have h30 : At G (h + 30) (.inl (G.2.2.2.2, 6, .inr (.inr (.inr (.inr (fun _ => none)))))) H1 := h30
    refine x_putF S hK hname hA (by omega) hL rfl in0 tyX0 tyX0_ok nmX0 8 (by decide) (xm 20 rfl) rfl rfl rfl rfl (Nat.le_of_ble_eq_true rfl) dX0_init_87 (fun H1 locs hL hA hs1 oq => ?_)
    have hA : At G (h) (.inr (0, [.int 0, .int 0, .int 0, .ref (h + 1), .ref (h + 2), .ref (h + 3), .ref (h + 4), .ref (h + 5), .ref (h + 30)])) H1 := hA
    have hFam : ∀ k, 1 ≤ k → k ≠ 30 → k < 31 → At G (h + k) (bkE G h k (bk0 k)) H1 := fun k k1 k2 k3 => (hFam k k1 k2 k3).kept (oq _ (by omega))
    have h30 := h30.kept (oq _ (by omega))
    have hz0 : ∀ q, q < h → H1[q]? = s.heap[q]? := fun q hq => (oq q (by omega)).trans (hz0 q hq)
    have hsz : H1.size = _ := hs1.trans hsz
    refine lv_iconst (v := 0) hx hb dX0_init_90 (by decide) ?_
    refine lv_istore_n (lv' := [(1, .int 0), (0, .ref h)]) hx hb dX0_init_91 rfl hl (by decide) rfl (fun ls hl => ?_)
    exact lp2 6 0 _ _ _ (by omega) hL hA (h30.rq fun j hj => by rw [if_neg (by omega)]) hFam hsz hz0 (lv_sub hl [1, 0] rfl)
  have lp1 : ∀ (n i : Nat) (H : Heap) (locs : List Loc) (ls : Array Slot), i + n = 12 → (∀ q ∈ locs, z ≤ q.base) → At G h (.inr (0, [.int 0, .int 0, .int 0, .ref (h + 1), .ref (h + 2), .ref (h + 3), .ref (h + 4), .ref (h + 5), .null])) H → At G (h + 5) (.inl (G.2.2.2.1, 12, .inr (.inr (.inr (.inr (fun j => if j < i then some (h + (6 + 2 * j)) else none)))))) H → (∀ k, 1 ≤ k → k ≠ 5 → k < 6 + 2 * i → At G (h + k) (bkE G h k (bk0 k)) H) → H.size = h + (6 + 2 * i) → (∀ q, q < h → H[q]? = s.heap[q]?) → lv_has ls 2 [(0, .ref h), (1, .int (nI i))] → W p l e { frames := 2, cells := 36, slots := 637, locals := 33 } s m args below meth c H locs (5 + 2 * i) (49 + 47 * i) Q (F0 m 52 ls []) := by
    intro n
    induction n with
    | zero =>
      intro i H locs ls hin hL hA h5 hFam hsz hz0 hl
      have hi : i = 12 := by omega
      subst hi
      refine lv_iload_n hx hb dX0_init_52 rfl (lv_at hl 1 rfl) ?_
      refine lv_aload_n hx hb dX0_init_53 rfl (lv_at hl 0 rfl) ?_
      refine x_getA S hK hA rfl in0 7 (by decide) (xm 16 rfl) (x := .ref (h + 5)) rfl dX0_init_54 ?_
      refine x_alenA S hK h5 2 rfl (r := 12) rfl dX0_init_57 ?_
      refine lv_icmp_ge (tgt := 81) hx hb dX0_init_58 (by decide) (fun cc1 => ?_) (fun cc1 => ?_)
      · exact after1 _ _ _ hL hA h5 hFam hsz hz0 hl
      · exact absurd (nI_le (Nat.le_refl 12) (by decide)) cc1
    | succ n ih =>
      intro i H locs ls hin hL hA h5 hFam hsz hz0 hl
      have hi : i < 12 := by omega
      refine lv_iload_n hx hb dX0_init_52 rfl (lv_at hl 1 rfl) ?_
      refine lv_aload_n hx hb dX0_init_53 rfl (lv_at hl 0 rfl) ?_
      refine x_getA S hK hA rfl in0 7 (by decide) (xm 16 rfl) (x := .ref (h + 5)) rfl dX0_init_54 ?_
      refine x_alenA S hK h5 2 rfl (r := 12) rfl dX0_init_57 ?_
      refine lv_icmp_ge (tgt := 81) hx hb dX0_init_58 (by decide) (fun cc1 => ?_) (fun cc1 => ?_)
      · exact absurd cc1 (nI_ge (b := 12) hi (by decide))
      · refine lv_aload_n hx hb dX0_init_61 rfl (lv_at hl 0 rfl) ?_
        refine x_getA S hK hA rfl in0 7 (by decide) (xm 16 rfl) (x := .ref (h + 5)) rfl dX0_init_62 ?_
        refine lv_iload_n hx hb dX0_init_65 rfl (lv_at hl 1 rfl) ?_
        refine x_new S hK (ci := 1) (fs := [.int 0, .int 0, .int 0, .int 0, .int 0, .int 0, .int 0, .int 0, .int 0, .int 0, .int 0, .int 0, .int 0, .int 0, .null]) rfl in1 tyX1 tyX1_ok (xm 15 rfl) (xm 17 rfl) (xm 18 rfl) (fun j hj => by rcases (show j = 0 ∨ j = 1 ∨ j = 2 ∨ j = 3 ∨ j = 4 ∨ j = 5 ∨ j = 6 ∨ j = 7 ∨ j = 8 ∨ j = 9 ∨ j = 10 ∨ j = 11 ∨ j = 12 ∨ j = 13 ∨ j = 14 by omega) with rfl | rfl | rfl | rfl | rfl | rfl | rfl | rfl | rfl | rfl | rfl | rfl | rfl | rfl | rfl <;> rfl) (by dsimp only; omega) (by dsimp only; omega) (h := h + (6 + 2 * i)) (by omega) dX0_init_66 (fun H1 hN hs1 oq => ?_)
        have hA := hA.old hsz oq
        have h5 := h5.old hsz oq
        have hFam := fun k k1 k2 k3 => (hFam k k1 k2 k3).old hsz oq
        have hz0 : ∀ q, q < h → H1[q]? = s.heap[q]? := fun q hq => (oq q (by omega)).trans (hz0 q hq)
        have hsz : H1.size = h + (6 + 2 * i) + 1 := by omega
        have hN : At G (h + (6 + 2 * i)) (.inr (1, [.int 0, .int 0, .int 0, .int 0, .int 0, .int 0, .int 0, .int 0, .int 0, .int 0, .int 0, .int 0, .int 0, .int 0, .null])) H1 := hN
        refine lv_dup hx hb dX0_init_69 rfl ?_
        refine lv_iload_n hx hb dX0_init_70 rfl (lv_at hl 1 rfl) ?_
        refine x_callI (As := [.int (nI i)]) (rest := [.ref (h + (6 + 2 * i)), .int (nI i), .ref (h + 5)]) S (fun U hU hW => hKC.go (fun q hq => hz0 q (by omega)) hU hW) (fun U g mk a h => h.calling) (c2_X1_init l G z (h + (6 + 2 * i)) (nI i) (by omega)) gX0_init_X1_init (xm 18 rfl) (xm 23 rfl) (xm 24 rfl) rfl rfl 1 (by decide +kernel) rfl ⟨Nat.le_of_ble_eq_true rfl, Nat.le_of_ble_eq_true rfl⟩ ⟨hN, hsz⟩ hl.1 rfl (Nat.le_of_ble_eq_true rfl) dX0_init_71 hL ⟨(by dsimp only; omega), (by dsimp only; omega)⟩ (fun H1 locs hL hpost => ?_)
        obtain ⟨hN, hNr, hs1, oq⟩ := hpost
        have hA := hA.kept (oq _ (by omega))
        have h5 := h5.kept (oq _ (by omega))
        have hFam := fun k k1 k2 k3 => (hFam k k1 k2 k3).kept (oq _ (by omega))
        have hz0 : ∀ q, q < h → H1[q]? = s.heap[q]? := fun q hq => (oq q (by omega)).trans (hz0 q hq)
        have hsz : H1.size = h + (6 + 2 * i) + 2 := hs1
        refine x_aastA S hK h5 (by omega) hL hN rfl 2 rfl i (nI_clamp (by omega)) (nI_in hi (by decide)) dX0_init_74 (fun H1 locs hL h5 hs1 oq => ?_)
        have h5 : At G (h + 5) (.inl (G.2.2.2.1, 12, .inr (.inr (.inr (.inr (fun j => if j < (i + 1) then some (h + (6 + 2 * j)) else none)))))) H1 := h5.rq fun j hj => by simp only [va_up]; split <;> split <;> (try split) <;> first | rfl | omega | (congr 1; omega)
        have hA := hA.kept (oq _ (by omega))
        have hN := hN.kept (oq _ (by omega))
        have hNr := hNr.kept (oq _ (by omega))
        have hFam : (∀ k, 1 ≤ k → k ≠ 5 → k < 6 + 2 * (i + 1) → At G (h + k) (bkE G h k (bk0 k)) H1) := fun k k1 k2 k3 => by
          by_cases e : k = 6 + 2 * i
          · subst e; exact hN.to (bkE0_h hi).symm
          by_cases e2 : k = 7 + 2 * i
          · subst e2; rw [show h + (7 + 2 * i) = h + (6 + 2 * i) + 1 by omega]; exact hNr.to (bkE0_f hi).symm
          · exact (hFam k k1 k2 (by omega)).kept (oq _ (by omega))
        have hz0 : ∀ q, q < h → H1[q]? = s.heap[q]? := fun q hq => (oq q (by omega)).trans (hz0 q hq)
        have hsz : H1.size = h + (6 + 2 * (i + 1)) := by omega
        refine lv_iinc (v := nI (i + 1)) (lv' := [(1, .int (nI (i + 1))), (0, .ref h)]) hx hb dX0_init_75 hl (k := 1) rfl (nI_succ i).symm (by decide) rfl (fun ls hl => ?_)
        refine lv_goto (tgt := 52) hx hb dX0_init_78 (by decide) ?_
        refine W.cs (cells' := 5 + 2 * (i + 1)) (slots' := 49 + 47 * (i + 1)) (by omega) (by omega) ?_
        exact ih (i + 1) _ _ _ (by omega) hL hA h5 hFam hsz hz0 (lv_sub hl [1, 0] rfl)
  refine lv_aload_n hx hb dX0_init_0 rfl (lv_at hl 0 rfl) ?_
  refine x_obj S (xm 1 rfl) (xm 2 rfl) (xm 3 rfl) hl.1 dX0_init_1 (Nat.le_of_ble_eq_true rfl) (Nat.le_of_ble_eq_true rfl) ?_
  refine lv_aload_n hx hb dX0_init_4 rfl (lv_at hl 0 rfl) ?_
  refine x_getsN S hS.1 (fun _ _ => rfl) (Nat.le_refl _) hL hKC.2.2.2.2.2.1 dX0_init_5 ?_
  refine x_cloneS S hK hKC.2.2.2.2.1 (xm 4 rfl) (xm 5 rfl) (xm 6 rfl) (xm 7 rfl) (xm 8 rfl) hS.2.1 hl.1 (Nat.le_of_ble_eq_true rfl) (Nat.le_of_ble_eq_true rfl) (Nat.le_of_ble_eq_true rfl) (Nat.le_of_ble_eq_true rfl) (h := h + 1) (by omega) dX0_init_8 (fun H1 h1 hs1 oq => ?_)
  have hA := hA.old hsz oq
  have hz0 : ∀ q, q < h → H1[q]? = s.heap[q]? := fun q hq => (oq q (by omega)).trans (hz0 q hq)
  have hsz : H1.size = h + 2 := by omega
  have h1 : At G (h + 1) (.inl (G.2.1, 8, .inl xsF)) H1 := h1
  refine x_castI S hK (xm 9 rfl) h1 dX0_init_11 ?_
  refine x_putF S hK hname hA (by omega) hL rfl in0 tyX0 tyX0_ok nmX0 3 (by decide) (xm 10 rfl) rfl rfl rfl rfl (Nat.le_of_ble_eq_true rfl) dX0_init_14 (fun H1 locs hL hA hs1 oq => ?_)
  have hA : At G (h) (.inr (0, [.int 0, .int 0, .int 0, .ref (h + 1), .null, .null, .null, .null, .null])) H1 := hA
  have h1 := h1.kept (oq _ (by omega))
  have hz0 : ∀ q, q < h → H1[q]? = s.heap[q]? := fun q hq => (oq q (by omega)).trans (hz0 q hq)
  have hsz : H1.size = _ := hs1.trans hsz
  refine lv_aload_n hx hb dX0_init_17 rfl (lv_at hl 0 rfl) ?_
  refine lv_bipush (v := 9) hx hb dX0_init_18 (by decide) ?_
  refine x_newi S hK (xm 11 rfl) (by decide) (N := 9) (by decide) (by decide) (Nat.le_of_ble_eq_true rfl) (Nat.le_of_ble_eq_true rfl) (h := h + 2) (by omega) dX0_init_20 (fun H1 h2 hs1 oq => ?_)
  have hA := hA.old hsz oq
  have h1 := h1.old hsz oq
  have hz0 : ∀ q, q < h → H1[q]? = s.heap[q]? := fun q hq => (oq q (by omega)).trans (hz0 q hq)
  have hsz : H1.size = h + 3 := by omega
  have h2 : At G (h + 2) (.inl (G.2.1, 9, .inl (fun _ => 0))) H1 := h2
  refine x_putF S hK hname hA (by omega) hL rfl in0 tyX0 tyX0_ok nmX0 4 (by decide) (xm 12 rfl) rfl rfl rfl rfl (Nat.le_of_ble_eq_true rfl) dX0_init_22 (fun H1 locs hL hA hs1 oq => ?_)
  have hA : At G (h) (.inr (0, [.int 0, .int 0, .int 0, .ref (h + 1), .ref (h + 2), .null, .null, .null, .null])) H1 := hA
  have h1 := h1.kept (oq _ (by omega))
  have h2 := h2.kept (oq _ (by omega))
  have hz0 : ∀ q, q < h → H1[q]? = s.heap[q]? := fun q hq => (oq q (by omega)).trans (hz0 q hq)
  have hsz : H1.size = _ := hs1.trans hsz
  refine lv_aload_n hx hb dX0_init_25 rfl (lv_at hl 0 rfl) ?_
  refine lv_bipush (v := 10) hx hb dX0_init_26 (by decide) ?_
  refine x_newi S hK (xm 11 rfl) (by decide) (N := 10) (by decide) (by decide) (Nat.le_of_ble_eq_true rfl) (Nat.le_of_ble_eq_true rfl) (h := h + 3) (by omega) dX0_init_28 (fun H1 h3 hs1 oq => ?_)
  have hA := hA.old hsz oq
  have h1 := h1.old hsz oq
  have h2 := h2.old hsz oq
  have hz0 : ∀ q, q < h → H1[q]? = s.heap[q]? := fun q hq => (oq q (by omega)).trans (hz0 q hq)
  have hsz : H1.size = h + 4 := by omega
  have h3 : At G (h + 3) (.inl (G.2.1, 10, .inl (fun _ => 0))) H1 := h3
  refine x_putF S hK hname hA (by omega) hL rfl in0 tyX0 tyX0_ok nmX0 5 (by decide) (xm 13 rfl) rfl rfl rfl rfl (Nat.le_of_ble_eq_true rfl) dX0_init_30 (fun H1 locs hL hA hs1 oq => ?_)
  have hA : At G (h) (.inr (0, [.int 0, .int 0, .int 0, .ref (h + 1), .ref (h + 2), .ref (h + 3), .null, .null, .null])) H1 := hA
  have h1 := h1.kept (oq _ (by omega))
  have h2 := h2.kept (oq _ (by omega))
  have h3 := h3.kept (oq _ (by omega))
  have hz0 : ∀ q, q < h → H1[q]? = s.heap[q]? := fun q hq => (oq q (by omega)).trans (hz0 q hq)
  have hsz : H1.size = _ := hs1.trans hsz
  refine lv_aload_n hx hb dX0_init_33 rfl (lv_at hl 0 rfl) ?_
  refine lv_bipush (v := 10) hx hb dX0_init_34 (by decide) ?_
  refine x_newi S hK (xm 11 rfl) (by decide) (N := 10) (by decide) (by decide) (Nat.le_of_ble_eq_true rfl) (Nat.le_of_ble_eq_true rfl) (h := h + 4) (by omega) dX0_init_36 (fun H1 h4 hs1 oq => ?_)
  have hA := hA.old hsz oq
  have h1 := h1.old hsz oq
  have h2 := h2.old hsz oq
  have h3 := h3.old hsz oq
  have hz0 : ∀ q, q < h → H1[q]? = s.heap[q]? := fun q hq => (oq q (by omega)).trans (hz0 q hq)
  have hsz : H1.size = h + 5 := by omega
  have h4 : At G (h + 4) (.inl (G.2.1, 10, .inl (fun _ => 0))) H1 := h4
  refine x_putF S hK hname hA (by omega) hL rfl in0 tyX0 tyX0_ok nmX0 6 (by decide) (xm 14 rfl) rfl rfl rfl rfl (Nat.le_of_ble_eq_true rfl) dX0_init_38 (fun H1 locs hL hA hs1 oq => ?_)
  have hA : At G (h) (.inr (0, [.int 0, .int 0, .int 0, .ref (h + 1), .ref (h + 2), .ref (h + 3), .ref (h + 4), .null, .null])) H1 := hA
  have h1 := h1.kept (oq _ (by omega))
  have h2 := h2.kept (oq _ (by omega))
  have h3 := h3.kept (oq _ (by omega))
  have h4 := h4.kept (oq _ (by omega))
  have hz0 : ∀ q, q < h → H1[q]? = s.heap[q]? := fun q hq => (oq q (by omega)).trans (hz0 q hq)
  have hsz : H1.size = _ := hs1.trans hsz
  refine lv_aload_n hx hb dX0_init_41 rfl (lv_at hl 0 rfl) ?_
  refine lv_bipush (v := 12) hx hb dX0_init_42 (by decide) ?_
  refine x_newr S hK (xm 15 rfl) hKC.2.2.1 2 rfl (by decide) (N := 12) (by decide) (by decide) (Nat.le_of_ble_eq_true rfl) (Nat.le_of_ble_eq_true rfl) (h := h + 5) (by omega) dX0_init_44 (fun H1 h5 hs1 oq => ?_)
  have hA := hA.old hsz oq
  have h1 := h1.old hsz oq
  have h2 := h2.old hsz oq
  have h3 := h3.old hsz oq
  have h4 := h4.old hsz oq
  have hz0 : ∀ q, q < h → H1[q]? = s.heap[q]? := fun q hq => (oq q (by omega)).trans (hz0 q hq)
  have hsz : H1.size = h + 6 := by omega
  have h5 : At G (h + 5) (.inl (G.2.2.2.1, 12, .inr (.inr (.inr (.inr (fun _ => none)))))) H1 := h5
  refine x_putF S hK hname hA (by omega) hL rfl in0 tyX0 tyX0_ok nmX0 7 (by decide) (xm 16 rfl) rfl rfl rfl rfl (Nat.le_of_ble_eq_true rfl) dX0_init_47 (fun H1 locs hL hA hs1 oq => ?_)
  have hA : At G (h) (.inr (0, [.int 0, .int 0, .int 0, .ref (h + 1), .ref (h + 2), .ref (h + 3), .ref (h + 4), .ref (h + 5), .null])) H1 := hA
  have h1 := h1.kept (oq _ (by omega))
  have h2 := h2.kept (oq _ (by omega))
  have h3 := h3.kept (oq _ (by omega))
  have h4 := h4.kept (oq _ (by omega))
  have h5 := h5.kept (oq _ (by omega))
  have hz0 : ∀ q, q < h → H1[q]? = s.heap[q]? := fun q hq => (oq q (by omega)).trans (hz0 q hq)
  have hsz : H1.size = _ := hs1.trans hsz
  refine lv_iconst (v := 0) hx hb dX0_init_50 (by decide) ?_
  refine lv_istore_n (lv' := [(1, .int 0), (0, .ref h)]) hx hb dX0_init_51 rfl hl (by decide) rfl (fun ls hl => ?_)
  exact lp1 12 0 _ _ _ (by omega) hL hA (h5.rq fun j hj => by rw [if_neg (by omega)]) (fun k k1 k2 k3 => by
    rcases (show k = 1 ∨ k = 2 ∨ k = 3 ∨ k = 4 by omega) with rfl | rfl | rfl | rfl
    · exact h1
    · exact h2
    · exact h3
    · exact h4) hsz hz0 (lv_sub hl [1, 0] rfl)
set_option maxRecDepth 100000 in
set_option maxHeartbeats 4000000 in
theorem c2_X2_init (l : Launch) (G : xG) (z : Nat) (x : Nat) (hz : z ≤ x) : xMc l yX2_init wsX2_init 3 54 149 2588 (KC2 G z) z [.ref x] (fun H => At G x (.inr (2, [.null, .int 0])) H ∧ H.size = x + 1) none (fun H H1 => PX G x 2 (hsE G x) hv0 H1 ∧ HU G x (fun _ => bk0) H1 ∧ H1.size = x + 150 ∧ ∀ q, q < x → H1[q]? = H[q]?) := by
  refine xMc.of (cc := cX2_init) (maxL := 2) (ret := none) (by decide +kernel) rfl (Nat.le_of_ble_eq_true rfl) ?_
  intro p e s m args below meth c ls Q hQ S hr hlocks hname0 hKC hP hl
  have hK := hKC.1
  have hname : meth.name = "<init>" := hname0
  obtain ⟨hx, hb, hml, hown, hts⟩ := id S
  have hL : ∀ q ∈ ([] : List Loc), z ≤ q.base := fun q h => absurd h List.not_mem_nil
  obtain ⟨hA, hsz⟩ := hP
  have hz0 : ∀ q, q < x → s.heap[q]? = s.heap[q]? := fun _ _ => rfl
  have hl : lv_has ls 2 [(0, .ref x)] := hl
  have in0 : ∀ w ∈ u_ws RX0 TX0 9, w ∈ wsX2_init := fun _ h => List.mem_cons_of_mem _ (List.mem_append_left _ (List.mem_append_left _ (List.mem_append_right _ h)))
  have in2 : ∀ w ∈ u_ws RX2 TX2 2, w ∈ wsX2_init := fun _ h => List.mem_cons_of_mem _ (List.mem_append_left _ (List.mem_append_left _ (List.mem_append_left _ (List.mem_append_right _ h))))
  have after : ∀ (H : Heap) (locs : List Loc) (ls : Array Slot), (∀ q ∈ locs, z ≤ q.base) → At G x (.inr (2, [.ref (x + 1), .int 0])) H → At G (x + 1) (.inl (G.2.2.1, 4, .inr (.inr (.inr (.inr (fun j => if j < 4 then some (x + (2 + 37 * j)) else none)))))) H → (∀ k, k < 4 → PX G (x + (2 + 37 * k)) 37 (bkE G (x + (2 + 37 * k))) bk0 H) → H.size = x + (2 + 37 * 4) → (∀ q, q < x → H[q]? = s.heap[q]?) → lv_has ls 2 [(0, .ref x), (1, .int (nI 4))] → W p l e { frames := 3, cells := 149, slots := 2588, locals := 54 } s m args below meth c H locs (1 + 37 * 4) (4 + 646 * 4) Q (F0 m 42 ls []) := by
    intro H locs ls hL hA h1 hFam hsz hz0 hl
    refine W.cs (cells' := 149) (slots' := 2588) (by omega) (by omega) ?_
    subst hQ
    refine x_vret (post := fun H H1 => PX G x 2 (hsE G x) hv0 H1 ∧ HU G x (fun _ => bk0) H1 ∧ H1.size = x + 150 ∧ ∀ q, q < x → H1[q]? = H[q]?) S hr hlocks rfl ?_ hL dX2_init_42
    refine ⟨fun k hk => ?_, fun k hk => hFam k hk, hsz, hz0⟩
    rcases (show k = 0 ∨ k = 1 by omega) with rfl | rfl
    · exact hA
    · refine h1.rq fun j hj => ?_
      rw [if_pos hj]
      show _ = some (x + (2 + 37 * (nI j).toNatClampNeg))
      rw [nI_clamp (by omega)]
  have lp : ∀ (n i : Nat) (H : Heap) (locs : List Loc) (ls : Array Slot), i + n = 4 → (∀ q ∈ locs, z ≤ q.base) → At G x (.inr (2, [.ref (x + 1), .int 0])) H → At G (x + 1) (.inl (G.2.2.1, 4, .inr (.inr (.inr (.inr (fun j => if j < i then some (x + (2 + 37 * j)) else none)))))) H → (∀ k, k < i → PX G (x + (2 + 37 * k)) 37 (bkE G (x + (2 + 37 * k))) bk0 H) → H.size = x + (2 + 37 * i) → (∀ q, q < x → H[q]? = s.heap[q]?) → lv_has ls 2 [(0, .ref x), (1, .int (nI i))] → W p l e { frames := 3, cells := 149, slots := 2588, locals := 54 } s m args below meth c H locs (1 + 37 * i) (4 + 646 * i) Q (F0 m 14 ls []) := by
    intro n
    induction n with
    | zero =>
      intro i H locs ls hin hL hA h1 hFam hsz hz0 hl
      have hi : i = 4 := by omega
      subst hi
      refine lv_iload_n hx hb dX2_init_14 rfl (lv_at hl 1 rfl) ?_
      refine lv_aload_n hx hb dX2_init_15 rfl (lv_at hl 0 rfl) ?_
      refine x_getA S hK hA rfl in2 0 (by decide) (xm 5 rfl) (x := .ref (x + 1)) rfl dX2_init_16 ?_
      refine x_alenA S hK h1 1 rfl (r := 4) rfl dX2_init_19 ?_
      refine lv_icmp_ge (tgt := 42) hx hb dX2_init_20 (by decide) (fun cc1 => ?_) (fun cc1 => ?_)
      · exact after _ _ _ hL hA h1 hFam hsz hz0 hl
      · exact absurd (nI_le (Nat.le_refl 4) (by decide)) cc1
    | succ n ih =>
      intro i H locs ls hin hL hA h1 hFam hsz hz0 hl
      have hi : i < 4 := by omega
      refine lv_iload_n hx hb dX2_init_14 rfl (lv_at hl 1 rfl) ?_
      refine lv_aload_n hx hb dX2_init_15 rfl (lv_at hl 0 rfl) ?_
      refine x_getA S hK hA rfl in2 0 (by decide) (xm 5 rfl) (x := .ref (x + 1)) rfl dX2_init_16 ?_
      refine x_alenA S hK h1 1 rfl (r := 4) rfl dX2_init_19 ?_
      refine lv_icmp_ge (tgt := 42) hx hb dX2_init_20 (by decide) (fun cc1 => ?_) (fun cc1 => ?_)
      · exact absurd cc1 (nI_ge (b := 4) hi (by decide))
      · refine lv_aload_n hx hb dX2_init_23 rfl (lv_at hl 0 rfl) ?_
        refine x_getA S hK hA rfl in2 0 (by decide) (xm 5 rfl) (x := .ref (x + 1)) rfl dX2_init_24 ?_
        refine lv_iload_n hx hb dX2_init_27 rfl (lv_at hl 1 rfl) ?_
        refine x_new S hK (ci := 0) (fs := [.int 0, .int 0, .int 0, .null, .null, .null, .null, .null, .null]) rfl in0 tyX0 tyX0_ok (xm 4 rfl) (xm 6 rfl) (xm 7 rfl) (fun j hj => by rcases (show j = 0 ∨ j = 1 ∨ j = 2 ∨ j = 3 ∨ j = 4 ∨ j = 5 ∨ j = 6 ∨ j = 7 ∨ j = 8 by omega) with rfl | rfl | rfl | rfl | rfl | rfl | rfl | rfl | rfl <;> rfl) (by dsimp only; omega) (by dsimp only; omega) (h := x + (2 + 37 * i)) (by omega) dX2_init_28 (fun H1 hN hs1 oq => ?_)
        have hA := hA.old hsz oq
        have h1 := h1.old hsz oq
        have hFam := fun k k1 => (hFam k k1).old hsz oq
        have hz0 : ∀ q, q < x → H1[q]? = s.heap[q]? := fun q hq => (oq q (by omega)).trans (hz0 q hq)
        have hsz : H1.size = x + (2 + 37 * i) + 1 := by omega
        have hN : At G (x + (2 + 37 * i)) (.inr (0, [.int 0, .int 0, .int 0, .null, .null, .null, .null, .null, .null])) H1 := hN
        refine lv_dup hx hb dX2_init_31 rfl ?_
        refine x_callI (As := []) (rest := [.ref (x + (2 + 37 * i)), .int (nI i), .ref (x + 1)]) S (fun U hU hW => hKC.go (fun q hq => hz0 q (by omega)) hU hW) (fun U g mk a h => h.calling) (c2_X0_init l G z (x + (2 + 37 * i)) (by omega)) gX2_init_X0_init (xm 7 rfl) (xm 8 rfl) (xm 9 rfl) rfl rfl 0 (by decide +kernel) rfl ⟨Nat.le_of_ble_eq_true rfl, Nat.le_of_ble_eq_true rfl⟩ ⟨hN, hsz⟩ hl.1 rfl (Nat.le_of_ble_eq_true rfl) dX2_init_32 hL ⟨(by dsimp only; omega), (by dsimp only; omega)⟩ (fun H1 locs hL hpost => ?_)
        obtain ⟨hN, hs1, oq⟩ := hpost
        have hA := hA.kept (oq _ (by omega))
        have h1 := h1.kept (oq _ (by omega))
        have hFam : ∀ k, k < i → PX G (x + (2 + 37 * k)) 37 (bkE G (x + (2 + 37 * k))) bk0 H1 := fun k k1 => (hFam k k1).below (h := x + (2 + 37 * i)) (by omega) oq
        have hz0 : ∀ q, q < x → H1[q]? = s.heap[q]? := fun q hq => (oq q (by omega)).trans (hz0 q hq)
        have hsz : H1.size = x + (2 + 37 * i) + 37 := by omega
        refine x_aastA S hK h1 (by omega) hL (show At G (x + (2 + 37 * i)) (.inr (0, _)) _ from hN 0 (by decide)) rfl 1 rfl i (nI_clamp (by omega)) (nI_in hi (by decide)) dX2_init_35 (fun H1 locs hL h1 hs1 oq => ?_)
        have h1 : At G (x + 1) (.inl (G.2.2.1, 4, .inr (.inr (.inr (.inr (fun j => if j < (i + 1) then some (x + (2 + 37 * j)) else none)))))) H1 := h1.rq fun j hj => by simp only [va_up]; split <;> split <;> (try split) <;> first | rfl | omega | (congr 1; omega)
        have hA := hA.kept (oq _ (by omega))
        have hN := hN.kept (P := fun q => q = x + 1) ⟨hs1, oq⟩ (fun q h1 h2 h3 => by (try dsimp only at h3); omega)
        have hFam : (∀ k, k < (i + 1) → PX G (x + (2 + 37 * k)) 37 (bkE G (x + (2 + 37 * k))) bk0 H1) := fun k k1 => by
          by_cases e : k = i
          · subst e; exact hN
          · exact (hFam k (by omega)).kept (P := fun q => q = x + 1) ⟨hs1, oq⟩ (fun q h1 h2 h3 => by (try dsimp only at h3); omega)
        have hz0 : ∀ q, q < x → H1[q]? = s.heap[q]? := fun q hq => (oq q (by omega)).trans (hz0 q hq)
        have hsz : H1.size = x + (2 + 37 * (i + 1)) := by omega
        refine lv_iinc (v := nI (i + 1)) (lv' := [(1, .int (nI (i + 1))), (0, .ref x)]) hx hb dX2_init_36 hl (k := 1) rfl (nI_succ i).symm (by decide) rfl (fun ls hl => ?_)
        refine lv_goto (tgt := 14) hx hb dX2_init_39 (by decide) ?_
        refine W.cs (cells' := 1 + 37 * (i + 1)) (slots' := 4 + 646 * (i + 1)) (by omega) (by omega) ?_
        exact ih (i + 1) _ _ _ (by omega) hL hA h1 hFam hsz hz0 (lv_sub hl [1, 0] rfl)
  refine lv_aload_n hx hb dX2_init_0 rfl (lv_at hl 0 rfl) ?_
  refine x_obj S (xm 1 rfl) (xm 2 rfl) (xm 3 rfl) hl.1 dX2_init_1 (Nat.le_of_ble_eq_true rfl) (Nat.le_of_ble_eq_true rfl) ?_
  refine lv_aload_n hx hb dX2_init_4 rfl (lv_at hl 0 rfl) ?_
  refine lv_iconst (v := 4) hx hb dX2_init_5 (by decide) ?_
  refine x_newr S hK (xm 4 rfl) hKC.2.1 1 rfl (by decide) (N := 4) (by decide) (by decide) (Nat.le_of_ble_eq_true rfl) (Nat.le_of_ble_eq_true rfl) (h := x + 1) (by omega) dX2_init_6 (fun H1 h1 hs1 oq => ?_)
  have hA := hA.old hsz oq
  have hz0 : ∀ q, q < x → H1[q]? = s.heap[q]? := fun q hq => (oq q (by omega)).trans (hz0 q hq)
  have hsz : H1.size = x + 2 := by omega
  have h1 : At G (x + 1) (.inl (G.2.2.1, 4, .inr (.inr (.inr (.inr (fun _ => none)))))) H1 := h1
  refine x_putF S hK hname hA (by omega) hL rfl in2 tyX2 tyX2_ok nmX2 0 (by decide) (xm 5 rfl) rfl rfl rfl rfl (Nat.le_of_ble_eq_true rfl) dX2_init_9 (fun H1 locs hL hA hs1 oq => ?_)
  have hA : At G (x) (.inr (2, [.ref (x + 1), .int 0])) H1 := hA
  have h1 := h1.kept (oq _ (by omega))
  have hz0 : ∀ q, q < x → H1[q]? = s.heap[q]? := fun q hq => (oq q (by omega)).trans (hz0 q hq)
  have hsz : H1.size = _ := hs1.trans hsz
  refine lv_iconst (v := 0) hx hb dX2_init_12 (by decide) ?_
  refine lv_istore_n (lv' := [(1, .int 0), (0, .ref x)]) hx hb dX2_init_13 rfl hl (by decide) rfl (fun ls hl => ?_)
  exact lp 4 0 _ _ _ (by omega) hL hA (h1.rq fun j hj => by rw [if_neg (by omega)]) (fun k k1 => absurd k1 (Nat.not_lt_zero k)) hsz hz0 (lv_sub hl [1, 0] rfl)
