/-! ===== the other constructors, set, over KC2 ===== -/
set_option maxRecDepth 100000 in
set_option maxHeartbeats 4000000 in
theorem c2_X5_init (l : Launch) (G : xG) (z : Nat) (y : Nat) (hz : z ≤ y) : xMc l yX5_init wsX5_init 3 54 38 653 (KC2 G z) z [.ref y] (fun H => At G y (.inr (5, [.null, .null, .int 0, .int 0, .int 0, .int 0])) H ∧ H.size = y + 1) none (fun H H1 => PX G y 1 (trE y) (fun _ _ => 0) H1 ∧ PX G (y + 1) 37 (bkE G (y + 1)) bk0 H1 ∧ PX G (y + 38) 1 wsE (fun _ _ => 0) H1 ∧ H1.size = y + 39 ∧ ∀ q, q < y → H1[q]? = H[q]?) := by
  refine xMc.of (cc := cX5_init) (maxL := 1) (ret := none) (by decide +kernel) rfl (Nat.le_of_ble_eq_true rfl) ?_
  intro p e s m args below meth c ls Q hQ S hr hlocks hname0 hKC hP hl
  have hK := hKC.1
  have hname : meth.name = "<init>" := hname0
  obtain ⟨hx, hb, hml, hown, hts⟩ := id S
  have hL : ∀ q ∈ ([] : List Loc), z ≤ q.base := fun q h => absurd h List.not_mem_nil
  obtain ⟨hA, hsz⟩ := hP
  have hz0 : ∀ q, q < y → s.heap[q]? = s.heap[q]? := fun _ _ => rfl
  have hl : lv_has ls 1 [(0, .ref y)] := hl
  have in0 : ∀ w ∈ u_ws RX0 TX0 9, w ∈ wsX5_init := fun _ h => List.mem_cons_of_mem _ (List.mem_append_left _ (List.mem_append_left _ (List.mem_append_left _ (List.mem_append_left _ (List.mem_append_right _ h)))))
  have in5 : ∀ w ∈ u_ws RX5 TX5 6, w ∈ wsX5_init := fun _ h => List.mem_cons_of_mem _ (List.mem_append_left _ (List.mem_append_left _ (List.mem_append_left _ (List.mem_append_right _ h))))
  have in6 : ∀ w ∈ u_ws RX6 TX6 7, w ∈ wsX5_init := fun _ h => List.mem_cons_of_mem _ (List.mem_append_left _ (List.mem_append_left _ (List.mem_append_right _ h)))
  refine lv_aload_n hx hb dX5_init_0 rfl (lv_at hl 0 rfl) ?_
  refine x_obj S (xm 1 rfl) (xm 2 rfl) (xm 3 rfl) hl.1 dX5_init_1 (Nat.le_of_ble_eq_true rfl) (Nat.le_of_ble_eq_true rfl) ?_
  refine lv_aload_n hx hb dX5_init_4 rfl (lv_at hl 0 rfl) ?_
  refine x_new S hK (ci := 0) (fs := [.int 0, .int 0, .int 0, .null, .null, .null, .null, .null, .null]) rfl in0 tyX0 tyX0_ok (xm 4 rfl) (xm 5 rfl) (xm 6 rfl) (fun j hj => by rcases (show j = 0 ∨ j = 1 ∨ j = 2 ∨ j = 3 ∨ j = 4 ∨ j = 5 ∨ j = 6 ∨ j = 7 ∨ j = 8 by omega) with rfl | rfl | rfl | rfl | rfl | rfl | rfl | rfl | rfl <;> rfl) (Nat.le_of_ble_eq_true rfl) (Nat.le_of_ble_eq_true rfl) (h := y + 1) (by omega) dX5_init_5 (fun H1 hB hs1 oq => ?_)
  have hA := hA.old hsz oq
  have hz0 : ∀ q, q < y → H1[q]? = s.heap[q]? := fun q hq => (oq q (by omega)).trans (hz0 q hq)
  have hsz : H1.size = y + 2 := by omega
  have hB : At G (y + 1) (.inr (0, [.int 0, .int 0, .int 0, .null, .null, .null, .null, .null, .null])) H1 := hB
  refine lv_dup hx hb dX5_init_8 rfl ?_
  refine x_callI (As := []) (rest := [.ref (y + 1), .ref y]) S (fun U hU hW => hKC.go (fun q hq => hz0 q (by omega)) hU hW) (fun U g mk a h => h.calling) (c2_X0_init l G z (y + 1) (by omega)) gX5_init_X0_init (xm 6 rfl) (xm 12 rfl) (xm 13 rfl) rfl rfl 0 (by decide +kernel) rfl ⟨Nat.le_of_ble_eq_true rfl, Nat.le_of_ble_eq_true rfl⟩ ⟨hB, hsz⟩ hl.1 rfl (Nat.le_of_ble_eq_true rfl) dX5_init_9 hL ⟨Nat.le_of_ble_eq_true rfl, Nat.le_of_ble_eq_true rfl⟩ (fun H1 locs hL hpost => ?_)
  obtain ⟨hB, hs1, oq⟩ := hpost
  have hA := hA.kept (oq _ (by omega))
  have hz0 : ∀ q, q < y → H1[q]? = s.heap[q]? := fun q hq => (oq q (by omega)).trans (hz0 q hq)
  have hsz : H1.size = y + 38 := by omega
  refine x_putF S hK hname hA (by omega) hL rfl in5 tyX5 tyX5_ok nmX5 0 (by decide) (xm 7 rfl) rfl rfl rfl rfl (Nat.le_of_ble_eq_true rfl) dX5_init_12 (fun H1 locs hL hA hs1 oq => ?_)
  have hA : At G (y) (.inr (5, [.ref (y + 1), .null, .int 0, .int 0, .int 0, .int 0])) H1 := hA
  have hB := hB.kept (P := fun q => q = y) ⟨hs1, oq⟩ (fun q h1 h2 h3 => by (try dsimp only at h3); omega)
  have hz0 : ∀ q, q < y → H1[q]? = s.heap[q]? := fun q hq => (oq q (by omega)).trans (hz0 q hq)
  have hsz : H1.size = _ := hs1.trans hsz
  refine lv_aload_n hx hb dX5_init_15 rfl (lv_at hl 0 rfl) ?_
  refine x_new S hK (ci := 6) (fs := [.int 0, .int 0, .int 0, .int 0, .int 0, .int 0, .int 0]) rfl in6 tyX6 tyX6_ok (xm 8 rfl) (xm 9 rfl) (xm 10 rfl) (fun j hj => by rcases (show j = 0 ∨ j = 1 ∨ j = 2 ∨ j = 3 ∨ j = 4 ∨ j = 5 ∨ j = 6 by omega) with rfl | rfl | rfl | rfl | rfl | rfl | rfl <;> rfl) (Nat.le_of_ble_eq_true rfl) (Nat.le_of_ble_eq_true rfl) (h := y + 38) (by omega) dX5_init_16 (fun H1 hW hs1 oq => ?_)
  have hA := hA.old hsz oq
  have hB := hB.old hsz oq
  have hz0 : ∀ q, q < y → H1[q]? = s.heap[q]? := fun q hq => (oq q (by omega)).trans (hz0 q hq)
  have hsz : H1.size = y + 39 := by omega
  have hW : At G (y + 38) (.inr (6, [.int 0, .int 0, .int 0, .int 0, .int 0, .int 0, .int 0])) H1 := hW
  refine lv_dup hx hb dX5_init_19 rfl ?_
  refine x_callIN (As := []) (rest := [.ref (y + 38), .ref y]) S (fun U hU hW => hKC.go (fun q hq => hz0 q (by omega)) hU hW) (fun U g mk a h => h.calling) (c2_X6_init l G z (y + 38)) gX5_init_X6_init_n20 (xm 10 rfl) hKC.1.2.1 (xm 48 rfl) rfl rfl 0 (by decide +kernel) rfl ⟨Nat.le_of_ble_eq_true rfl, Nat.le_of_ble_eq_true rfl⟩ rfl hl.1 rfl (Nat.le_of_ble_eq_true rfl) dX5_init_20 hL ⟨Nat.le_of_ble_eq_true rfl, Nat.le_of_ble_eq_true rfl⟩ (fun H1 locs hL hpost => ?_)
  subst hpost
  refine x_putF S hK hname hA (by omega) hL rfl in5 tyX5 tyX5_ok nmX5 1 (by decide) (xm 11 rfl) rfl rfl rfl rfl (Nat.le_of_ble_eq_true rfl) dX5_init_23 (fun H1 locs hL hA hs1 oq => ?_)
  have hA : At G (y) (.inr (5, [.ref (y + 1), .ref (y + 38), .int 0, .int 0, .int 0, .int 0])) H1 := hA
  have hB := hB.kept (P := fun q => q = y) ⟨hs1, oq⟩ (fun q h1 h2 h3 => by (try dsimp only at h3); omega)
  have hW := hW.kept (oq _ (by omega))
  have hz0 : ∀ q, q < y → H1[q]? = s.heap[q]? := fun q hq => (oq q (by omega)).trans (hz0 q hq)
  have hsz : H1.size = _ := hs1.trans hsz
  refine W.cs (cells' := 38) (slots' := 653) (by omega) (by omega) ?_
  subst hQ
  refine x_vret (post := fun H H1 => PX G y 1 (trE y) (fun _ _ => 0) H1 ∧ PX G (y + 1) 37 (bkE G (y + 1)) bk0 H1 ∧ PX G (y + 38) 1 wsE (fun _ _ => 0) H1 ∧ H1.size = y + 39 ∧ ∀ q, q < y → H1[q]? = H[q]?) S hr hlocks rfl ?_ hL dX5_init_26
  refine ⟨fun k hk => ?_, hB, fun k hk => ?_, hsz, hz0⟩
  · rw [show k = 0 by omega]; exact hA
  · rw [show k = 0 by omega]; exact hW
set_option maxRecDepth 100000 in
set_option maxHeartbeats 4000000 in
theorem c2_X7_init (l : Launch) (G : xG) (z : Nat) (a : Nat) (hz : z ≤ a) : xMc l yX7_init wsX7_init 4 75 229 3985 (KC2 G z) z [.ref a] (fun H => At G a (.inr (7, [.null, .null, .null, .null, .null, .int 0])) H ∧ H.size = a + 1) none (fun H H1 => PX G a 1 (hlE a) (fun _ j => if j = 5 then -1 else 0) H1 ∧ PX G (a + 1) 37 (bkE G (a + 1)) bk0 H1 ∧ PX G (a + 38) 2 (hsE G (a + 38)) hv0 H1 ∧ HU G (a + 38) (fun _ => bk0) H1 ∧ PX G (a + 188) 2 (txE G (a + 188)) (fun _ _ => 0) H1 ∧ PX G (a + 190) 1 (trE (a + 190)) (fun _ _ => 0) H1 ∧ PX G (a + 190 + 1) 37 (bkE G (a + 190 + 1)) bk0 H1 ∧ PX G (a + 190 + 38) 1 wsE (fun _ _ => 0) H1 ∧ PX G (a + 229) 1 wsE (fun _ _ => 0) H1 ∧ H1.size = a + 230 ∧ ∀ q, q < a → H1[q]? = H[q]?) := by
  refine xMc.of (cc := cX7_init) (maxL := 1) (ret := none) (by decide +kernel) rfl (Nat.le_of_ble_eq_true rfl) ?_
  intro p e s m args below meth c ls Q hQ S hr hlocks hname0 hKC hP hl
  have hK := hKC.1
  have hname : meth.name = "<init>" := hname0
  obtain ⟨hx, hb, hml, hown, hts⟩ := id S
  have hL : ∀ q ∈ ([] : List Loc), z ≤ q.base := fun q h => absurd h List.not_mem_nil
  obtain ⟨hA, hsz⟩ := hP
  have hz0 : ∀ q, q < a → s.heap[q]? = s.heap[q]? := fun _ _ => rfl
  have hl : lv_has ls 1 [(0, .ref a)] := hl
  have in0 : ∀ w ∈ u_ws RX0 TX0 9, w ∈ wsX7_init := fun _ h => List.mem_cons_of_mem _ (List.mem_append_left _ (List.mem_append_left _ (List.mem_append_left _ (List.mem_append_left _ (List.mem_append_left _ (List.mem_append_left _ (List.mem_append_left _ (List.mem_append_right _ h))))))))
  have in2 : ∀ w ∈ u_ws RX2 TX2 2, w ∈ wsX7_init := fun _ h => List.mem_cons_of_mem _ (List.mem_append_left _ (List.mem_append_left _ (List.mem_append_left _ (List.mem_append_left _ (List.mem_append_left _ (List.mem_append_right _ h))))))
  have in4 : ∀ w ∈ u_ws RX4 TX4 3, w ∈ wsX7_init := fun _ h => List.mem_cons_of_mem _ (List.mem_append_left _ (List.mem_append_left _ (List.mem_append_left _ (List.mem_append_left _ (List.mem_append_right _ h)))))
  have in5 : ∀ w ∈ u_ws RX5 TX5 6, w ∈ wsX7_init := fun _ h => List.mem_cons_of_mem _ (List.mem_append_left _ (List.mem_append_left _ (List.mem_append_left _ (List.mem_append_right _ h))))
  have in6 : ∀ w ∈ u_ws RX6 TX6 7, w ∈ wsX7_init := fun _ h => List.mem_cons_of_mem _ (List.mem_append_left _ (List.mem_append_left _ (List.mem_append_right _ h)))
  have in7 : ∀ w ∈ u_ws RX7 TX7 6, w ∈ wsX7_init := fun _ h => List.mem_cons_of_mem _ (List.mem_append_left _ (List.mem_append_left _ (List.mem_append_left _ (List.mem_append_left _ (List.mem_append_left _ (List.mem_append_left _ (List.mem_append_right _ h)))))))
  refine lv_aload_n hx hb dX7_init_0 rfl (lv_at hl 0 rfl) ?_
  refine x_obj S (xm 1 rfl) (xm 2 rfl) (xm 3 rfl) hl.1 dX7_init_1 (Nat.le_of_ble_eq_true rfl) (Nat.le_of_ble_eq_true rfl) ?_
  refine lv_aload_n hx hb dX7_init_4 rfl (lv_at hl 0 rfl) ?_
  refine x_new S hK (ci := 0) (fs := [.int 0, .int 0, .int 0, .null, .null, .null, .null, .null, .null]) rfl in0 tyX0 tyX0_ok (xm 4 rfl) (xm 5 rfl) (xm 6 rfl) (fun j hj => by rcases (show j = 0 ∨ j = 1 ∨ j = 2 ∨ j = 3 ∨ j = 4 ∨ j = 5 ∨ j = 6 ∨ j = 7 ∨ j = 8 by omega) with rfl | rfl | rfl | rfl | rfl | rfl | rfl | rfl | rfl <;> rfl) (Nat.le_of_ble_eq_true rfl) (Nat.le_of_ble_eq_true rfl) (h := a + 1) (by omega) dX7_init_5 (fun H1 hB hs1 oq => ?_)
  have hA := hA.old hsz oq
  have hz0 : ∀ q, q < a → H1[q]? = s.heap[q]? := fun q hq => (oq q (by omega)).trans (hz0 q hq)
  have hsz : H1.size = a + 2 := by omega
  have hB : At G (a + 1) (.inr (0, [.int 0, .int 0, .int 0, .null, .null, .null, .null, .null, .null])) H1 := hB
  refine lv_dup hx hb dX7_init_8 rfl ?_
  refine x_callI (As := []) (rest := [.ref (a + 1), .ref a]) S (fun U hU hW => hKC.go (fun q hq => hz0 q (by omega)) hU hW) (fun U g mk a h => h.calling) (c2_X0_init l G z (a + 1) (by omega)) gX7_init_X0_init (xm 6 rfl) (xm 25 rfl) (xm 26 rfl) rfl rfl 0 (by decide +kernel) rfl ⟨Nat.le_of_ble_eq_true rfl, Nat.le_of_ble_eq_true rfl⟩ ⟨hB, hsz⟩ hl.1 rfl (Nat.le_of_ble_eq_true rfl) dX7_init_9 hL ⟨Nat.le_of_ble_eq_true rfl, Nat.le_of_ble_eq_true rfl⟩ (fun H1 locs hL hpost => ?_)
  obtain ⟨hB, hs1, oq⟩ := hpost
  have hA := hA.kept (oq _ (by omega))
  have hz0 : ∀ q, q < a → H1[q]? = s.heap[q]? := fun q hq => (oq q (by omega)).trans (hz0 q hq)
  have hsz : H1.size = a + 38 := by omega
  refine x_putF S hK hname hA (by omega) hL rfl in7 tyX7 tyX7_ok nmX7 0 (by decide) (xm 7 rfl) rfl rfl rfl rfl (Nat.le_of_ble_eq_true rfl) dX7_init_12 (fun H1 locs hL hA hs1 oq => ?_)
  have hA : At G (a) (.inr (7, [.ref (a + 1), .null, .null, .null, .null, .int 0])) H1 := hA
  have hB := hB.kept (P := fun q => q = a) ⟨hs1, oq⟩ (fun q h1 h2 h3 => by (try dsimp only at h3); omega)
  have hz0 : ∀ q, q < a → H1[q]? = s.heap[q]? := fun q hq => (oq q (by omega)).trans (hz0 q hq)
  have hsz : H1.size = _ := hs1.trans hsz
  refine lv_aload_n hx hb dX7_init_15 rfl (lv_at hl 0 rfl) ?_
  refine x_new S hK (ci := 2) (fs := [.null, .int 0]) rfl in2 tyX2 tyX2_ok (xm 8 rfl) (xm 9 rfl) (xm 10 rfl) (fun j hj => by rcases (show j = 0 ∨ j = 1 by omega) with rfl | rfl <;> rfl) (Nat.le_of_ble_eq_true rfl) (Nat.le_of_ble_eq_true rfl) (h := a + 38) (by omega) dX7_init_16 (fun H1 hS hs1 oq => ?_)
  have hA := hA.old hsz oq
  have hB := hB.old hsz oq
  have hz0 : ∀ q, q < a → H1[q]? = s.heap[q]? := fun q hq => (oq q (by omega)).trans (hz0 q hq)
  have hsz : H1.size = a + 39 := by omega
  have hS : At G (a + 38) (.inr (2, [.null, .int 0])) H1 := hS
  refine lv_dup hx hb dX7_init_19 rfl ?_
  refine x_callI (As := []) (rest := [.ref (a + 38), .ref a]) S (fun U hU hW => hKC.go (fun q hq => hz0 q (by omega)) hU hW) (fun U g mk a h => h.calling) (c2_X2_init l G z (a + 38) (by omega)) gX7_init_X2_init (xm 10 rfl) (xm 61 rfl) (xm 62 rfl) rfl rfl 0 (by decide +kernel) rfl ⟨Nat.le_of_ble_eq_true rfl, Nat.le_of_ble_eq_true rfl⟩ ⟨hS, hsz⟩ hl.1 rfl (Nat.le_of_ble_eq_true rfl) dX7_init_20 hL ⟨Nat.le_of_ble_eq_true rfl, Nat.le_of_ble_eq_true rfl⟩ (fun H1 locs hL hpost => ?_)
  obtain ⟨hS, hSU, hs1, oq⟩ := hpost
  have hA := hA.kept (oq _ (by omega))
  have hB := hB.below (by omega) oq
  have hz0 : ∀ q, q < a → H1[q]? = s.heap[q]? := fun q hq => (oq q (by omega)).trans (hz0 q hq)
  have hsz : H1.size = a + 188 := by omega
  refine x_putF S hK hname hA (by omega) hL rfl in7 tyX7 tyX7_ok nmX7 1 (by decide) (xm 11 rfl) rfl rfl rfl rfl (Nat.le_of_ble_eq_true rfl) dX7_init_23 (fun H1 locs hL hA hs1 oq => ?_)
  have hA : At G (a) (.inr (7, [.ref (a + 1), .ref (a + 38), .null, .null, .null, .int 0])) H1 := hA
  have hB := hB.kept (P := fun q => q = a) ⟨hs1, oq⟩ (fun q h1 h2 h3 => by (try dsimp only at h3); omega)
  have hS := hS.kept (P := fun q => q = a) ⟨hs1, oq⟩ (fun q h1 h2 h3 => by (try dsimp only at h3); omega)
  have hSU := hSU.kept (P := fun q => q = a) ⟨hs1, oq⟩ (fun q h1 h2 h3 => by (try dsimp only at h3); omega)
  have hz0 : ∀ q, q < a → H1[q]? = s.heap[q]? := fun q hq => (oq q (by omega)).trans (hz0 q hq)
  have hsz : H1.size = _ := hs1.trans hsz
  refine lv_aload_n hx hb dX7_init_26 rfl (lv_at hl 0 rfl) ?_
  refine x_new S hK (ci := 4) (fs := [.null, .int 0, .int 0]) rfl in4 tyX4 tyX4_ok (xm 12 rfl) (xm 13 rfl) (xm 14 rfl) (fun j hj => by rcases (show j = 0 ∨ j = 1 ∨ j = 2 by omega) with rfl | rfl | rfl <;> rfl) (Nat.le_of_ble_eq_true rfl) (Nat.le_of_ble_eq_true rfl) (h := a + 188) (by omega) dX7_init_27 (fun H1 hT hs1 oq => ?_)
  have hA := hA.old hsz oq
  have hB := hB.old hsz oq
  have hS := hS.old hsz oq
  have hSU := hSU.old hsz oq
  have hz0 : ∀ q, q < a → H1[q]? = s.heap[q]? := fun q hq => (oq q (by omega)).trans (hz0 q hq)
  have hsz : H1.size = a + 189 := by omega
  have hT : At G (a + 188) (.inr (4, [.null, .int 0, .int 0])) H1 := hT
  refine lv_dup hx hb dX7_init_30 rfl ?_
  refine x_callI (As := []) (rest := [.ref (a + 188), .ref a]) S (fun U hU hW => hKC.go (fun q hq => hz0 q (by omega)) hU hW) (fun U g mk a h => h.calling) (c2_X4_init l G z (a + 188) (by omega)) gX7_init_X4_init (xm 14 rfl) (xm 68 rfl) (xm 69 rfl) rfl rfl 0 (by decide +kernel) rfl ⟨Nat.le_of_ble_eq_true rfl, Nat.le_of_ble_eq_true rfl⟩ ⟨hT, hsz⟩ hl.1 rfl (Nat.le_of_ble_eq_true rfl) dX7_init_31 hL ⟨Nat.le_of_ble_eq_true rfl, Nat.le_of_ble_eq_true rfl⟩ (fun H1 locs hL hpost => ?_)
  obtain ⟨hT, hs1, oq⟩ := hpost
  have hA := hA.kept (oq _ (by omega))
  have hB := hB.below (by omega) oq
  have hS := hS.below (by omega) oq
  have hSU := hSU.below (by omega) oq
  have hz0 : ∀ q, q < a → H1[q]? = s.heap[q]? := fun q hq => (oq q (by omega)).trans (hz0 q hq)
  have hsz : H1.size = a + 190 := by omega
  refine x_putF S hK hname hA (by omega) hL rfl in7 tyX7 tyX7_ok nmX7 2 (by decide) (xm 15 rfl) rfl rfl rfl rfl (Nat.le_of_ble_eq_true rfl) dX7_init_34 (fun H1 locs hL hA hs1 oq => ?_)
  have hA : At G (a) (.inr (7, [.ref (a + 1), .ref (a + 38), .ref (a + 188), .null, .null, .int 0])) H1 := hA
  have hB := hB.kept (P := fun q => q = a) ⟨hs1, oq⟩ (fun q h1 h2 h3 => by (try dsimp only at h3); omega)
  have hS := hS.kept (P := fun q => q = a) ⟨hs1, oq⟩ (fun q h1 h2 h3 => by (try dsimp only at h3); omega)
  have hSU := hSU.kept (P := fun q => q = a) ⟨hs1, oq⟩ (fun q h1 h2 h3 => by (try dsimp only at h3); omega)
  have hT := hT.kept (P := fun q => q = a) ⟨hs1, oq⟩ (fun q h1 h2 h3 => by (try dsimp only at h3); omega)
  have hz0 : ∀ q, q < a → H1[q]? = s.heap[q]? := fun q hq => (oq q (by omega)).trans (hz0 q hq)
  have hsz : H1.size = _ := hs1.trans hsz
  refine lv_aload_n hx hb dX7_init_37 rfl (lv_at hl 0 rfl) ?_
  refine x_new S hK (ci := 5) (fs := [.null, .null, .int 0, .int 0, .int 0, .int 0]) rfl in5 tyX5 tyX5_ok (xm 16 rfl) (xm 17 rfl) (xm 18 rfl) (fun j hj => by rcases (show j = 0 ∨ j = 1 ∨ j = 2 ∨ j = 3 ∨ j = 4 ∨ j = 5 by omega) with rfl | rfl | rfl | rfl | rfl | rfl <;> rfl) (Nat.le_of_ble_eq_true rfl) (Nat.le_of_ble_eq_true rfl) (h := a + 190) (by omega) dX7_init_38 (fun H1 hY hs1 oq => ?_)
  have hA := hA.old hsz oq
  have hB := hB.old hsz oq
  have hS := hS.old hsz oq
  have hSU := hSU.old hsz oq
  have hT := hT.old hsz oq
  have hz0 : ∀ q, q < a → H1[q]? = s.heap[q]? := fun q hq => (oq q (by omega)).trans (hz0 q hq)
  have hsz : H1.size = a + 191 := by omega
  have hY : At G (a + 190) (.inr (5, [.null, .null, .int 0, .int 0, .int 0, .int 0])) H1 := hY
  refine lv_dup hx hb dX7_init_41 rfl ?_
  refine x_callI (As := []) (rest := [.ref (a + 190), .ref a]) S (fun U hU hW => hKC.go (fun q hq => hz0 q (by omega)) hU hW) (fun U g mk a h => h.calling) (c2_X5_init l G z (a + 190) (by omega)) gX7_init_X5_init (xm 18 rfl) (xm 73 rfl) (xm 74 rfl) rfl rfl 0 (by decide +kernel) rfl ⟨Nat.le_of_ble_eq_true rfl, Nat.le_of_ble_eq_true rfl⟩ ⟨hY, hsz⟩ hl.1 rfl (Nat.le_of_ble_eq_true rfl) dX7_init_42 hL ⟨Nat.le_of_ble_eq_true rfl, Nat.le_of_ble_eq_true rfl⟩ (fun H1 locs hL hpost => ?_)
  obtain ⟨hY, hYB, hYW, hs1, oq⟩ := hpost
  have hA := hA.kept (oq _ (by omega))
  have hB := hB.below (by omega) oq
  have hS := hS.below (by omega) oq
  have hSU := hSU.below (by omega) oq
  have hT := hT.below (by omega) oq
  have hz0 : ∀ q, q < a → H1[q]? = s.heap[q]? := fun q hq => (oq q (by omega)).trans (hz0 q hq)
  have hsz : H1.size = a + 229 := by omega
  refine x_putF S hK hname hA (by omega) hL rfl in7 tyX7 tyX7_ok nmX7 3 (by decide) (xm 19 rfl) rfl rfl rfl rfl (Nat.le_of_ble_eq_true rfl) dX7_init_45 (fun H1 locs hL hA hs1 oq => ?_)
  have hA : At G (a) (.inr (7, [.ref (a + 1), .ref (a + 38), .ref (a + 188), .ref (a + 190), .null, .int 0])) H1 := hA
  have hB := hB.kept (P := fun q => q = a) ⟨hs1, oq⟩ (fun q h1 h2 h3 => by (try dsimp only at h3); omega)
  have hS := hS.kept (P := fun q => q = a) ⟨hs1, oq⟩ (fun q h1 h2 h3 => by (try dsimp only at h3); omega)
  have hSU := hSU.kept (P := fun q => q = a) ⟨hs1, oq⟩ (fun q h1 h2 h3 => by (try dsimp only at h3); omega)
  have hT := hT.kept (P := fun q => q = a) ⟨hs1, oq⟩ (fun q h1 h2 h3 => by (try dsimp only at h3); omega)
  have hY := hY.kept (P := fun q => q = a) ⟨hs1, oq⟩ (fun q h1 h2 h3 => by (try dsimp only at h3); omega)
  have hYB := hYB.kept (P := fun q => q = a) ⟨hs1, oq⟩ (fun q h1 h2 h3 => by (try dsimp only at h3); omega)
  have hYW := hYW.kept (P := fun q => q = a) ⟨hs1, oq⟩ (fun q h1 h2 h3 => by (try dsimp only at h3); omega)
  have hz0 : ∀ q, q < a → H1[q]? = s.heap[q]? := fun q hq => (oq q (by omega)).trans (hz0 q hq)
  have hsz : H1.size = _ := hs1.trans hsz
  refine lv_aload_n hx hb dX7_init_48 rfl (lv_at hl 0 rfl) ?_
  refine x_new S hK (ci := 6) (fs := [.int 0, .int 0, .int 0, .int 0, .int 0, .int 0, .int 0]) rfl in6 tyX6 tyX6_ok (xm 20 rfl) (xm 21 rfl) (xm 22 rfl) (fun j hj => by rcases (show j = 0 ∨ j = 1 ∨ j = 2 ∨ j = 3 ∨ j = 4 ∨ j = 5 ∨ j = 6 by omega) with rfl | rfl | rfl | rfl | rfl | rfl | rfl <;> rfl) (Nat.le_of_ble_eq_true rfl) (Nat.le_of_ble_eq_true rfl) (h := a + 229) (by omega) dX7_init_49 (fun H1 hW hs1 oq => ?_)
  have hA := hA.old hsz oq
  have hB := hB.old hsz oq
  have hS := hS.old hsz oq
  have hSU := hSU.old hsz oq
  have hT := hT.old hsz oq
  have hY := hY.old hsz oq
  have hYB := hYB.old hsz oq
  have hYW := hYW.old hsz oq
  have hz0 : ∀ q, q < a → H1[q]? = s.heap[q]? := fun q hq => (oq q (by omega)).trans (hz0 q hq)
  have hsz : H1.size = a + 230 := by omega
  have hW : At G (a + 229) (.inr (6, [.int 0, .int 0, .int 0, .int 0, .int 0, .int 0, .int 0])) H1 := hW
  refine lv_dup hx hb dX7_init_52 rfl ?_
  refine x_callIN (As := []) (rest := [.ref (a + 229), .ref a]) S (fun U hU hW => hKC.go (fun q hq => hz0 q (by omega)) hU hW) (fun U g mk a h => h.calling) (c2_X6_init l G z (a + 229)) gX7_init_X6_init_n39 (xm 22 rfl) hKC.1.2.2.1 (xm 82 rfl) rfl rfl 0 (by decide +kernel) rfl ⟨Nat.le_of_ble_eq_true rfl, Nat.le_of_ble_eq_true rfl⟩ rfl hl.1 rfl (Nat.le_of_ble_eq_true rfl) dX7_init_53 hL ⟨Nat.le_of_ble_eq_true rfl, Nat.le_of_ble_eq_true rfl⟩ (fun H1 locs hL hpost => ?_)
  subst hpost
  refine x_putF S hK hname hA (by omega) hL rfl in7 tyX7 tyX7_ok nmX7 4 (by decide) (xm 23 rfl) rfl rfl rfl rfl (Nat.le_of_ble_eq_true rfl) dX7_init_56 (fun H1 locs hL hA hs1 oq => ?_)
  have hA : At G (a) (.inr (7, [.ref (a + 1), .ref (a + 38), .ref (a + 188), .ref (a + 190), .ref (a + 229), .int 0])) H1 := hA
  have hB := hB.kept (P := fun q => q = a) ⟨hs1, oq⟩ (fun q h1 h2 h3 => by (try dsimp only at h3); omega)
  have hS := hS.kept (P := fun q => q = a) ⟨hs1, oq⟩ (fun q h1 h2 h3 => by (try dsimp only at h3); omega)
  have hSU := hSU.kept (P := fun q => q = a) ⟨hs1, oq⟩ (fun q h1 h2 h3 => by (try dsimp only at h3); omega)
  have hT := hT.kept (P := fun q => q = a) ⟨hs1, oq⟩ (fun q h1 h2 h3 => by (try dsimp only at h3); omega)
  have hY := hY.kept (P := fun q => q = a) ⟨hs1, oq⟩ (fun q h1 h2 h3 => by (try dsimp only at h3); omega)
  have hYB := hYB.kept (P := fun q => q = a) ⟨hs1, oq⟩ (fun q h1 h2 h3 => by (try dsimp only at h3); omega)
  have hYW := hYW.kept (P := fun q => q = a) ⟨hs1, oq⟩ (fun q h1 h2 h3 => by (try dsimp only at h3); omega)
  have hW := hW.kept (oq _ (by omega))
  have hz0 : ∀ q, q < a → H1[q]? = s.heap[q]? := fun q hq => (oq q (by omega)).trans (hz0 q hq)
  have hsz : H1.size = _ := hs1.trans hsz
  refine lv_aload_n hx hb dX7_init_59 rfl (lv_at hl 0 rfl) ?_
  refine lv_iconst (v := (-1)) hx hb dX7_init_60 (by decide) ?_
  refine x_putA S hK hA (by omega) hL rfl in7 tyX7 tyX7_ok nmX7 5 (by decide) (xm 24 rfl) rfl rfl rfl (Nat.le_of_ble_eq_true rfl) dX7_init_61 (fun H1 locs hL hA hs1 oq => ?_)
  have hA : At G (a) (.inr (7, [.ref (a + 1), .ref (a + 38), .ref (a + 188), .ref (a + 190), .ref (a + 229), .int (-1)])) H1 := hA
  have hB := hB.kept (P := fun q => q = a) ⟨hs1, oq⟩ (fun q h1 h2 h3 => by (try dsimp only at h3); omega)
  have hS := hS.kept (P := fun q => q = a) ⟨hs1, oq⟩ (fun q h1 h2 h3 => by (try dsimp only at h3); omega)
  have hSU := hSU.kept (P := fun q => q = a) ⟨hs1, oq⟩ (fun q h1 h2 h3 => by (try dsimp only at h3); omega)
  have hT := hT.kept (P := fun q => q = a) ⟨hs1, oq⟩ (fun q h1 h2 h3 => by (try dsimp only at h3); omega)
  have hY := hY.kept (P := fun q => q = a) ⟨hs1, oq⟩ (fun q h1 h2 h3 => by (try dsimp only at h3); omega)
  have hYB := hYB.kept (P := fun q => q = a) ⟨hs1, oq⟩ (fun q h1 h2 h3 => by (try dsimp only at h3); omega)
  have hYW := hYW.kept (P := fun q => q = a) ⟨hs1, oq⟩ (fun q h1 h2 h3 => by (try dsimp only at h3); omega)
  have hW := hW.kept (oq _ (by omega))
  have hz0 : ∀ q, q < a → H1[q]? = s.heap[q]? := fun q hq => (oq q (by omega)).trans (hz0 q hq)
  have hsz : H1.size = _ := hs1.trans hsz
  refine W.cs (cells' := 229) (slots' := 3985) (by omega) (by omega) ?_
  subst hQ
  refine x_vret (post := fun H H1 => PX G a 1 (hlE a) (fun _ j => if j = 5 then -1 else 0) H1 ∧ PX G (a + 1) 37 (bkE G (a + 1)) bk0 H1 ∧ PX G (a + 38) 2 (hsE G (a + 38)) hv0 H1 ∧ HU G (a + 38) (fun _ => bk0) H1 ∧ PX G (a + 188) 2 (txE G (a + 188)) (fun _ _ => 0) H1 ∧ PX G (a + 190) 1 (trE (a + 190)) (fun _ _ => 0) H1 ∧ PX G (a + 190 + 1) 37 (bkE G (a + 190 + 1)) bk0 H1 ∧ PX G (a + 190 + 38) 1 wsE (fun _ _ => 0) H1 ∧ PX G (a + 229) 1 wsE (fun _ _ => 0) H1 ∧ H1.size = a + 230 ∧ ∀ q, q < a → H1[q]? = H[q]?) S hr hlocks rfl ?_ hL dX7_init_64
  refine ⟨fun k hk => ?_, hB, hS, hSU, hT, hY, hYB, hYW, fun k hk => ?_, hsz, hz0⟩
  · rw [show k = 0 by omega]; exact hA
  · rw [show k = 0 by omega]; exact hW
set_option maxRecDepth 100000 in
set_option maxHeartbeats 4000000 in
theorem c2_X7_set (l : Launch) (G : xG) (z : Nat) (a : Nat) (dv : xV) (v : xV) (hv : xV) (kv : Nat → xV) (p1 : Int32) (p2 : Int32) (r0 : Int32) (v' : xV) (hv' : xV) (kv' : Nat → xV) (hz_bk : z ≤ (a + 1)) (hz_hs : z ≤ (a + 38)) (hf : f_X7_set dv v hv kv p1 p2 = some (r0, v', hv', kv')) : xMc l yX7_set wsX7_set 4 104 0 0 (KC2 G z) z [.ref a, .int p1, .int p2] (fun H => PX G a 1 (hlE a) dv H ∧ PX G (a + 1) 37 (bkE G (a + 1)) v H ∧ PX G (a + 38) 2 (hsE G (a + 38)) hv H ∧ HU G (a + 38) kv H) (some (.int r0)) (fun H H1 => PX G (a + 1) 37 (bkE G (a + 1)) v' H1 ∧ PX G (a + 38) 2 (hsE G (a + 38)) hv' H1 ∧ HU G (a + 38) kv' H1 ∧ XF (fun q => ((a + 1) ≤ q ∧ q < (a + 1) + 37) ∨ ((a + 38) ≤ q ∧ q < (a + 38) + 2) ∨ ((a + 38) + 2 ≤ q ∧ q < (a + 38) + 150)) H H1) := by
  refine xMc.of (cc := cX7_set) (maxL := 4) (ret := (some .int)) (by decide +kernel) rfl (Nat.le_of_ble_eq_true rfl) ?_
  intro p e s m args below meth c ls Q hQ S hr hlocks hname0 hKC hP hl
  have hK := hKC.1
  obtain ⟨t1, t2, hS⟩ := hKC.2.2.2.2.2.2
  obtain ⟨hx, hb, hml, hown, hts⟩ := id S
  obtain ⟨h_hl, h_bk, h_hs, h_hu⟩ := hP
  have hL : ∀ q ∈ ([] : List Loc), z ≤ q.base := fun q h => absurd h List.not_mem_nil
  have hF : XF (fun q => ((a + 1) ≤ q ∧ q < (a + 1) + 37) ∨ ((a + 38) ≤ q ∧ q < (a + 38) + 2) ∨ ((a + 38) + 2 ≤ q ∧ q < (a + 38) + 150)) s.heap s.heap := XF.rf
  have hl : lv_has ls 4 [(0, .ref a), (1, .int p1), (2, .int p2)] := hl
  have in0 : ∀ w ∈ u_ws RX0 TX0 9, w ∈ wsX7_set := fun _ h => List.mem_cons_of_mem _ (List.mem_append_left _ (List.mem_append_left _ (List.mem_append_left _ (List.mem_append_right _ h))))
  have in7 : ∀ w ∈ u_ws RX7 TX7 6, w ∈ wsX7_set := fun _ h => List.mem_cons_of_mem _ (List.mem_append_left _ (List.mem_append_left _ (List.mem_append_left _ (List.mem_append_left _ (List.mem_append_right _ h)))))
  unfold f_X7_set at hf
  refine lv_iload_n hx hb dX7_set_0 rfl (lv_at hl 1 rfl) ?_
  refine lv_if_lt (tgt := 23) hx hb dX7_set_1 (by decide) (fun c_1 => ?_) (fun c_1 => ?_)
  · have hf := (if_pos c_1).symm.trans hf
    refine lv_ldc (v := (-2000000001)) hx hb hown (hts _ (xm 2 rfl)) dX7_set_23 ?_
    obtain ⟨q0, qq0⟩ := Prod.mk.inj (Option.some.inj hf)
    obtain ⟨q1, qq1⟩ := Prod.mk.inj (qq0)
    obtain ⟨q2, q3⟩ := Prod.mk.inj (qq1)
    subst r0
    subst v'
    subst hv'
    subst kv'
    subst hQ
    refine x_iret (post := fun H H1 => PX G (a + 1) 37 (bkE G (a + 1)) v H1 ∧ PX G (a + 38) 2 (hsE G (a + 38)) hv H1 ∧ HU G (a + 38) kv H1 ∧ XF (fun q => ((a + 1) ≤ q ∧ q < (a + 1) + 37) ∨ ((a + 38) ≤ q ∧ q < (a + 38) + 2) ∨ ((a + 38) + 2 ≤ q ∧ q < (a + 38) + 150)) H H1) S hr hlocks rfl ?_ hL dX7_set_25
    exact ⟨h_bk, h_hs, h_hu, hF⟩
  have hf := (if_neg c_1).symm.trans hf
  refine lv_iload_n hx hb dX7_set_4 rfl (lv_at hl 1 rfl) ?_
  refine lv_bipush (v := 8) hx hb dX7_set_5 (by decide) ?_
  refine lv_icmp_ge (tgt := 23) hx hb dX7_set_7 (by decide) (fun c_2 => ?_) (fun c_2 => ?_)
  · have hf := (if_pos c_2).symm.trans hf
    refine lv_ldc (v := (-2000000001)) hx hb hown (hts _ (xm 2 rfl)) dX7_set_23 ?_
    obtain ⟨q0, qq0⟩ := Prod.mk.inj (Option.some.inj hf)
    obtain ⟨q1, qq1⟩ := Prod.mk.inj (qq0)
    obtain ⟨q2, q3⟩ := Prod.mk.inj (qq1)
    subst r0
    subst v'
    subst hv'
    subst kv'
    subst hQ
    refine x_iret (post := fun H H1 => PX G (a + 1) 37 (bkE G (a + 1)) v H1 ∧ PX G (a + 38) 2 (hsE G (a + 38)) hv H1 ∧ HU G (a + 38) kv H1 ∧ XF (fun q => ((a + 1) ≤ q ∧ q < (a + 1) + 37) ∨ ((a + 38) ≤ q ∧ q < (a + 38) + 2) ∨ ((a + 38) + 2 ≤ q ∧ q < (a + 38) + 150)) H H1) S hr hlocks rfl ?_ hL dX7_set_25
    exact ⟨h_bk, h_hs, h_hu, hF⟩
  have hf := (if_neg c_2).symm.trans hf
  refine lv_iload_n hx hb dX7_set_10 rfl (lv_at hl 2 rfl) ?_
  refine lv_if_lt (tgt := 23) hx hb dX7_set_11 (by decide) (fun c_3 => ?_) (fun c_3 => ?_)
  · have hf := (if_pos c_3).symm.trans hf
    refine lv_ldc (v := (-2000000001)) hx hb hown (hts _ (xm 2 rfl)) dX7_set_23 ?_
    obtain ⟨q0, qq0⟩ := Prod.mk.inj (Option.some.inj hf)
    obtain ⟨q1, qq1⟩ := Prod.mk.inj (qq0)
    obtain ⟨q2, q3⟩ := Prod.mk.inj (qq1)
    subst r0
    subst v'
    subst hv'
    subst kv'
    subst hQ
    refine x_iret (post := fun H H1 => PX G (a + 1) 37 (bkE G (a + 1)) v H1 ∧ PX G (a + 38) 2 (hsE G (a + 38)) hv H1 ∧ HU G (a + 38) kv H1 ∧ XF (fun q => ((a + 1) ≤ q ∧ q < (a + 1) + 37) ∨ ((a + 38) ≤ q ∧ q < (a + 38) + 2) ∨ ((a + 38) + 2 ≤ q ∧ q < (a + 38) + 150)) H H1) S hr hlocks rfl ?_ hL dX7_set_25
    exact ⟨h_bk, h_hs, h_hu, hF⟩
  have hf := (if_neg c_3).symm.trans hf
  refine lv_iload_n hx hb dX7_set_14 rfl (lv_at hl 2 rfl) ?_
  refine x_gets S hS.2.2.2.1 (fun _ _ => rfl) (Nat.le_refl _) hL (xm 1 rfl) dX7_set_15 ?_
  refine lv_iload_n hx hb dX7_set_18 rfl (lv_at hl 1 rfl) ?_
  obtain ⟨g_1, hf⟩ := xg_some hf
  refine x_ialdS S hK hS.2.2.2.2.1 p1.toNatClampNeg rfl g_1 dX7_set_19 ?_
  refine lv_icmp_le (tgt := 26) hx hb dX7_set_20 (by decide) (fun c_4 => ?_) (fun c_4 => ?_)
  rotate_left
  · have hf := (if_neg c_4).symm.trans hf
    refine lv_ldc (v := (-2000000001)) hx hb hown (hts _ (xm 2 rfl)) dX7_set_23 ?_
    obtain ⟨q0, qq0⟩ := Prod.mk.inj (Option.some.inj hf)
    obtain ⟨q1, qq1⟩ := Prod.mk.inj (qq0)
    obtain ⟨q2, q3⟩ := Prod.mk.inj (qq1)
    subst r0
    subst v'
    subst hv'
    subst kv'
    subst hQ
    refine x_iret (post := fun H H1 => PX G (a + 1) 37 (bkE G (a + 1)) v H1 ∧ PX G (a + 38) 2 (hsE G (a + 38)) hv H1 ∧ HU G (a + 38) kv H1 ∧ XF (fun q => ((a + 1) ≤ q ∧ q < (a + 1) + 37) ∨ ((a + 38) ≤ q ∧ q < (a + 38) + 2) ∨ ((a + 38) + 2 ≤ q ∧ q < (a + 38) + 150)) H H1) S hr hlocks rfl ?_ hL dX7_set_25
    exact ⟨h_bk, h_hs, h_hu, hF⟩
  have hf := (if_pos c_4).symm.trans hf
  refine lv_aload_n hx hb dX7_set_26 rfl (lv_at hl 0 rfl) ?_
  refine x_get S hK h_hl 0 (by decide) rfl rfl rfl in7 1 (by decide) (xm 3 rfl) (x := .ref (a + 38)) rfl dX7_set_27 ?_
  refine lv_aload_n hx hb dX7_set_30 rfl (lv_at hl 0 rfl) ?_
  refine x_get S hK h_hl 0 (by decide) rfl rfl rfl in7 0 (by decide) (xm 4 rfl) (x := .ref (a + 1)) rfl dX7_set_31 ?_
  obtain ⟨hv_8, kv_9, e_10, hf⟩ := xb2_some hf
  refine x_callVv (As := [.ref (a + 1)]) (rest := []) S hK (c_X2_save l G z (a + 38) (a + 1) hv kv v hv_8 kv_9 (by omega) (by omega) (by omega) e_10) gX7_set_X2_save rfl 1 (by decide +kernel) rfl ⟨Nat.le_of_ble_eq_true rfl, Nat.le_of_ble_eq_true rfl⟩ h_hs 0 (by decide) rfl rfl rfl ⟨h_hs, h_hu, h_bk⟩ hl.1 rfl (Nat.le_of_ble_eq_true rfl) dX7_set_34 hL ⟨Nat.zero_le _, Nat.zero_le _⟩ (fun H1 locs hL hpost => ?_)
  obtain ⟨n_hs, n_hu, hfr⟩ := hpost
  have h_hs := n_hs
  have h_hu := n_hu
  have h_hl := h_hl.kept hfr (fun q h1 h2 h3 => by (try dsimp only at h3); omega)
  have h_bk := h_bk.kept hfr (fun q h1 h2 h3 => by (try dsimp only at h3); omega)
  have hF := hF.step hfr (fun q h => by (try dsimp only at h ⊢); omega)
  refine lv_aload_n hx hb dX7_set_37 rfl (lv_at hl 0 rfl) ?_
  refine x_get S hK h_hl 0 (by decide) rfl rfl rfl in7 0 (by decide) (xm 4 rfl) (x := .ref (a + 1)) rfl dX7_set_38 ?_
  refine x_get S hK h_bk 0 (by decide) rfl rfl rfl in0 3 (by decide) (xm 5 rfl) (x := .ref ((a + 1) + 1)) rfl dX7_set_41 ?_
  refine lv_iload_n hx hb dX7_set_44 rfl (lv_at hl 1 rfl) ?_
  obtain ⟨g_2, hf⟩ := xg_some hf
  obtain ⟨x_6, e_6, hf⟩ := xl_some hf
  refine x_iald S hK h_bk 1 (by decide) rfl rfl p1.toNatClampNeg rfl g_2 dX7_set_45 ?_
  refine x_top (x := x_6) e_6 ?_
  refine lv_istore_n (lv' := [(3, .int x_6), (0, .ref a), (1, .int p1), (2, .int p2)]) hx hb dX7_set_46 rfl hl (by decide) rfl (fun ls hl => ?_)
  refine lv_aload_n hx hb dX7_set_47 rfl (lv_at hl 1 rfl) ?_
  refine x_get S hK h_hl 0 (by decide) rfl rfl rfl in7 0 (by decide) (xm 4 rfl) (x := .ref (a + 1)) rfl dX7_set_48 ?_
  refine x_get S hK h_bk 0 (by decide) rfl rfl rfl in0 3 (by decide) (xm 5 rfl) (x := .ref ((a + 1) + 1)) rfl dX7_set_51 ?_
  refine lv_iload_n hx hb dX7_set_54 rfl (lv_at hl 2 rfl) ?_
  refine lv_iload_n hx hb dX7_set_55 rfl (lv_at hl 3 rfl) ?_
  obtain ⟨g_3, hf⟩ := xg_some hf
  obtain ⟨v_8, e_8, hf⟩ := xl_some hf
  refine x_iast S hK h_bk hz_bk hL 1 (by decide) rfl rfl p1.toNatClampNeg rfl g_3 rfl e_8 dX7_set_56 (fun H1 locs hL h_bk hfr => ?_)
  have h_hs := h_hs.kept hfr (fun q h1 h2 h3 => by (try dsimp only at h3); omega)
  have h_hu := h_hu.kept hfr (fun q h1 h2 h3 => by (try dsimp only at h3); omega)
  have hF := hF.step hfr (fun q h => by (try dsimp only at h ⊢); omega)
  refine lv_iload_n hx hb dX7_set_57 rfl (lv_at hl 0 rfl) ?_
  obtain ⟨q0, qq0⟩ := Prod.mk.inj (Option.some.inj hf)
  obtain ⟨q1, qq1⟩ := Prod.mk.inj (qq0)
  obtain ⟨q2, q3⟩ := Prod.mk.inj (qq1)
  subst r0
  subst v'
  subst hv'
  subst kv'
  subst hQ
  refine x_iret (post := fun H H1 => PX G (a + 1) 37 (bkE G (a + 1)) v_8 H1 ∧ PX G (a + 38) 2 (hsE G (a + 38)) hv_8 H1 ∧ HU G (a + 38) kv_9 H1 ∧ XF (fun q => ((a + 1) ≤ q ∧ q < (a + 1) + 37) ∨ ((a + 38) ≤ q ∧ q < (a + 38) + 2) ∨ ((a + 38) + 2 ≤ q ∧ q < (a + 38) + 150)) H H1) S hr hlocks rfl ?_ hL dX7_set_58
  exact ⟨h_bk, h_hs, h_hu, hF⟩
