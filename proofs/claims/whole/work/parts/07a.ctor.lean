/-! ===== the constructors ===== -/
set_option maxRecDepth 100000 in
set_option maxHeartbeats 4000000 in
theorem c_X6_init (l : Launch) (G : xG) (z : Nat) (h : Nat) : xMc l yX6_init wsX6_init 1 12 0 0 (KC G z) z [.ref h] (fun H => H = H) none (fun H H1 => H1 = H) := by
  refine xMc.of (cc := cX6_init) (maxL := 1) (ret := none) (by decide +kernel) rfl (Nat.le_of_ble_eq_true rfl) ?_
  intro p e s m args below meth c ls Q hQ S hr hlocks hname0 hKC hP hl
  have hK := hKC.1
  have hname : meth.name = "<init>" := hname0
  obtain ⟨hx, hb, hml, hown, hts⟩ := id S
  have hL : ∀ q ∈ ([] : List Loc), z ≤ q.base := fun q h => absurd h List.not_mem_nil
  have hl : lv_has ls 1 [(0, .ref h)] := hl
  refine lv_aload_n hx hb dX6_init_0 rfl (lv_at hl 0 rfl) ?_
  refine x_obj S (xm 1 rfl) (xm 2 rfl) (xm 3 rfl) hl.1 dX6_init_1 (Nat.le_of_ble_eq_true rfl) (Nat.le_of_ble_eq_true rfl) ?_
  refine W.cs (cells' := 0) (slots' := 0) (by omega) (by omega) ?_
  subst hQ
  refine x_vret (post := fun H H1 => H1 = H) S hr hlocks rfl ?_ hL dX6_init_4
  rfl

set_option maxRecDepth 100000 in
set_option maxHeartbeats 4000000 in
theorem c_X3_init (l : Launch) (G : xG) (z : Nat) (h : Nat) (p1 : Int32) (hz : z ≤ h) : xMc l yX3_init wsX3_init 1 12 0 0 (KC G z) z [.ref h, .int p1] (fun H => At G h (.inr (3, [.int 0, .int 0, .int 0])) H ∧ H.size = h + 1) none (fun H H1 => At G h (.inr (3, [.int p1, .int (-1), .int 0])) H1 ∧ H1.size = h + 1 ∧ ∀ q, q < h → H1[q]? = H[q]?) := by
  refine xMc.of (cc := cX3_init) (maxL := 2) (ret := none) (by decide +kernel) rfl (Nat.le_of_ble_eq_true rfl) ?_
  intro p e s m args below meth c ls Q hQ S hr hlocks hname0 hKC hP hl
  have hK := hKC.1
  have hname : meth.name = "<init>" := hname0
  obtain ⟨hx, hb, hml, hown, hts⟩ := id S
  have hL : ∀ q ∈ ([] : List Loc), z ≤ q.base := fun q h => absurd h List.not_mem_nil
  obtain ⟨hA, hsz⟩ := hP
  have hz0 : ∀ q, q < h → s.heap[q]? = s.heap[q]? := fun _ _ => rfl
  have hl : lv_has ls 2 [(0, .ref h), (1, .int p1)] := hl
  have in3 : ∀ w ∈ u_ws RX3 TX3 3, w ∈ wsX3_init := fun _ h => List.mem_cons_of_mem _ (List.mem_append_right _ h)
  refine lv_aload_n hx hb dX3_init_0 rfl (lv_at hl 0 rfl) ?_
  refine x_obj S (xm 1 rfl) (xm 2 rfl) (xm 3 rfl) hl.1 dX3_init_1 (Nat.le_of_ble_eq_true rfl) (Nat.le_of_ble_eq_true rfl) ?_
  refine lv_aload_n hx hb dX3_init_4 rfl (lv_at hl 0 rfl) ?_
  refine lv_iload_n hx hb dX3_init_5 rfl (lv_at hl 1 rfl) ?_
  refine x_putF S hK hname hA (by omega) hL rfl in3 tyX3 tyX3_ok nmX3 0 (by decide) (xm 4 rfl) rfl rfl rfl rfl (Nat.le_of_ble_eq_true rfl) dX3_init_6 (fun H1 locs hL hA hs1 oq => ?_)
  have hA : At G (h) (.inr (3, [.int p1, .int 0, .int 0])) H1 := hA
  have hz0 : ∀ q, q < h → H1[q]? = s.heap[q]? := fun q hq => (oq q (by omega)).trans (hz0 q hq)
  have hsz : H1.size = _ := hs1.trans hsz
  refine lv_aload_n hx hb dX3_init_9 rfl (lv_at hl 0 rfl) ?_
  refine lv_iconst (v := (-1)) hx hb dX3_init_10 (by decide) ?_
  refine x_putA S hK hA (by omega) hL rfl in3 tyX3 tyX3_ok nmX3 1 (by decide) (xm 5 rfl) rfl rfl rfl (Nat.le_of_ble_eq_true rfl) dX3_init_11 (fun H1 locs hL hA hs1 oq => ?_)
  have hA : At G (h) (.inr (3, [.int p1, .int (-1), .int 0])) H1 := hA
  have hz0 : ∀ q, q < h → H1[q]? = s.heap[q]? := fun q hq => (oq q (by omega)).trans (hz0 q hq)
  have hsz : H1.size = _ := hs1.trans hsz
  refine W.cs (cells' := 0) (slots' := 0) (by omega) (by omega) ?_
  subst hQ
  refine x_vret (post := fun H H1 => At G h (.inr (3, [.int p1, .int (-1), .int 0])) H1 ∧ H1.size = h + 1 ∧ ∀ q, q < h → H1[q]? = H[q]?) S hr hlocks rfl ?_ hL dX3_init_14
  exact ⟨hA, hsz, hz0⟩

set_option maxRecDepth 100000 in
set_option maxHeartbeats 4000000 in
theorem c_X1_init (l : Launch) (G : xG) (z : Nat) (h : Nat) (p1 : Int32) (hz : z ≤ h) : xMc l yX1_init wsX1_init 1 12 1 32 (KC G z) z [.ref h, .int p1] (fun H => At G h (.inr (1, [.int 0, .int 0, .int 0, .int 0, .int 0, .int 0, .int 0, .int 0, .int 0, .int 0, .int 0, .int 0, .int 0, .int 0, .null])) H ∧ H.size = h + 1) none (fun H H1 => At G h (.inr (1, [.int p1, .int (-1), .int 0, .int 0, .int 0, .int 0, .int 0, .int 0, .int 0, .int 0, .int 0, .int 0, .int 0, .int 0, .ref (h + 1)])) H1 ∧ At G (h + 1) (.inl (G.2.1, 32, .inl (fun _ => 0))) H1 ∧ H1.size = h + 2 ∧ ∀ q, q < h → H1[q]? = H[q]?) := by
  refine xMc.of (cc := cX1_init) (maxL := 2) (ret := none) (by decide +kernel) rfl (Nat.le_of_ble_eq_true rfl) ?_
  intro p e s m args below meth c ls Q hQ S hr hlocks hname0 hKC hP hl
  have hK := hKC.1
  have hname : meth.name = "<init>" := hname0
  obtain ⟨hx, hb, hml, hown, hts⟩ := id S
  have hL : ∀ q ∈ ([] : List Loc), z ≤ q.base := fun q h => absurd h List.not_mem_nil
  obtain ⟨hA, hsz⟩ := hP
  have hz0 : ∀ q, q < h → s.heap[q]? = s.heap[q]? := fun _ _ => rfl
  have hl : lv_has ls 2 [(0, .ref h), (1, .int p1)] := hl
  have in1 : ∀ w ∈ u_ws RX1 TX1 15, w ∈ wsX1_init := fun _ h => List.mem_cons_of_mem _ (List.mem_append_right _ h)
  refine lv_aload_n hx hb dX1_init_0 rfl (lv_at hl 0 rfl) ?_
  refine x_obj S (xm 1 rfl) (xm 2 rfl) (xm 3 rfl) hl.1 dX1_init_1 (Nat.le_of_ble_eq_true rfl) (Nat.le_of_ble_eq_true rfl) ?_
  refine lv_aload_n hx hb dX1_init_4 rfl (lv_at hl 0 rfl) ?_
  refine lv_iload_n hx hb dX1_init_5 rfl (lv_at hl 1 rfl) ?_
  refine x_putF S hK hname hA (by omega) hL rfl in1 tyX1 tyX1_ok nmX1 0 (by decide) (xm 4 rfl) rfl rfl rfl rfl (Nat.le_of_ble_eq_true rfl) dX1_init_6 (fun H1 locs hL hA hs1 oq => ?_)
  have hA : At G (h) (.inr (1, [.int p1, .int 0, .int 0, .int 0, .int 0, .int 0, .int 0, .int 0, .int 0, .int 0, .int 0, .int 0, .int 0, .int 0, .null])) H1 := hA
  have hz0 : ∀ q, q < h → H1[q]? = s.heap[q]? := fun q hq => (oq q (by omega)).trans (hz0 q hq)
  have hsz : H1.size = _ := hs1.trans hsz
  refine lv_aload_n hx hb dX1_init_9 rfl (lv_at hl 0 rfl) ?_
  refine lv_iconst (v := (-1)) hx hb dX1_init_10 (by decide) ?_
  refine x_putA S hK hA (by omega) hL rfl in1 tyX1 tyX1_ok nmX1 1 (by decide) (xm 5 rfl) rfl rfl rfl (Nat.le_of_ble_eq_true rfl) dX1_init_11 (fun H1 locs hL hA hs1 oq => ?_)
  have hA : At G (h) (.inr (1, [.int p1, .int (-1), .int 0, .int 0, .int 0, .int 0, .int 0, .int 0, .int 0, .int 0, .int 0, .int 0, .int 0, .int 0, .null])) H1 := hA
  have hz0 : ∀ q, q < h → H1[q]? = s.heap[q]? := fun q hq => (oq q (by omega)).trans (hz0 q hq)
  have hsz : H1.size = _ := hs1.trans hsz
  refine lv_aload_n hx hb dX1_init_14 rfl (lv_at hl 0 rfl) ?_
  refine lv_bipush (v := 32) hx hb dX1_init_15 (by decide) ?_
  refine x_newi S hK (xm 6 rfl) (by decide) (N := 32) (by decide) (by decide) (Nat.le_of_ble_eq_true rfl) (Nat.le_of_ble_eq_true rfl) (h := h + 1) (by omega) dX1_init_17 (fun H1 hB hs1 oq => ?_)
  have hA := hA.old hsz oq
  have hz0 : ∀ q, q < h → H1[q]? = s.heap[q]? := fun q hq => (oq q (by omega)).trans (hz0 q hq)
  have hsz : H1.size = h + 2 := by omega
  have hB : At G (h + 1) (.inl (G.2.1, 32, .inl (fun _ => 0))) H1 := hB
  refine x_putF S hK hname hA (by omega) hL rfl in1 tyX1 tyX1_ok nmX1 14 (by decide) (xm 7 rfl) rfl rfl rfl rfl (Nat.le_of_ble_eq_true rfl) dX1_init_19 (fun H1 locs hL hA hs1 oq => ?_)
  have hA : At G (h) (.inr (1, [.int p1, .int (-1), .int 0, .int 0, .int 0, .int 0, .int 0, .int 0, .int 0, .int 0, .int 0, .int 0, .int 0, .int 0, .ref (h + 1)])) H1 := hA
  have hB := hB.kept (oq _ (by omega))
  have hz0 : ∀ q, q < h → H1[q]? = s.heap[q]? := fun q hq => (oq q (by omega)).trans (hz0 q hq)
  have hsz : H1.size = _ := hs1.trans hsz
  refine W.cs (cells' := 1) (slots' := 32) (by omega) (by omega) ?_
  subst hQ
  refine x_vret (post := fun H H1 => At G h (.inr (1, [.int p1, .int (-1), .int 0, .int 0, .int 0, .int 0, .int 0, .int 0, .int 0, .int 0, .int 0, .int 0, .int 0, .int 0, .ref (h + 1)])) H1 ∧ At G (h + 1) (.inl (G.2.1, 32, .inl (fun _ => 0))) H1 ∧ H1.size = h + 2 ∧ ∀ q, q < h → H1[q]? = H[q]?) S hr hlocks rfl ?_ hL dX1_init_22
  exact ⟨hA, hB, hsz, hz0⟩

set_option maxRecDepth 100000 in
set_option maxHeartbeats 4000000 in
theorem c_X4_init (l : Launch) (G : xG) (z : Nat) (h : Nat) (hz : z ≤ h) : xMc l yX4_init wsX4_init 1 12 1 80 (KC G z) z [.ref h] (fun H => At G h (.inr (4, [.null, .int 0, .int 0])) H ∧ H.size = h + 1) none (fun H H1 => PX G h 2 (txE G h) (fun _ _ => 0) H1 ∧ H1.size = h + 2 ∧ ∀ q, q < h → H1[q]? = H[q]?) := by
  refine xMc.of (cc := cX4_init) (maxL := 1) (ret := none) (by decide +kernel) rfl (Nat.le_of_ble_eq_true rfl) ?_
  intro p e s m args below meth c ls Q hQ S hr hlocks hname0 hKC hP hl
  have hK := hKC.1
  have hname : meth.name = "<init>" := hname0
  obtain ⟨hx, hb, hml, hown, hts⟩ := id S
  have hL : ∀ q ∈ ([] : List Loc), z ≤ q.base := fun q h => absurd h List.not_mem_nil
  obtain ⟨hA, hsz⟩ := hP
  have hz0 : ∀ q, q < h → s.heap[q]? = s.heap[q]? := fun _ _ => rfl
  have hl : lv_has ls 1 [(0, .ref h)] := hl
  have in4 : ∀ w ∈ u_ws RX4 TX4 3, w ∈ wsX4_init := fun _ h => List.mem_cons_of_mem _ (List.mem_append_right _ h)
  refine lv_aload_n hx hb dX4_init_0 rfl (lv_at hl 0 rfl) ?_
  refine x_obj S (xm 1 rfl) (xm 2 rfl) (xm 3 rfl) hl.1 dX4_init_1 (Nat.le_of_ble_eq_true rfl) (Nat.le_of_ble_eq_true rfl) ?_
  refine lv_aload_n hx hb dX4_init_4 rfl (lv_at hl 0 rfl) ?_
  refine lv_bipush (v := 80) hx hb dX4_init_5 (by decide) ?_
  refine x_newi S hK (xm 4 rfl) (by decide) (N := 80) (by decide) (by decide) (Nat.le_of_ble_eq_true rfl) (Nat.le_of_ble_eq_true rfl) (h := h + 1) (by omega) dX4_init_7 (fun H1 hB hs1 oq => ?_)
  have hA := hA.old hsz oq
  have hz0 : ∀ q, q < h → H1[q]? = s.heap[q]? := fun q hq => (oq q (by omega)).trans (hz0 q hq)
  have hsz : H1.size = h + 2 := by omega
  have hB : At G (h + 1) (.inl (G.2.1, 80, .inl (fun _ => 0))) H1 := hB
  refine x_putF S hK hname hA (by omega) hL rfl in4 tyX4 tyX4_ok nmX4 0 (by decide) (xm 5 rfl) rfl rfl rfl rfl (Nat.le_of_ble_eq_true rfl) dX4_init_9 (fun H1 locs hL hA hs1 oq => ?_)
  have hA : At G (h) (.inr (4, [.ref (h + 1), .int 0, .int 0])) H1 := hA
  have hB := hB.kept (oq _ (by omega))
  have hz0 : ∀ q, q < h → H1[q]? = s.heap[q]? := fun q hq => (oq q (by omega)).trans (hz0 q hq)
  have hsz : H1.size = _ := hs1.trans hsz
  refine W.cs (cells' := 1) (slots' := 80) (by omega) (by omega) ?_
  subst hQ
  refine x_vret (post := fun H H1 => PX G h 2 (txE G h) (fun _ _ => 0) H1 ∧ H1.size = h + 2 ∧ ∀ q, q < h → H1[q]? = H[q]?) S hr hlocks rfl ?_ hL dX4_init_12
  refine ⟨fun k hk => ?_, hsz, hz0⟩
  rcases (show k = 0 ∨ k = 1 by omega) with rfl | rfl
  · exact hA
  · exact hB
