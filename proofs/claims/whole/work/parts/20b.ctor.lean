/-! ===== the other constructors ===== -/
theorem PX.below {G : xG} {b N h : Nat} {E : Nat → (Nat → Int32) → va_E} {v : xV} {H H1 : Heap} (k : PX G b N E v H) (hb : b + N ≤ h) (oq : ∀ q, q < h → H1[q]? = H[q]?) : PX G b N E v H1 := fun i hi => (k i hi).kept (oq _ (by omega))
theorem HU.below {G : xG} {x h : Nat} {u : Nat → xV} {H H1 : Heap} (k : HU G x u H) (hb : x + 150 ≤ h) (oq : ∀ q, q < h → H1[q]? = H[q]?) : HU G x u H1 := fun i hi => (k i hi).below (by omega) oq
def hv0 : xV := fun k j => if k = 1 then nI j else 0
set_option maxRecDepth 100000 in
set_option maxHeartbeats 4000000 in
theorem c_X2_init (l : Launch) (G : xG) (z : Nat) (x : Nat) (hz : z ≤ x) : xMc l yX2_init wsX2_init 3 54 149 2588 (KC G z) z [.ref x] (fun H => At G x (.inr (2, [.null, .int 0])) H ∧ H.size = x + 1) none (fun H H1 => PX G x 2 (hsE G x) hv0 H1 ∧ HU G x (fun _ => bk0) H1 ∧ H1.size = x + 150 ∧ ∀ q, q < x → H1[q]? = H[q]?) := by
  refine xMc.of (cc := cX2_init) (maxL := 2) (ret := none) (by decide +kernel) rfl (Nat.le_of_ble_eq_true rfl) ?_
  intro p e s m args below meth c ls Q hQ S hr hlocks hname0 hKC hP hl
  have hK := hKC.1
  have hname : meth.name = "<init>" := hname0
  obtain ⟨hx, hb, hml, hown, hts⟩ := id S
  have hL : ∀ q ∈ ([] : List Loc), z ≤ q.base := fun q h => absurd h List.not_mem_nil
  obtain ⟨hA, hsz⟩ := hP
  have hz0 : ∀ q, q < x → s.heap[q]? = s.heap[q]? := fun _ _ => rfl
  have hl : lv_has ls 2 [(0, .ref x)] := hl
  have in0 : ∀ w ∈ u_ws RX0 TX0 9, w ∈ wsX2_init := fun _ h => List.mem_cons_of_mem _ (List.mem_append_left _ (List.mem_append_left _ (List.mem_append_right _ h)))
  have in2 : ∀ w ∈ u_ws RX2 TX2 2, w ∈ wsX2_init := fun _ h => List.mem_cons_of_mem _ (List.mem_append_left _ (List.mem_append_left _ (List.mem_append_left _ (List.mem_append_right _ h))))
  have after : ∀ (H : Heap) (locs : List Loc) (ls : Array Slot), (∀ q ∈ locs, z ≤ q.base) → At G x (.inr (2, [.ref (x + 1), .int 0])) H → At G (x + 1) (.inl (G.2.2.1, 4, .inr (.inr (.inr (.inr (fun j => if j < 4 then some (x + (2 + 37 * j)) else none)))))) H → (∀ k, k < 4 → PX G (x + (2 + 37 * k)) 37 (bkE G (x + (2 + 37 * k))) bk0 H) → H.size = x + (2 + 37 * 4) → (∀ q, q < x → H[q]? = s.heap[q]?) → lv_has ls 2 [(0, .ref x), (1, .int (nI 4))] → W p l e { frames := 3, cells := 149, slots := 2588, locals := 54 } s m args below meth c H locs (1 + 37 * 4) (4 + 646 * 4) Q (F0 m 42 ls []) := by
    intro H locs ls hL hA h1 hFam hsz hz0 hl
    refine W.cs (cells' := 149) (slots' := 2588) (by omega) (by omega) ?_
    subst hQ
    refine x_vret (post := fun H H1 => PX G x 2 (hsE G x) hv0 H1 ∧ HU G x (fun _ => bk0) H1 ∧ H1.size = x + 150 ∧ ∀ q, q < x → H1[q]? = H[q]?) S hr hlocks rfl ?_ hL dX2_init_42
    refine ⟨fun k hk => ?_, fun k hk => hFam k hk, hsz, hz0⟩
    rcases (show k = 0 ∨ k = 1 by omega) with rfl | rfl
    · exact hA
    · refine h1.rq fun j hj => ?_
      rw [if_pos hj]
      show _ = some (x + (2 + 37 * (nI j).toNatClampNeg))
      rw [nI_clamp (by omega)]
  have lp : ∀ (n i : Nat) (H : Heap) (locs : List Loc) (ls : Array Slot), i + n = 4 → (∀ q ∈ locs, z ≤ q.base) → At G x (.inr (2, [.ref (x + 1), .int 0])) H → At G (x + 1) (.inl (G.2.2.1, 4, .inr (.inr (.inr (.inr (fun j => if j < i then some (x + (2 + 37 * j)) else none)))))) H → (∀ k, k < i → PX G (x + (2 + 37 * k)) 37 (bkE G (x + (2 + 37 * k))) bk0 H) → H.size = x + (2 + 37 * i) → (∀ q, q < x → H[q]? = s.heap[q]?) → lv_has ls 2 [(0, .ref x), (1, .int (nI i))] → W p l e { frames := 3, cells := 149, slots := 2588, locals := 54 } s m args below meth c H locs (1 + 37 * i) (4 + 646 * i) Q (F0 m 14 ls []) := by
    intro n
    induction n with
    | zero =>
      intro i H locs ls hin hL hA h1 hFam hsz hz0 hl
      have hi : i = 4 := by omega
      subst hi
      refine lv_iload_n hx hb dX2_init_14 rfl (lv_at hl 1 rfl) ?_
      refine lv_aload_n hx hb dX2_init_15 rfl (lv_at hl 0 rfl) ?_
      refine x_getA S hK hA rfl in2 0 (by decide) (xm 5 rfl) (x := .ref (x + 1)) rfl dX2_init_16 ?_
      refine x_alenA S hK h1 1 rfl (r := 4) rfl dX2_init_19 ?_
      refine lv_icmp_ge (tgt := 42) hx hb dX2_init_20 (by decide) (fun cc1 => ?_) (fun cc1 => ?_)
      · exact after _ _ _ hL hA h1 hFam hsz hz0 hl
      · exact absurd (nI_le (Nat.le_refl 4) (by decide)) cc1
    | succ n ih =>
      intro i H locs ls hin hL hA h1 hFam hsz hz0 hl
      have hi : i < 4 := by omega
      refine lv_iload_n hx hb dX2_init_14 rfl (lv_at hl 1 rfl) ?_
      refine lv_aload_n hx hb dX2_init_15 rfl (lv_at hl 0 rfl) ?_
      refine x_getA S hK hA rfl in2 0 (by decide) (xm 5 rfl) (x := .ref (x + 1)) rfl dX2_init_16 ?_
      refine x_alenA S hK h1 1 rfl (r := 4) rfl dX2_init_19 ?_
      refine lv_icmp_ge (tgt := 42) hx hb dX2_init_20 (by decide) (fun cc1 => ?_) (fun cc1 => ?_)
      · exact absurd cc1 (nI_ge (b := 4) hi (by decide))
      · refine lv_aload_n hx hb dX2_init_23 rfl (lv_at hl 0 rfl) ?_
        refine x_getA S hK hA rfl in2 0 (by decide) (xm 5 rfl) (x := .ref (x + 1)) rfl dX2_init_24 ?_
        refine lv_iload_n hx hb dX2_init_27 rfl (lv_at hl 1 rfl) ?_
        refine x_new S hK (ci := 0) (fs := [.int 0, .int 0, .int 0, .null, .null, .null, .null, .null, .null]) rfl in0 tyX0 tyX0_ok (xm 4 rfl) (xm 6 rfl) (xm 7 rfl) (fun j hj => by rcases (show j = 0 ∨ j = 1 ∨ j = 2 ∨ j = 3 ∨ j = 4 ∨ j = 5 ∨ j = 6 ∨ j = 7 ∨ j = 8 by omega) with rfl | rfl | rfl | rfl | rfl | rfl | rfl | rfl | rfl <;> rfl) (by dsimp only; omega) (by dsimp only; omega) (h := x + (2 + 37 * i)) (by omega) dX2_init_28 (fun H1 hN hs1 oq => ?_)
        have hA := hA.old hsz oq
        have h1 := h1.old hsz oq
        have hFam := fun k k1 => (hFam k k1).old hsz oq
        have hz0 : ∀ q, q < x → H1[q]? = s.heap[q]? := fun q hq => (oq q (by omega)).trans (hz0 q hq)
        have hsz : H1.size = x + (2 + 37 * i) + 1 := by omega
        have hN : At G (x + (2 + 37 * i)) (.inr (0, [.int 0, .int 0, .int 0, .null, .null, .null, .null, .null, .null])) H1 := hN
        refine lv_dup hx hb dX2_init_31 rfl ?_
        refine x_callI (As := []) (rest := [.ref (x + (2 + 37 * i)), .int (nI i), .ref (x + 1)]) S (fun U hU hW => hKC.go (fun q hq => hz0 q (by omega)) hU hW) (fun U g mk a h => h.calling) (c_X0_init l G z (x + (2 + 37 * i)) (by omega)) gX2_init_X0_init (xm 7 rfl) (xm 8 rfl) (xm 9 rfl) rfl rfl 0 (by decide +kernel) rfl ⟨Nat.le_of_ble_eq_true rfl, Nat.le_of_ble_eq_true rfl⟩ ⟨hN, hsz⟩ hl.1 rfl (Nat.le_of_ble_eq_true rfl) dX2_init_32 hL ⟨(by dsimp only; omega), (by dsimp only; omega)⟩ (fun H1 locs hL hpost => ?_)
        obtain ⟨hN, hs1, oq⟩ := hpost
        have hA := hA.kept (oq _ (by omega))
        have h1 := h1.kept (oq _ (by omega))
        have hFam : ∀ k, k < i → PX G (x + (2 + 37 * k)) 37 (bkE G (x + (2 + 37 * k))) bk0 H1 := fun k k1 => (hFam k k1).below (h := x + (2 + 37 * i)) (by omega) oq
        have hz0 : ∀ q, q < x → H1[q]? = s.heap[q]? := fun q hq => (oq q (by omega)).trans (hz0 q hq)
        have hsz : H1.size = x + (2 + 37 * i) + 37 := by omega
        refine x_aastA S hK h1 (by omega) hL (show At G (x + (2 + 37 * i)) (.inr (0, _)) _ from hN 0 (by decide)) rfl 1 rfl i (nI_clamp (by omega)) (nI_in hi (by decide)) dX2_init_35 (fun H1 locs hL h1 hs1 oq => ?_)
        have h1 : At G (x + 1) (.inl (G.2.2.1, 4, .inr (.inr (.inr (.inr (fun j => if j < (i + 1) then some (x + (2 + 37 * j)) else none)))))) H1 := h1.rq fun j hj => by simp only [va_up]; split <;> split <;> (try split) <;> first | rfl | omega | (congr 1; omega)
        have hA := hA.kept (oq _ (by omega))
        have hN := hN.kept (P := fun q => q = x + 1) ⟨hs1, oq⟩ (fun q h1 h2 h3 => by (try dsimp only at h3); omega)
        have hFam : (∀ k, k < (i + 1) → PX G (x + (2 + 37 * k)) 37 (bkE G (x + (2 + 37 * k))) bk0 H1) := fun k k1 => by
          by_cases e : k = i
          · subst e; exact hN
          · exact (hFam k (by omega)).kept (P := fun q => q = x + 1) ⟨hs1, oq⟩ (fun q h1 h2 h3 => by (try dsimp only at h3); omega)
        have hz0 : ∀ q, q < x → H1[q]? = s.heap[q]? := fun q hq => (oq q (by omega)).trans (hz0 q hq)
        have hsz : H1.size = x + (2 + 37 * (i + 1)) := by omega
        refine lv_iinc (v := nI (i + 1)) (lv' := [(1, .int (nI (i + 1))), (0, .ref x)]) hx hb dX2_init_36 hl (k := 1) rfl (nI_succ i).symm (by decide) rfl (fun ls hl => ?_)
        refine lv_goto (tgt := 14) hx hb dX2_init_39 (by decide) ?_
        refine W.cs (cells' := 1 + 37 * (i + 1)) (slots' := 4 + 646 * (i + 1)) (by omega) (by omega) ?_
        exact ih (i + 1) _ _ _ (by omega) hL hA h1 hFam hsz hz0 (lv_sub hl [1, 0] rfl)
  refine lv_aload_n hx hb dX2_init_0 rfl (lv_at hl 0 rfl) ?_
  refine x_obj S (xm 1 rfl) (xm 2 rfl) (xm 3 rfl) hl.1 dX2_init_1 (Nat.le_of_ble_eq_true rfl) (Nat.le_of_ble_eq_true rfl) ?_
  refine lv_aload_n hx hb dX2_init_4 rfl (lv_at hl 0 rfl) ?_
  refine lv_iconst (v := 4) hx hb dX2_init_5 (by decide) ?_
  refine x_newr S hK (xm 4 rfl) hKC.2.1 1 rfl (by decide) (N := 4) (by decide) (by decide) (Nat.le_of_ble_eq_true rfl) (Nat.le_of_ble_eq_true rfl) (h := x + 1) (by omega) dX2_init_6 (fun H1 h1 hs1 oq => ?_)
  have hA := hA.old hsz oq
  have hz0 : ∀ q, q < x → H1[q]? = s.heap[q]? := fun q hq => (oq q (by omega)).trans (hz0 q hq)
  have hsz : H1.size = x + 2 := by omega
  have h1 : At G (x + 1) (.inl (G.2.2.1, 4, .inr (.inr (.inr (.inr (fun _ => none)))))) H1 := h1
  refine x_putF S hK hname hA (by omega) hL rfl in2 tyX2 tyX2_ok nmX2 0 (by decide) (xm 5 rfl) rfl rfl rfl rfl (Nat.le_of_ble_eq_true rfl) dX2_init_9 (fun H1 locs hL hA hs1 oq => ?_)
  have hA : At G (x) (.inr (2, [.ref (x + 1), .int 0])) H1 := hA
  have h1 := h1.kept (oq _ (by omega))
  have hz0 : ∀ q, q < x → H1[q]? = s.heap[q]? := fun q hq => (oq q (by omega)).trans (hz0 q hq)
  have hsz : H1.size = _ := hs1.trans hsz
  refine lv_iconst (v := 0) hx hb dX2_init_12 (by decide) ?_
  refine lv_istore_n (lv' := [(1, .int 0), (0, .ref x)]) hx hb dX2_init_13 rfl hl (by decide) rfl (fun ls hl => ?_)
  exact lp 4 0 _ _ _ (by omega) hL hA (h1.rq fun j hj => by rw [if_neg (by omega)]) (fun k k1 => absurd k1 (Nat.not_lt_zero k)) hsz hz0 (lv_sub hl [1, 0] rfl)
set_option maxRecDepth 100000 in
set_option maxHeartbeats 4000000 in
theorem c_X5_init (l : Launch) (G : xG) (z : Nat) (y : Nat) (hz : z ≤ y) : xMc l yX5_init wsX5_init 3 54 38 653 (KC G z) z [.ref y] (fun H => At G y (.inr (5, [.null, .null, .int 0, .int 0, .int 0, .int 0])) H ∧ H.size = y + 1) none (fun H H1 => PX G y 1 (trE y) (fun _ _ => 0) H1 ∧ PX G (y + 1) 37 (bkE G (y + 1)) bk0 H1 ∧ PX G (y + 38) 1 wsE (fun _ _ => 0) H1 ∧ H1.size = y + 39 ∧ ∀ q, q < y → H1[q]? = H[q]?) := by
  refine xMc.of (cc := cX5_init) (maxL := 1) (ret := none) (by decide +kernel) rfl (Nat.le_of_ble_eq_true rfl) ?_
  intro p e s m args below meth c ls Q hQ S hr hlocks hname0 hKC hP hl
  have hK := hKC.1
  have hname : meth.name = "<init>" := hname0
  obtain ⟨hx, hb, hml, hown, hts⟩ := id S
  have hL : ∀ q ∈ ([] : List Loc), z ≤ q.base := fun q h => absurd h List.not_mem_nil
  obtain ⟨hA, hsz⟩ := hP
  have hz0 : ∀ q, q < y → s.heap[q]? = s.heap[q]? := fun _ _ => rfl
  have hl : lv_has ls 1 [(0, .ref y)] := hl
  have in0 : ∀ w ∈ u_ws RX0 TX0 9, w ∈ wsX5_init := fun _ h => List.mem_cons_of_mem _ (List.mem_append_left _ (List.mem_append_left _ (List.mem_append_left _ (List.mem_append_left _ (List.mem_append_right _ h)))))
  have in5 : ∀ w ∈ u_ws RX5 TX5 6, w ∈ wsX5_init := fun _ h => List.mem_cons_of_mem _ (List.mem_append_left _ (List.mem_append_left _ (List.mem_append_left _ (List.mem_append_right _ h))))
  have in6 : ∀ w ∈ u_ws RX6 TX6 7, w ∈ wsX5_init := fun _ h => List.mem_cons_of_mem _ (List.mem_append_left _ (List.mem_append_left _ (List.mem_append_right _ h)))
  refine lv_aload_n hx hb dX5_init_0 rfl (lv_at hl 0 rfl) ?_
  refine x_obj S (xm 1 rfl) (xm 2 rfl) (xm 3 rfl) hl.1 dX5_init_1 (Nat.le_of_ble_eq_true rfl) (Nat.le_of_ble_eq_true rfl) ?_
  refine lv_aload_n hx hb dX5_init_4 rfl (lv_at hl 0 rfl) ?_
  refine x_new S hK (ci := 0) (fs := [.int 0, .int 0, .int 0, .null, .null, .null, .null, .null, .null]) rfl in0 tyX0 tyX0_ok (xm 4 rfl) (xm 5 rfl) (xm 6 rfl) (fun j hj => by rcases (show j = 0 ∨ j = 1 ∨ j = 2 ∨ j = 3 ∨ j = 4 ∨ j = 5 ∨ j = 6 ∨ j = 7 ∨ j = 8 by omega) with rfl | rfl | rfl | rfl | rfl | rfl | rfl | rfl | rfl <;> rfl) (Nat.le_of_ble_eq_true rfl) (Nat.le_of_ble_eq_true rfl) (h := y + 1) (by omega) dX5_init_5 (fun H1 hB hs1 oq => ?_)
  have hA := hA.old hsz oq
  have hz0 : ∀ q, q < y → H1[q]? = s.heap[q]? := fun q hq => (oq q (by omega)).trans (hz0 q hq)
  have hsz : H1.size = y + 2 := by omega
  have hB : At G (y + 1) (.inr (0, [.int 0, .int 0, .int 0, .null, .null, .null, .null, .null, .null])) H1 := hB
  refine lv_dup hx hb dX5_init_8 rfl ?_
  refine x_callI (As := []) (rest := [.ref (y + 1), .ref y]) S (fun U hU hW => hKC.go (fun q hq => hz0 q (by omega)) hU hW) (fun U g mk a h => h.calling) (c_X0_init l G z (y + 1) (by omega)) gX5_init_X0_init (xm 6 rfl) (xm 12 rfl) (xm 13 rfl) rfl rfl 0 (by decide +kernel) rfl ⟨Nat.le_of_ble_eq_true rfl, Nat.le_of_ble_eq_true rfl⟩ ⟨hB, hsz⟩ hl.1 rfl (Nat.le_of_ble_eq_true rfl) dX5_init_9 hL ⟨Nat.le_of_ble_eq_true rfl, Nat.le_of_ble_eq_true rfl⟩ (fun H1 locs hL hpost => ?_)
  obtain ⟨hB, hs1, oq⟩ := hpost
  have hA := hA.kept (oq _ (by omega))
  have hz0 : ∀ q, q < y → H1[q]? = s.heap[q]? := fun q hq => (oq q (by omega)).trans (hz0 q hq)
  have hsz : H1.size = y + 38 := by omega
  refine x_putF S hK hname hA (by omega) hL rfl in5 tyX5 tyX5_ok nmX5 0 (by decide) (xm 7 rfl) rfl rfl rfl rfl (Nat.le_of_ble_eq_true rfl) dX5_init_12 (fun H1 locs hL hA hs1 oq => ?_)
  have hA : At G (y) (.inr (5, [.ref (y + 1), .null, .int 0, .int 0, .int 0, .int 0])) H1 := hA
  have hB := hB.kept (P := fun q => q = y) ⟨hs1, oq⟩ (fun q h1 h2 h3 => by (try dsimp only at h3); omega)
  have hz0 : ∀ q, q < y → H1[q]? = s.heap[q]? := fun q hq => (oq q (by omega)).trans (hz0 q hq)
  have hsz : H1.size = _ := hs1.trans hsz
  refine lv_aload_n hx hb dX5_init_15 rfl (lv_at hl 0 rfl) ?_
  refine x_new S hK (ci := 6) (fs := [.int 0, .int 0, .int 0, .int 0, .int 0, .int 0, .int 0]) rfl in6 tyX6 tyX6_ok (xm 8 rfl) (xm 9 rfl) (xm 10 rfl) (fun j hj => by rcases (show j = 0 ∨ j = 1 ∨ j = 2 ∨ j = 3 ∨ j = 4 ∨ j = 5 ∨ j = 6 by omega) with rfl | rfl | rfl | rfl | rfl | rfl | rfl <;> rfl) (Nat.le_of_ble_eq_true rfl) (Nat.le_of_ble_eq_true rfl) (h := y + 38) (by omega) dX5_init_16 (fun H1 hW hs1 oq => ?_)
  have hA := hA.old hsz oq
  have hB := hB.old hsz oq
  have hz0 : ∀ q, q < y → H1[q]? = s.heap[q]? := fun q hq => (oq q (by omega)).trans (hz0 q hq)
  have hsz : H1.size = y + 39 := by omega
  have hW : At G (y + 38) (.inr (6, [.int 0, .int 0, .int 0, .int 0, .int 0, .int 0, .int 0])) H1 := hW
  refine lv_dup hx hb dX5_init_19 rfl ?_
  refine x_callIN (As := []) (rest := [.ref (y + 38), .ref y]) S (fun U hU hW => hKC.go (fun q hq => hz0 q (by omega)) hU hW) (fun U g mk a h => h.calling) (c_X6_init l G z (y + 38)) gX5_init_X6_init_n20 (xm 10 rfl) hKC.1.2.1 (xm 48 rfl) rfl rfl 0 (by decide +kernel) rfl ⟨Nat.le_of_ble_eq_true rfl, Nat.le_of_ble_eq_true rfl⟩ rfl hl.1 rfl (Nat.le_of_ble_eq_true rfl) dX5_init_20 hL ⟨Nat.le_of_ble_eq_true rfl, Nat.le_of_ble_eq_true rfl⟩ (fun H1 locs hL hpost => ?_)
  subst hpost
  refine x_putF S hK hname hA (by omega) hL rfl in5 tyX5 tyX5_ok nmX5 1 (by decide) (xm 11 rfl) rfl rfl rfl rfl (Nat.le_of_ble_eq_true rfl) dX5_init_23 (fun H1 locs hL hA hs1 oq => ?_)
  have hA : At G (y) (.inr (5, [.ref (y + 1), .ref (y + 38), .int 0, .int 0, .int 0, .int 0])) H1 := hA
  have hB := hB.kept (P := fun q => q = y) ⟨hs1, oq⟩ (fun q h1 h2 h3 => by (try dsimp only at h3); omega)
  have hW := hW.kept (oq _ (by omega))
  have hz0 : ∀ q, q < y → H1[q]? = s.heap[q]? := fun q hq => (oq q (by omega)).trans (hz0 q hq)
  have hsz : H1.size = _ := hs1.trans hsz
  refine W.cs (cells' := 38) (slots' := 653) (by omega) (by omega) ?_
  subst hQ
  refine x_vret (post := fun H H1 => PX G y 1 (trE y) (fun _ _ => 0) H1 ∧ PX G (y + 1) 37 (bkE G (y + 1)) bk0 H1 ∧ PX G (y + 38) 1 wsE (fun _ _ => 0) H1 ∧ H1.size = y + 39 ∧ ∀ q, q < y → H1[q]? = H[q]?) S hr hlocks rfl ?_ hL dX5_init_26
  refine ⟨fun k hk => ?_, hB, fun k hk => ?_, hsz, hz0⟩
  · rw [show k = 0 by omega]; exact hA
  · rw [show k = 0 by omega]; exact hW
set_option maxRecDepth 100000 in
set_option maxHeartbeats 4000000 in
theorem c_X7_init (l : Launch) (G : xG) (z : Nat) (a : Nat) (hz : z ≤ a) : xMc l yX7_init wsX7_init 4 75 229 3985 (KC G z) z [.ref a] (fun H => At G a (.inr (7, [.null, .null, .null, .null, .null, .int 0])) H ∧ H.size = a + 1) none (fun H H1 => PX G a 1 (hlE a) (fun _ j => if j = 5 then -1 else 0) H1 ∧ PX G (a + 1) 37 (bkE G (a + 1)) bk0 H1 ∧ PX G (a + 38) 2 (hsE G (a + 38)) hv0 H1 ∧ HU G (a + 38) (fun _ => bk0) H1 ∧ PX G (a + 188) 2 (txE G (a + 188)) (fun _ _ => 0) H1 ∧ PX G (a + 190) 1 (trE (a + 190)) (fun _ _ => 0) H1 ∧ PX G (a + 190 + 1) 37 (bkE G (a + 190 + 1)) bk0 H1 ∧ PX G (a + 190 + 38) 1 wsE (fun _ _ => 0) H1 ∧ PX G (a + 229) 1 wsE (fun _ _ => 0) H1 ∧ H1.size = a + 230 ∧ ∀ q, q < a → H1[q]? = H[q]?) := by
  refine xMc.of (cc := cX7_init) (maxL := 1) (ret := none) (by decide +kernel) rfl (Nat.le_of_ble_eq_true rfl) ?_
  intro p e s m args below meth c ls Q hQ S hr hlocks hname0 hKC hP hl
  have hK := hKC.1
  have hname : meth.name = "<init>" := hname0
  obtain ⟨hx, hb, hml, hown, hts⟩ := id S
  have hL : ∀ q ∈ ([] : List Loc), z ≤ q.base := fun q h => absurd h List.not_mem_nil
  obtain ⟨hA, hsz⟩ := hP
  have hz0 : ∀ q, q < a → s.heap[q]? = s.heap[q]? := fun _ _ => rfl
  have hl : lv_has ls 1 [(0, .ref a)] := hl
  have in0 : ∀ w ∈ u_ws RX0 TX0 9, w ∈ wsX7_init := fun _ h => List.mem_cons_of_mem _ (List.mem_append_left _ (List.mem_append_left _ (List.mem_append_left _ (List.mem_append_left _ (List.mem_append_left _ (List.mem_append_left _ (List.mem_append_left _ (List.mem_append_right _ h))))))))
  have in2 : ∀ w ∈ u_ws RX2 TX2 2, w ∈ wsX7_init := fun _ h => List.mem_cons_of_mem _ (List.mem_append_left _ (List.mem_append_left _ (List.mem_append_left _ (List.mem_append_left _ (List.mem_append_left _ (List.mem_append_right _ h))))))
  have in4 : ∀ w ∈ u_ws RX4 TX4 3, w ∈ wsX7_init := fun _ h => List.mem_cons_of_mem _ (List.mem_append_left _ (List.mem_append_left _ (List.mem_append_left _ (List.mem_append_left _ (List.mem_append_right _ h)))))
  have in5 : ∀ w ∈ u_ws RX5 TX5 6, w ∈ wsX7_init := fun _ h => List.mem_cons_of_mem _ (List.mem_append_left _ (List.mem_append_left _ (List.mem_append_left _ (List.mem_append_right _ h))))
  have in6 : ∀ w ∈ u_ws RX6 TX6 7, w ∈ wsX7_init := fun _ h => List.mem_cons_of_mem _ (List.mem_append_left _ (List.mem_append_left _ (List.mem_append_right _ h)))
  have in7 : ∀ w ∈ u_ws RX7 TX7 6, w ∈ wsX7_init := fun _ h => List.mem_cons_of_mem _ (List.mem_append_left _ (List.mem_append_left _ (List.mem_append_left _ (List.mem_append_left _ (List.mem_append_left _ (List.mem_append_left _ (List.mem_append_right _ h)))))))
  refine lv_aload_n hx hb dX7_init_0 rfl (lv_at hl 0 rfl) ?_
  refine x_obj S (xm 1 rfl) (xm 2 rfl) (xm 3 rfl) hl.1 dX7_init_1 (Nat.le_of_ble_eq_true rfl) (Nat.le_of_ble_eq_true rfl) ?_
  refine lv_aload_n hx hb dX7_init_4 rfl (lv_at hl 0 rfl) ?_
  refine x_new S hK (ci := 0) (fs := [.int 0, .int 0, .int 0, .null, .null, .null, .null, .null, .null]) rfl in0 tyX0 tyX0_ok (xm 4 rfl) (xm 5 rfl) (xm 6 rfl) (fun j hj => by rcases (show j = 0 ∨ j = 1 ∨ j = 2 ∨ j = 3 ∨ j = 4 ∨ j = 5 ∨ j = 6 ∨ j = 7 ∨ j = 8 by omega) with rfl | rfl | rfl | rfl | rfl | rfl | rfl | rfl | rfl <;> rfl) (Nat.le_of_ble_eq_true rfl) (Nat.le_of_ble_eq_true rfl) (h := a + 1) (by omega) dX7_init_5 (fun H1 hB hs1 oq => ?_)
  have hA := hA.old hsz oq
  have hz0 : ∀ q, q < a → H1[q]? = s.heap[q]? := fun q hq => (oq q (by omega)).trans (hz0 q hq)
  have hsz : H1.size = a + 2 := by omega
  have hB : At G (a + 1) (.inr (0, [.int 0, .int 0, .int 0, .null, .null, .null, .null, .null, .null])) H1 := hB
  refine lv_dup hx hb dX7_init_8 rfl ?_
  refine x_callI (As := []) (rest := [.ref (a + 1), .ref a]) S (fun U hU hW => hKC.go (fun q hq => hz0 q (by omega)) hU hW) (fun U g mk a h => h.calling) (c_X0_init l G z (a + 1) (by omega)) gX7_init_X0_init (xm 6 rfl) (xm 25 rfl) (xm 26 rfl) rfl rfl 0 (by decide +kernel) rfl ⟨Nat.le_of_ble_eq_true rfl, Nat.le_of_ble_eq_true rfl⟩ ⟨hB, hsz⟩ hl.1 rfl (Nat.le_of_ble_eq_true rfl) dX7_init_9 hL ⟨Nat.le_of_ble_eq_true rfl, Nat.le_of_ble_eq_true rfl⟩ (fun H1 locs hL hpost => ?_)
  obtain ⟨hB, hs1, oq⟩ := hpost
  have hA := hA.kept (oq _ (by omega))
  have hz0 : ∀ q, q < a → H1[q]? = s.heap[q]? := fun q hq => (oq q (by omega)).trans (hz0 q hq)
  have hsz : H1.size = a + 38 := by omega
  refine x_putF S hK hname hA (by omega) hL rfl in7 tyX7 tyX7_ok nmX7 0 (by decide) (xm 7 rfl) rfl rfl rfl rfl (Nat.le_of_ble_eq_true rfl) dX7_init_12 (fun H1 locs hL hA hs1 oq => ?_)
  have hA : At G (a) (.inr (7, [.ref (a + 1), .null, .null, .null, .null, .int 0])) H1 := hA
  have hB := hB.kept (P := fun q => q = a) ⟨hs1, oq⟩ (fun q h1 h2 h3 => by (try dsimp only at h3); omega)
  have hz0 : ∀ q, q < a → H1[q]? = s.heap[q]? := fun q hq => (oq q (by omega)).trans (hz0 q hq)
  have hsz : H1.size = _ := hs1.trans hsz
  refine lv_aload_n hx hb dX7_init_15 rfl (lv_at hl 0 rfl) ?_
  refine x_new S hK (ci := 2) (fs := [.null, .int 0]) rfl in2 tyX2 tyX2_ok (xm 8 rfl) (xm 9 rfl) (xm 10 rfl) (fun j hj => by rcases (show j = 0 ∨ j = 1 by omega) with rfl | rfl <;> rfl) (Nat.le_of_ble_eq_true rfl) (Nat.le_of_ble_eq_true rfl) (h := a + 38) (by omega) dX7_init_16 (fun H1 hS hs1 oq => ?_)
  have hA := hA.old hsz oq
  have hB := hB.old hsz oq
  have hz0 : ∀ q, q < a → H1[q]? = s.heap[q]? := fun q hq => (oq q (by omega)).trans (hz0 q hq)
  have hsz : H1.size = a + 39 := by omega
  have hS : At G (a + 38) (.inr (2, [.null, .int 0])) H1 := hS
  refine lv_dup hx hb dX7_init_19 rfl ?_
  refine x_callI (As := []) (rest := [.ref (a + 38), .ref a]) S (fun U hU hW => hKC.go (fun q hq => hz0 q (by omega)) hU hW) (fun U g mk a h => h.calling) (c_X2_init l G z (a + 38) (by omega)) gX7_init_X2_init (xm 10 rfl) (xm 61 rfl) (xm 62 rfl) rfl rfl 0 (by decide +kernel) rfl ⟨Nat.le_of_ble_eq_true rfl, Nat.le_of_ble_eq_true rfl⟩ ⟨hS, hsz⟩ hl.1 rfl (Nat.le_of_ble_eq_true rfl) dX7_init_20 hL ⟨Nat.le_of_ble_eq_true rfl, Nat.le_of_ble_eq_true rfl⟩ (fun H1 locs hL hpost => ?_)
  obtain ⟨hS, hSU, hs1, oq⟩ := hpost
  have hA := hA.kept (oq _ (by omega))
  have hB := hB.below (by omega) oq
  have hz0 : ∀ q, q < a → H1[q]? = s.heap[q]? := fun q hq => (oq q (by omega)).trans (hz0 q hq)
  have hsz : H1.size = a + 188 := by omega
  refine x_putF S hK hname hA (by omega) hL rfl in7 tyX7 tyX7_ok nmX7 1 (by decide) (xm 11 rfl) rfl rfl rfl rfl (Nat.le_of_ble_eq_true rfl) dX7_init_23 (fun H1 locs hL hA hs1 oq => ?_)
  have hA : At G (a) (.inr (7, [.ref (a + 1), .ref (a + 38), .null, .null, .null, .int 0])) H1 := hA
  have hB := hB.kept (P := fun q => q = a) ⟨hs1, oq⟩ (fun q h1 h2 h3 => by (try dsimp only at h3); omega)
  have hS := hS.kept (P := fun q => q = a) ⟨hs1, oq⟩ (fun q h1 h2 h3 => by (try dsimp only at h3); omega)
  have hSU := hSU.kept (P := fun q => q = a) ⟨hs1, oq⟩ (fun q h1 h2 h3 => by (try dsimp only at h3); omega)
  have hz0 : ∀ q, q < a → H1[q]? = s.heap[q]? := fun q hq => (oq q (by omega)).trans (hz0 q hq)
  have hsz : H1.size = _ := hs1.trans hsz
  refine lv_aload_n hx hb dX7_init_26 rfl (lv_at hl 0 rfl) ?_
  refine x_new S hK (ci := 4) (fs := [.null, .int 0, .int 0]) rfl in4 tyX4 tyX4_ok (xm 12 rfl) (xm 13 rfl) (xm 14 rfl) (fun j hj => by rcases (show j = 0 ∨ j = 1 ∨ j = 2 by omega) with rfl | rfl | rfl <;> rfl) (Nat.le_of_ble_eq_true rfl) (Nat.le_of_ble_eq_true rfl) (h := a + 188) (by omega) dX7_init_27 (fun H1 hT hs1 oq => ?_)
  have hA := hA.old hsz oq
  have hB := hB.old hsz oq
  have hS := hS.old hsz oq
  have hSU := hSU.old hsz oq
  have hz0 : ∀ q, q < a → H1[q]? = s.heap[q]? := fun q hq => (oq q (by omega)).trans (hz0 q hq)
  have hsz : H1.size = a + 189 := by omega
  have hT : At G (a + 188) (.inr (4, [.null, .int 0, .int 0])) H1 := hT
  refine lv_dup hx hb dX7_init_30 rfl ?_
  refine x_callI (As := []) (rest := [.ref (a + 188), .ref a]) S (fun U hU hW => hKC.go (fun q hq => hz0 q (by omega)) hU hW) (fun U g mk a h => h.calling) (c_X4_init l G z (a + 188) (by omega)) gX7_init_X4_init (xm 14 rfl) (xm 68 rfl) (xm 69 rfl) rfl rfl 0 (by decide +kernel) rfl ⟨Nat.le_of_ble_eq_true rfl, Nat.le_of_ble_eq_true rfl⟩ ⟨hT, hsz⟩ hl.1 rfl (Nat.le_of_ble_eq_true rfl) dX7_init_31 hL ⟨Nat.le_of_ble_eq_true rfl, Nat.le_of_ble_eq_true rfl⟩ (fun H1 locs hL hpost => ?_)
  obtain ⟨hT, hs1, oq⟩ := hpost
  have hA := hA.kept (oq _ (by omega))
  have hB := hB.below (by omega) oq
  have hS := hS.below (by omega) oq
  have hSU := hSU.below (by omega) oq
  have hz0 : ∀ q, q < a → H1[q]? = s.heap[q]? := fun q hq => (oq q (by omega)).trans (hz0 q hq)
  have hsz : H1.size = a + 190 := by omega
  refine x_putF S hK hname hA (by omega) hL rfl in7 tyX7 tyX7_ok nmX7 2 (by decide) (xm 15 rfl) rfl rfl rfl rfl (Nat.le_of_ble_eq_true rfl) dX7_init_34 (fun H1 locs hL hA hs1 oq => ?_)
  have hA : At G (a) (.inr (7, [.ref (a + 1), .ref (a + 38), .ref (a + 188), .null, .null, .int 0])) H1 := hA
  have hB := hB.kept (P := fun q => q = a) ⟨hs1, oq⟩ (fun q h1 h2 h3 => by (try dsimp only at h3); omega)
  have hS := hS.kept (P := fun q => q = a) ⟨hs1, oq⟩ (fun q h1 h2 h3 => by (try dsimp only at h3); omega)
  have hSU := hSU.kept (P := fun q => q = a) ⟨hs1, oq⟩ (fun q h1 h2 h3 => by (try dsimp only at h3); omega)
  have hT := hT.kept (P := fun q => q = a) ⟨hs1, oq⟩ (fun q h1 h2 h3 => by (try dsimp only at h3); omega)
  have hz0 : ∀ q, q < a → H1[q]? = s.heap[q]? := fun q hq => (oq q (by omega)).trans (hz0 q hq)
  have hsz : H1.size = _ := hs1.trans hsz
  refine lv_aload_n hx hb dX7_init_37 rfl (lv_at hl 0 rfl) ?_
  refine x_new S hK (ci := 5) (fs := [.null, .null, .int 0, .int 0, .int 0, .int 0]) rfl in5 tyX5 tyX5_ok (xm 16 rfl) (xm 17 rfl) (xm 18 rfl) (fun j hj => by rcases (show j = 0 ∨ j = 1 ∨ j = 2 ∨ j = 3 ∨ j = 4 ∨ j = 5 by omega) with rfl | rfl | rfl | rfl | rfl | rfl <;> rfl) (Nat.le_of_ble_eq_true rfl) (Nat.le_of_ble_eq_true rfl) (h := a + 190) (by omega) dX7_init_38 (fun H1 hY hs1 oq => ?_)
  have hA := hA.old hsz oq
  have hB := hB.old hsz oq
  have hS := hS.old hsz oq
  have hSU := hSU.old hsz oq
  have hT := hT.old hsz oq
  have hz0 : ∀ q, q < a → H1[q]? = s.heap[q]? := fun q hq => (oq q (by omega)).trans (hz0 q hq)
  have hsz : H1.size = a + 191 := by omega
  have hY : At G (a + 190) (.inr (5, [.null, .null, .int 0, .int 0, .int 0, .int 0])) H1 := hY
  refine lv_dup hx hb dX7_init_41 rfl ?_
  refine x_callI (As := []) (rest := [.ref (a + 190), .ref a]) S (fun U hU hW => hKC.go (fun q hq => hz0 q (by omega)) hU hW) (fun U g mk a h => h.calling) (c_X5_init l G z (a + 190) (by omega)) gX7_init_X5_init (xm 18 rfl) (xm 73 rfl) (xm 74 rfl) rfl rfl 0 (by decide +kernel) rfl ⟨Nat.le_of_ble_eq_true rfl, Nat.le_of_ble_eq_true rfl⟩ ⟨hY, hsz⟩ hl.1 rfl (Nat.le_of_ble_eq_true rfl) dX7_init_42 hL ⟨Nat.le_of_ble_eq_true rfl, Nat.le_of_ble_eq_true rfl⟩ (fun H1 locs hL hpost => ?_)
  obtain ⟨hY, hYB, hYW, hs1, oq⟩ := hpost
  have hA := hA.kept (oq _ (by omega))
  have hB := hB.below (by omega) oq
  have hS := hS.below (by omega) oq
  have hSU := hSU.below (by omega) oq
  have hT := hT.below (by omega) oq
  have hz0 : ∀ q, q < a → H1[q]? = s.heap[q]? := fun q hq => (oq q (by omega)).trans (hz0 q hq)
  have hsz : H1.size = a + 229 := by omega
  refine x_putF S hK hname hA (by omega) hL rfl in7 tyX7 tyX7_ok nmX7 3 (by decide) (xm 19 rfl) rfl rfl rfl rfl (Nat.le_of_ble_eq_true rfl) dX7_init_45 (fun H1 locs hL hA hs1 oq => ?_)
  have hA : At G (a) (.inr (7, [.ref (a + 1), .ref (a + 38), .ref (a + 188), .ref (a + 190), .null, .int 0])) H1 := hA
  have hB := hB.kept (P := fun q => q = a) ⟨hs1, oq⟩ (fun q h1 h2 h3 => by (try dsimp only at h3); omega)
  have hS := hS.kept (P := fun q => q = a) ⟨hs1, oq⟩ (fun q h1 h2 h3 => by (try dsimp only at h3); omega)
  have hSU := hSU.kept (P := fun q => q = a) ⟨hs1, oq⟩ (fun q h1 h2 h3 => by (try dsimp only at h3); omega)
  have hT := hT.kept (P := fun q => q = a) ⟨hs1, oq⟩ (fun q h1 h2 h3 => by (try dsimp only at h3); omega)
  have hY := hY.kept (P := fun q => q = a) ⟨hs1, oq⟩ (fun q h1 h2 h3 => by (try dsimp only at h3); omega)
  have hYB := hYB.kept (P := fun q => q = a) ⟨hs1, oq⟩ (fun q h1 h2 h3 => by (try dsimp only at h3); omega)
  have hYW := hYW.kept (P := fun q => q = a) ⟨hs1, oq⟩ (fun q h1 h2 h3 => by (try dsimp only at h3); omega)
  have hz0 : ∀ q, q < a → H1[q]? = s.heap[q]? := fun q hq => (oq q (by omega)).trans (hz0 q hq)
  have hsz : H1.size = _ := hs1.trans hsz
  refine lv_aload_n hx hb dX7_init_48 rfl (lv_at hl 0 rfl) ?_
  refine x_new S hK (ci := 6) (fs := [.int 0, .int 0, .int 0, .int 0, .int 0, .int 0, .int 0]) rfl in6 tyX6 tyX6_ok (xm 20 rfl) (xm 21 rfl) (xm 22 rfl) (fun j hj => by rcases (show j = 0 ∨ j = 1 ∨ j = 2 ∨ j = 3 ∨ j = 4 ∨ j = 5 ∨ j = 6 by omega) with rfl | rfl | rfl | rfl | rfl | rfl | rfl <;> rfl) (Nat.le_of_ble_eq_true rfl) (Nat.le_of_ble_eq_true rfl) (h := a + 229) (by omega) dX7_init_49 (fun H1 hW hs1 oq => ?_)
  have hA := hA.old hsz oq
  have hB := hB.old hsz oq
  have hS := hS.old hsz oq
  have hSU := hSU.old hsz oq
  have hT := hT.old hsz oq
  have hY := hY.old hsz oq
  have hYB := hYB.old hsz oq
  have hYW := hYW.old hsz oq
  have hz0 : ∀ q, q < a → H1[q]? = s.heap[q]? := fun q hq => (oq q (by omega)).trans (hz0 q hq)
  have hsz : H1.size = a + 230 := by omega
  have hW : At G (a + 229) (.inr (6, [.int 0, .int 0, .int 0, .int 0, .int 0, .int 0, .int 0])) H1 := hW
  refine lv_dup hx hb dX7_init_52 rfl ?_
  refine x_callIN (As := []) (rest := [.ref (a + 229), .ref a]) S (fun U hU hW => hKC.go (fun q hq => hz0 q (by omega)) hU hW) (fun U g mk a h => h.calling) (c_X6_init l G z (a + 229)) gX7_init_X6_init_n39 (xm 22 rfl) hKC.1.2.2.1 (xm 82 rfl) rfl rfl 0 (by decide +kernel) rfl ⟨Nat.le_of_ble_eq_true rfl, Nat.le_of_ble_eq_true rfl⟩ rfl hl.1 rfl (Nat.le_of_ble_eq_true rfl) dX7_init_53 hL ⟨Nat.le_of_ble_eq_true rfl, Nat.le_of_ble_eq_true rfl⟩ (fun H1 locs hL hpost => ?_)
  subst hpost
  refine x_putF S hK hname hA (by omega) hL rfl in7 tyX7 tyX7_ok nmX7 4 (by decide) (xm 23 rfl) rfl rfl rfl rfl (Nat.le_of_ble_eq_true rfl) dX7_init_56 (fun H1 locs hL hA hs1 oq => ?_)
  have hA : At G (a) (.inr (7, [.ref (a + 1), .ref (a + 38), .ref (a + 188), .ref (a + 190), .ref (a + 229), .int 0])) H1 := hA
  have hB := hB.kept (P := fun q => q = a) ⟨hs1, oq⟩ (fun q h1 h2 h3 => by (try dsimp only at h3); omega)
  have hS := hS.kept (P := fun q => q = a) ⟨hs1, oq⟩ (fun q h1 h2 h3 => by (try dsimp only at h3); omega)
  have hSU := hSU.kept (P := fun q => q = a) ⟨hs1, oq⟩ (fun q h1 h2 h3 => by (try dsimp only at h3); omega)
  have hT := hT.kept (P := fun q => q = a) ⟨hs1, oq⟩ (fun q h1 h2 h3 => by (try dsimp only at h3); omega)
  have hY := hY.kept (P := fun q => q = a) ⟨hs1, oq⟩ (fun q h1 h2 h3 => by (try dsimp only at h3); omega)
  have hYB := hYB.kept (P := fun q => q = a) ⟨hs1, oq⟩ (fun q h1 h2 h3 => by (try dsimp only at h3); omega)
  have hYW := hYW.kept (P := fun q => q = a) ⟨hs1, oq⟩ (fun q h1 h2 h3 => by (try dsimp only at h3); omega)
  have hW := hW.kept (oq _ (by omega))
  have hz0 : ∀ q, q < a → H1[q]? = s.heap[q]? := fun q hq => (oq q (by omega)).trans (hz0 q hq)
  have hsz : H1.size = _ := hs1.trans hsz
  refine lv_aload_n hx hb dX7_init_59 rfl (lv_at hl 0 rfl) ?_
  refine lv_iconst (v := (-1)) hx hb dX7_init_60 (by decide) ?_
  refine x_putA S hK hA (by omega) hL rfl in7 tyX7 tyX7_ok nmX7 5 (by decide) (xm 24 rfl) rfl rfl rfl (Nat.le_of_ble_eq_true rfl) dX7_init_61 (fun H1 locs hL hA hs1 oq => ?_)
  have hA : At G (a) (.inr (7, [.ref (a + 1), .ref (a + 38), .ref (a + 188), .ref (a + 190), .ref (a + 229), .int (-1)])) H1 := hA
  have hB := hB.kept (P := fun q => q = a) ⟨hs1, oq⟩ (fun q h1 h2 h3 => by (try dsimp only at h3); omega)
  have hS := hS.kept (P := fun q => q = a) ⟨hs1, oq⟩ (fun q h1 h2 h3 => by (try dsimp only at h3); omega)
  have hSU := hSU.kept (P := fun q => q = a) ⟨hs1, oq⟩ (fun q h1 h2 h3 => by (try dsimp only at h3); omega)
  have hT := hT.kept (P := fun q => q = a) ⟨hs1, oq⟩ (fun q h1 h2 h3 => by (try dsimp only at h3); omega)
  have hY := hY.kept (P := fun q => q = a) ⟨hs1, oq⟩ (fun q h1 h2 h3 => by (try dsimp only at h3); omega)
  have hYB := hYB.kept (P := fun q => q = a) ⟨hs1, oq⟩ (fun q h1 h2 h3 => by (try dsimp only at h3); omega)
  have hYW := hYW.kept (P := fun q => q = a) ⟨hs1, oq⟩ (fun q h1 h2 h3 => by (try dsimp only at h3); omega)
  have hW := hW.kept (oq _ (by omega))
  have hz0 : ∀ q, q < a → H1[q]? = s.heap[q]? := fun q hq => (oq q (by omega)).trans (hz0 q hq)
  have hsz : H1.size = _ := hs1.trans hsz
  refine W.cs (cells' := 229) (slots' := 3985) (by omega) (by omega) ?_
  subst hQ
  refine x_vret (post := fun H H1 => PX G a 1 (hlE a) (fun _ j => if j = 5 then -1 else 0) H1 ∧ PX G (a + 1) 37 (bkE G (a + 1)) bk0 H1 ∧ PX G (a + 38) 2 (hsE G (a + 38)) hv0 H1 ∧ HU G (a + 38) (fun _ => bk0) H1 ∧ PX G (a + 188) 2 (txE G (a + 188)) (fun _ _ => 0) H1 ∧ PX G (a + 190) 1 (trE (a + 190)) (fun _ _ => 0) H1 ∧ PX G (a + 190 + 1) 37 (bkE G (a + 190 + 1)) bk0 H1 ∧ PX G (a + 190 + 38) 1 wsE (fun _ _ => 0) H1 ∧ PX G (a + 229) 1 wsE (fun _ _ => 0) H1 ∧ H1.size = a + 230 ∧ ∀ q, q < a → H1[q]? = H[q]?) S hr hlocks rfl ?_ hL dX7_init_64
  refine ⟨fun k hk => ?_, hB, hS, hSU, hT, hY, hYB, hYW, fun k hk => ?_, hsz, hz0⟩
  · rw [show k = 0 by omega]; exact hA
  · rw [show k = 0 by omega]; exact hW
