/-! ===== the constructors with loops ===== -/
theorem arrV_ext (cA : ClassId) (n : Nat) {f g : Nat → Value} (h : ∀ j, j < n → f j = g j) : arrV cA n f = arrV cA n g := by
  unfold arrV
  congr 2
  funext j
  exact h j.val j.isLt
theorem At.rq {G : xG} {a n : Nat} {cA : ClassId} {f g : Nat → Option Nat} {H : Heap} (h : At G a (.inl (cA, n, .inr (.inr (.inr (.inr f))))) H) (e : ∀ j, j < n → f j = g j) : At G a (.inl (cA, n, .inr (.inr (.inr (.inr g))))) H := by
  have h1 : H[a]? = some (vp_cell cA (n, .inr (.inr (.inr (.inr f))))) := h
  show H[a]? = some (vp_cell cA (n, .inr (.inr (.inr (.inr g)))))
  rw [h1, vp_cell_q, vp_cell_q, arrV_ext cA n fun j hj => by rw [e j hj]]
theorem At.ri {G : xG} {a n : Nat} {cA : ClassId} {f g : Nat → Int32} {H : Heap} (h : At G a (.inl (cA, n, .inl f)) H) (e : ∀ j, j < n → f j = g j) : At G a (.inl (cA, n, .inl g)) H := by
  have h1 : H[a]? = some (vp_cell cA (n, .inl f)) := h
  show H[a]? = some (vp_cell cA (n, .inl g))
  rw [h1, vp_cell_i, vp_cell_i, arrV_ext cA n fun j hj => by rw [e j hj]]
theorem At.to {G : xG} {a : Nat} {x y : va_E} {H : Heap} (h : At G a x H) (e : x = y) : At G a y H := e ▸ h
/-- the Books as they are made -/
def bk0 : xV := fun k j => if k = 1 then xsF j else if k < 6 then 0 else if 31 ≤ k then (if j = 0 then nI ((k - 31) % 3) else if j = 1 then -1 else 0) else if k % 2 = 0 ∧ k < 30 then (if j = 0 then nI ((k - 6) / 2) else if j = 1 then -1 else 0) else 0
theorem bk0_h {i : Nat} (hi : i < 12) (j : Nat) : bk0 (6 + 2 * i) j = if j = 0 then nI i else if j = 1 then -1 else 0 := by
  unfold bk0
  rw [if_neg (by omega), if_neg (by omega), if_neg (by omega), if_pos (by omega), show (6 + 2 * i - 6) / 2 = i by omega]
theorem bk0_f {i : Nat} (hi : i < 12) : bk0 (7 + 2 * i) = fun _ => 0 := by
  funext j
  unfold bk0
  rw [if_neg (by omega), if_neg (by omega), if_neg (by omega), if_neg (by omega)]
theorem bk0_k {i : Nat} (j : Nat) : bk0 (31 + i) j = if j = 0 then nI (i % 3) else if j = 1 then -1 else 0 := by
  unfold bk0
  rw [if_neg (by omega), if_neg (by omega), if_pos (by omega), show 31 + i - 31 = i by omega]
theorem bkE0_h {G : xG} {h i : Nat} (hi : i < 12) : bkE G h (6 + 2 * i) (bk0 (6 + 2 * i)) = .inr (1, [.int (nI i), .int (-1), .int 0, .int 0, .int 0, .int 0, .int 0, .int 0, .int 0, .int 0, .int 0, .int 0, .int 0, .int 0, .ref (h + (6 + 2 * i) + 1)]) := by
  rw [bkE_hire G h i hi, show h + (6 + 2 * i) + 1 = h + (7 + 2 * i) by omega]
  simp only [bk0_h hi]
  rfl
theorem bkE0_f {G : xG} {h i : Nat} (hi : i < 12) : bkE G h (7 + 2 * i) (bk0 (7 + 2 * i)) = .inl (G.2.1, 32, .inl (fun _ => 0)) := by
  rw [bkE_frow G h i hi, bk0_f hi]
theorem bkE0_k {G : xG} {h i : Nat} : bkE G h (31 + i) (bk0 (31 + i)) = .inr (3, [.int (nI (i % 3)), .int (-1), .int 0]) := by
  rw [bkE_key G h i]
  simp only [bk0_k]
  rfl
theorem bk0_r {k : Nat} (h1 : 2 ≤ k) (h2 : k < 6) : bk0 k = fun _ => 0 := by
  funext j
  unfold bk0
  rw [if_neg (by omega), if_pos h2]
/-! ===== the other constructors ===== -/
theorem PX.below {G : xG} {b N h : Nat} {E : Nat → (Nat → Int32) → va_E} {v : xV} {H H1 : Heap} (k : PX G b N E v H) (hb : b + N ≤ h) (oq : ∀ q, q < h → H1[q]? = H[q]?) : PX G b N E v H1 := fun i hi => (k i hi).kept (oq _ (by omega))
theorem HU.below {G : xG} {x h : Nat} {u : Nat → xV} {H H1 : Heap} (k : HU G x u H) (hb : x + 150 ≤ h) (oq : ∀ q, q < h → H1[q]? = H[q]?) : HU G x u H1 := fun i hi => (k i hi).below (by omega) oq
def hv0 : xV := fun k j => if k = 1 then nI j else 0
/-! ===== the reference's constructor, and 'set' ===== -/
def m1 (i : Nat) : Nat → Int32 := fun j => if j = 1 then 1200 else if j = 2 then 800 else if j = 3 then 600 else if j = 4 then 25 else if j = 5 then 1 else if j = 6 then 5000 else if j = 7 then 300 else if j = 8 then 2 else if 40 ≤ j ∧ j % 2 = 0 ∧ j < 40 + 2 * i then -1 else 0
def M0 : xV := fun k j => if k = 1 then m1 6 j else if k = 0 ∧ j = 4 then -2000000004 else 0
theorem m1_up (i : Nat) : upd (m1 i) (40 + 2 * i) (-1) = m1 (i + 1) := by
  funext j
  unfold upd m1
  repeat' split
  all_goals first | rfl | omega
theorem m1_0 : upd (upd (upd (upd (upd (upd (upd (upd (fun _ => 0) 1 1200) 2 800) 3 600) 4 25) 5 1) 6 5000) 7 300) 8 2 = m1 0 := by
  funext j
  unfold upd m1
  repeat' split
  all_goals first | rfl | omega
