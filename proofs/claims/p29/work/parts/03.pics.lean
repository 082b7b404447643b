/-! ===== OWN LAYER 2: what each kind of object holds; more of the pure words ===== -/
/-- Books at b: 0 the object, 1 settings, 2 accounts, 3 charged, 4 paid, 5 hires, 6 + 2 i the hire i, 7 + 2 i its faults' rows, 30 keys, 31 + j the key j -/
def bkE (G : xG) (b : Nat) (k : Nat) (w : Nat → Int32) : va_E :=
  if k = 0 then .inr (0, [.int (w 0), .int (w 1), .int (w 2), .ref (b + 1), .ref (b + 2), .ref (b + 3), .ref (b + 4), .ref (b + 5), .ref (b + 30)])
  else if k = 1 then .inl (G.2.1, 8, .inl w)
  else if k = 2 then .inl (G.2.1, 9, .inl w)
  else if k = 3 then .inl (G.2.1, 10, .inl w)
  else if k = 4 then .inl (G.2.1, 10, .inl w)
  else if k = 5 then .inl (G.2.2.2.1, 12, .inr (.inr (.inr (.inr (fun j => some (b + (6 + 2 * j)))))))
  else if k = 30 then .inl (G.2.2.2.2, 6, .inr (.inr (.inr (.inr (fun j => some (b + (31 + j)))))))
  else if 31 ≤ k then .inr (3, [.int (w 0), .int (w 1), .int (w 2)])
  else if k % 2 = 0 then .inr (1, [.int (w 0), .int (w 1), .int (w 2), .int (w 3), .int (w 4), .int (w 5), .int (w 6), .int (w 7), .int (w 8), .int (w 9), .int (w 10), .int (w 11), .int (w 12), .int (w 13), .ref (b + (k + 1))])
  else .inl (G.2.1, 32, .inl w)
theorem bkE_hire (G : xG) (b i : Nat) (hi : i < 12) (w : Nat → Int32) : bkE G b (6 + 2 * i) w = .inr (1, [.int (w 0), .int (w 1), .int (w 2), .int (w 3), .int (w 4), .int (w 5), .int (w 6), .int (w 7), .int (w 8), .int (w 9), .int (w 10), .int (w 11), .int (w 12), .int (w 13), .ref (b + (7 + 2 * i))]) := by
  unfold bkE
  rw [if_neg (by omega), if_neg (by omega), if_neg (by omega), if_neg (by omega), if_neg (by omega), if_neg (by omega), if_neg (by omega), if_neg (by omega), if_pos (by omega), show 6 + 2 * i + 1 = 7 + 2 * i by omega]
theorem bkE_frow (G : xG) (b i : Nat) (hi : i < 12) (w : Nat → Int32) : bkE G b (7 + 2 * i) w = .inl (G.2.1, 32, .inl w) := by
  unfold bkE
  rw [if_neg (by omega), if_neg (by omega), if_neg (by omega), if_neg (by omega), if_neg (by omega), if_neg (by omega), if_neg (by omega), if_neg (by omega), if_neg (by omega)]
theorem bkE_key (G : xG) (b i : Nat) (w : Nat → Int32) : bkE G b (31 + i) w = .inr (3, [.int (w 0), .int (w 1), .int (w 2)]) := by
  unfold bkE
  rw [if_neg (by omega), if_neg (by omega), if_neg (by omega), if_neg (by omega), if_neg (by omega), if_neg (by omega), if_neg (by omega), if_pos (by omega)]
/-- History at x: 0 the object (1: kept), 1 the states: which of the four Books behind it stands at each place -/
def hsE (G : xG) (x : Nat) (k : Nat) (w : Nat → Int32) : va_E :=
  if k = 0 then .inr (2, [.ref (x + 1), .int (w 1)])
  else .inl (G.2.2.1, 4, .inr (.inr (.inr (.inr (fun j => some (x + (2 + 37 * (w j).toNatClampNeg)))))))
/-- the four Books of History -/
def HU (G : xG) (x : Nat) (u : Nat → xV) (H : Heap) : Prop := ∀ i, i < 4 → PX G (x + (2 + 37 * i)) 37 (bkE G (x + (2 + 37 * i))) (u i) H
def xup (u : Nat → xV) (i : Nat) (v : xV) : Nat → xV := fun j => if j = i then v else u j
theorem HU.kept {G : xG} {x : Nat} {u : Nat → xV} {H H1 : Heap} {P : Nat → Prop} (h : HU G x u H) (hf : XF P H H1) (hp : ∀ q, x + 2 ≤ q → q < x + 150 → ¬ P q) : HU G x u H1 :=
  fun i hi => (h i hi).kept hf (fun q h1 h2 => hp q (by omega) (by omega))
theorem HU.to {G : xG} {x : Nat} {u u' : Nat → xV} {H : Heap} (h : HU G x u H) (e : u' = u) : HU G x u' H := by subst e; exact h
theorem HU.set {G : xG} {x : Nat} {u : Nat → xV} {H H1 : Heap} {P : Nat → Prop} {i : Nat} {v : xV} (h : HU G x u H) (hi : i < 4) (hv : PX G (x + (2 + 37 * i)) 37 (bkE G (x + (2 + 37 * i))) v H1) (hf : XF P H H1) (hp : ∀ q, P q → x + (2 + 37 * i) ≤ q ∧ q < x + (2 + 37 * i) + 37) : HU G x (xup u i v) H1 := by
  intro j hj
  by_cases e : j = i
  · subst e
    rw [show xup u j v j = v by simp [xup]]
    exact hv
  · rw [show xup u i v j = u j by simp [xup, e]]
    exact (h j hj).kept hf (fun q h1 h2 h3 => by have := hp q h3; omega)
/-- Text at t: 0 the object (1: length, 2: place), 1 the characters -/
def txE (G : xG) (t : Nat) (k : Nat) (w : Nat → Int32) : va_E :=
  if k = 0 then .inr (4, [.ref (t + 1), .int (w 1), .int (w 2)]) else .inl (G.2.1, 80, .inl w)
/-- Trial at y: the object (2: position, 3: reason, 4: clashing, 5: entered) -/
def trE (y : Nat) (_k : Nat) (w : Nat → Int32) : va_E := .inr (5, [.ref (y + 1), .ref (y + 38), .int (w 2), .int (w 3), .int (w 4), .int (w 5)])
def wsE (_k : Nat) (w : Nat → Int32) : va_E := .inr (6, [.int (w 0), .int (w 1), .int (w 2), .int (w 3), .int (w 4), .int (w 5), .int (w 6)])
/-- VillageHall at a: the object (5: latestClash) -/
def hlE (a : Nat) (_k : Nat) (w : Nat → Int32) : va_E := .inr (7, [.ref (a + 1), .ref (a + 38), .ref (a + 188), .ref (a + 190), .ref (a + 229), .int (w 5)])
/-- the reference at o: 0 the object, 1 all, 2 saved, 3 aside, 4 text -/
def mdE (G : xG) (o : Nat) (k : Nat) (w : Nat → Int32) : va_E :=
  if k = 0 then .inr (8, [.ref (o + 1), .ref (o + 2), .ref (o + 3), .int (w 3), .int (w 4), .ref (o + 4), .int (w 6), .int (w 7), .int (w 8), .int (w 9), .int (w 10), .int (w 11), .int (w 12), .int (w 13), .int (w 14), .int (w 15), .int (w 16), .int (w 17)])
  else if k = 1 then .inl (G.2.1, 820, .inl w)
  else if k = 2 then .inl (G.2.1, 3280, .inl w)
  else if k = 3 then .inl (G.2.1, 820, .inl w)
  else .inl (G.2.1, 80, .inl w)
theorem xin_lt {e : Int32} {n : Nat} (h : xin e n) : e.toNatClampNeg < n := Nat.not_le.mp fun q => h (Or.inr q)
theorem xo_n {α : Type} (n : α) (k : Nat → α) : xo none n k = n := rfl
theorem xo_s {α : Type} (n : α) (k : Nat → α) (i : Nat) : xo (some i) n k = k i := rfl
def xb2 {α β γ : Type} (a : Option (α × β)) (k : α → β → Option γ) : Option γ := match a with
  | none => none
  | some q => k q.1 q.2
theorem xb2_some {α β γ : Type} {a : Option (α × β)} {k : α → β → Option γ} {r : γ} (h : xb2 a k = some r) : ∃ x y, a = some (x, y) ∧ k x y = some r := by
  cases a with
  | none => cases h
  | some q => exact ⟨q.1, q.2, rfl, h⟩
theorem xb2_eq {α β γ : Type} {a : Option (α × β)} {x : α} {y : β} (h : a = some (x, y)) (k : α → β → Option γ) : xb2 a k = k x y := by rw [h]; rfl
def xb3 {α β γ δ : Type} (a : Option (α × β × γ)) (k : α → β → γ → Option δ) : Option δ := match a with
  | none => none
  | some q => k q.1 q.2.1 q.2.2
theorem xb3_some {α β γ δ : Type} {a : Option (α × β × γ)} {k : α → β → γ → Option δ} {r : δ} (h : xb3 a k = some r) : ∃ x y z, a = some (x, y, z) ∧ k x y z = some r := by
  cases a with
  | none => cases h
  | some q => exact ⟨q.1, q.2.1, q.2.2, rfl, h⟩
theorem xb3_eq {α β γ δ : Type} {a : Option (α × β × γ)} {x : α} {y : β} {z : γ} (h : a = some (x, y, z)) (k : α → β → γ → Option δ) : xb3 a k = k x y z := by rw [h]; rfl
def xb4 {α β γ δ ε : Type} (a : Option (α × β × γ × δ)) (k : α → β → γ → δ → Option ε) : Option ε := match a with
  | none => none
  | some q => k q.1 q.2.1 q.2.2.1 q.2.2.2
theorem xb4_some {α β γ δ ε : Type} {a : Option (α × β × γ × δ)} {k : α → β → γ → δ → Option ε} {r : ε} (h : xb4 a k = some r) : ∃ x y z w, a = some (x, y, z, w) ∧ k x y z w = some r := by
  cases a with
  | none => cases h
  | some q => exact ⟨q.1, q.2.1, q.2.2.1, q.2.2.2, rfl, h⟩
theorem xb4_eq {α β γ δ ε : Type} {a : Option (α × β × γ × δ)} {x : α} {y : β} {z : γ} {w : δ} (h : a = some (x, y, z, w)) (k : α → β → γ → δ → Option ε) : xb4 a k = k x y z w := by rw [h]; rfl
def xb5 {α β γ δ ε ζ : Type} (a : Option (α × β × γ × δ × ε)) (k : α → β → γ → δ → ε → Option ζ) : Option ζ := match a with
  | none => none
  | some q => k q.1 q.2.1 q.2.2.1 q.2.2.2.1 q.2.2.2.2
theorem xb5_some {α β γ δ ε ζ : Type} {a : Option (α × β × γ × δ × ε)} {k : α → β → γ → δ → ε → Option ζ} {r : ζ} (h : xb5 a k = some r) : ∃ x y z w u, a = some (x, y, z, w, u) ∧ k x y z w u = some r := by
  cases a with
  | none => cases h
  | some q => exact ⟨q.1, q.2.1, q.2.2.1, q.2.2.2.1, q.2.2.2.2, rfl, h⟩
theorem xb5_eq {α β γ δ ε ζ : Type} {a : Option (α × β × γ × δ × ε)} {x : α} {y : β} {z : γ} {w : δ} {u : ε} (h : a = some (x, y, z, w, u)) (k : α → β → γ → δ → ε → Option ζ) : xb5 a k = k x y z w u := by rw [h]; rfl
section XAHS
variable {p : Program} {l : Launch} {e : Env} {R : Room} {s : State} {m : MethodId} {args : Array Value} {below : List Frame} {meth : Method} {c : Code} {H : Heap} {locs : List Loc} {cells slots : Nat} {Q : State → Prop}
variable {cc : ByteArray} {pc nL : Nat} {ls : Array Slot} {rest : List Value} {G : xG} {b z : Nat} {v : xV} {u : Nat → xV} {own : String} {Ts : List Cond}
/-- a state is put at a place of History's row -/
theorem x_ahs (S : CallFix p m c cc nL s args Ts own) (hK : KK G s) (hP : PX G b 2 (hsE G b) v H) (hU : HU G b u H) (hzb : z ≤ b) (hL : ∀ q ∈ locs, z ≤ q.base) {i y : Int32} (j : Nat) (hj : i.toNatClampNeg = j) (hin : xin i 4) (k : Nat) (hk : k = y.toNatClampNeg) (hk4 : k < 4) {v' : xV} (hv : v' = upd2 v 1 j y) (hdg : decode cc pc = .ok (.aastore, 1))
    (kk : ∀ (H1 : Heap) (locs1 : List Loc), (∀ q ∈ locs1, z ≤ q.base) → PX G b 2 (hsE G b) v' H1 → XF (fun q => q = b + 1) H H1 → W p l e R s m args below meth c H1 locs1 cells slots Q (F0 m (pc + 1) ls rest)) : W p l e R s m args below meth c H locs cells slots Q (F0 m pc ls (.ref (b + (2 + 37 * k)) :: .int i :: .ref (b + 1) :: rest)) := by
  obtain ⟨hx, hb, hml, hown, hts⟩ := S
  subst hj
  have hlt : i.toNatClampNeg < 4 := xin_lt hin
  have h0 : ¬ i < 0 := fun q => hin (Or.inl q)
  have hA : At G (b + 1) (.inl (G.2.2.1, 4, .inr (.inr (.inr (.inr (fun j => some (b + (2 + 37 * (v 1 j).toNatClampNeg)))))))) H := hP 1 (by decide)
  have hV : At G (b + (2 + 37 * k) + 0) (bkE G (b + (2 + 37 * k)) 0 (u k 0)) H := hU k hk4 0 (by decide)
  obtain ⟨r', hr', cellV, g1, g2, g3, -⟩ := hV
  have hc : vwCl[0]? = some (RX0, TX0, 9) := rfl
  have hcls := (hK.1.1 0 _ hc).2
  obtain ⟨kA, comp, k1, k2, k3, -⟩ := (hK.1.2 1 (G.2.2.1, .object RX0) rfl).2
  have hcomp : comp = G.1.1 0 := Option.some.inj (k3.symm.trans hcls.1)
  subst hcomp
  obtain ⟨kC, hkC, -⟩ := hcls.2
  refine W.aast hx hb hA (fun q h => by cases h) (fun h => by cases h) k1 k2 rfl hkC ⟨h0, by show _ < (arrV _ _ _).slots.size; rw [arrV_size]; exact hlt⟩ g1 (fun q h => by rw [g3] at h; cases h) (by rw [g2]; exact hkC) (by rw [g2]; exact va_assign hcls) rfl rfl hdg fun H1 e zz oq => ?_
  refine kk H1 _ (fun q hq => ?_) (by
    rw [hv]
    refine hP.row (k := 1) ?_ oq
    show H1[b + 1]? = some (vp_cell _ _)
    rw [e]
    rw [vp_cell_q, vp_cell_q, arrV_store]
    congr 2
    funext q
    by_cases hq : q = i.toNatClampNeg
    · subst hq
      simp [updV, upd, va_rf, hk]
    · simp [updV, upd, hq]) ⟨zz, oq⟩
  rcases List.mem_append.mp hq with h | h
  · exact hL q h
  · rw [List.mem_singleton.mp h]; show z ≤ b + 1; omega
end XAHS
