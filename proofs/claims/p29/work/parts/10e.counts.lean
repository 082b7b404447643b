/-! ===== PURE 4: what is counted ===== -/
theorem ct_cut {p : Nat → Bool} {m n : Nat} (hm : m ≤ n) (h : ∀ k, m ≤ k → p k = false) : fb_ct p n = fb_ct p m := by
  obtain ⟨d, rfl⟩ := Nat.exists_eq_add_of_le hm
  rw [fb_ct_split, fb_ct_zero.mpr (fun k _ => h (m + k) (by omega)), Nat.add_zero]
/-- how many sessions of hire i have the state s -/
def sC (w : Nat → Int32) (i s : Nat) : Nat := fb_ct (sB w i s) 20
theorem sC_le (w : Nat → Int32) (i s : Nat) : sC w i s ≤ 20 := fb_ct_le _ _
theorem sC_n {w : Nat → Int32} {i : Nat} (g : GH w i) (s : Nat) : sC w i s = fb_ct (fun k => decide (hN w i (12 + k) = s)) (hN w i 4) := by
  unfold sC
  rw [ct_cut g.2.2.2.2.2.2.2.1 (fun k hk => by unfold sB; simp [Nat.not_lt.mpr hk])]
  exact fb_ct_cong fun k hk => by unfold sB; simp [hk]
theorem sC_sum {w : Nat → Int32} {i : Nat} (g : GH w i) : sC w i 0 + fb_ct (fun k => sB w i 1 k || sB w i 2 k) 20 = hN w i 4 := by
  unfold sC
  rw [← fb_ct_or (fun k _ q => by
    obtain ⟨q1, q2⟩ := q
    unfold sB at q1 q2
    simp at q1 q2
    omega)]
  rw [ct_cut g.2.2.2.2.2.2.2.1 (fun k hk => by unfold sB; simp [Nat.not_lt.mpr hk])]
  refine fb_ct_all.mpr fun k hk => ?_
  obtain ⟨-, h2, -⟩ := g.2.2.2.2.2.2.2.2.2.2.2.2.2.2.2.2.2 k hk
  unfold sB
  rcases (show hN w i (12 + k) = 0 ∨ hN w i (12 + k) = 1 ∨ hN w i (12 + k) = 2 by omega) with e | e | e <;> simp [e, hk]
theorem m_manyOf {M : xV} {i s : Nat} {p2 : Int32} (hp : p2 = nI s) (hs : s < 3) (hi : i < 12) (g : GH (M 1) i) : f_X8_manyOf M (nI i) p2 = some (nI (sC (M 1) i s)) := by
  subst hp
  have h20 := g.2.2.2.2.2.2.2.1
  rw [sC_n g, ← sI_ct]
  unfold f_X8_manyOf
  refine xup0 (fun n k => L_X8_manyOf_5 _ M (nI i) (nI s) n (sI (fun k => if decide (hN (M 1) i (12 + k) = s) = true then 1 else 0) k) (nI k)) _ (hN (M 1) i 4) (fun n k hk => ?_) (fun n => ?_) (by omega)
  · rw [L_X8_manyOf_5, show (4 : Int32) = nI 4 from rfl, m_of (by omega), xbs, g.1 4 (by decide), if_neg (nI_ge hk (by omega)), show (12 : Int32) = nI 12 from rfl, nI_add, m_of (by omega), xbs]
    obtain ⟨e, h2, -⟩ := g.2.2.2.2.2.2.2.2.2.2.2.2.2.2.2.2.2 k hk
    rw [e, sI_succ]
    simp only [xls, nI_1]
    by_cases h : hN (M 1) i (12 + k) = s
    · rw [if_pos (by rw [h]), if_pos (by simp [h])]
    · rw [if_neg (fun q => h ((nI_eq (by omega) (by omega)).mp q)), if_neg (by simp [h])]
  · rw [L_X8_manyOf_5, show (4 : Int32) = nI 4 from rfl, m_of (by omega), xbs, g.1 4 (by decide), if_pos (nI_le (Nat.le_refl _) (by omega))]
section
variable {v : xV} {w : Nat → Int32}
theorem c_planned (r : RB v w) {i : Nat} (hi : i < cN w 10) : f_X1_plannedSessions v i = some (nI (sC w i 0)) := by
  obtain ⟨⟨-, -, -, -, e4, -, -, -⟩, -, b1, b2, -⟩ := r.h hi
  have g := r.g hi
  have e := sC_sum g
  unfold f_X1_plannedSessions
  rw [bm_cnt (bm_or b1 b2), xbs, e4, g.1 4 (by decide), pk_sub (by omega)]
  congr 2
  omega
theorem c_bcH (r : RB v w) {i : Nat} (hi : i < cN w 10) : f_J6_bitCount_0f7a4 (v (6 + 2 * i) 9) = some (nI (sC w i 1)) := bm_cnt (r.h hi).2.2.1
theorem c_bcC (r : RB v w) {i : Nat} (hi : i < cN w 10) : f_J6_bitCount_0f7a4 (v (6 + 2 * i) 10) = some (nI (sC w i 2)) := bm_cnt (r.h hi).2.2.2.1
theorem bc_0 : f_J6_bitCount_0f7a4 0 = some 0 := by decide +kernel
/-- the keys that stand under x -/
def kF (w : Nat → Int32) (x : Int32) : Int32 := sI (fun j => if w (40 + 2 * j) = x then 1 else 0) 6
theorem c_keysFor (r : RB v w) (x : Int32) : f_X0_keysFor v x = some (kF w x) := by
  unfold f_X0_keysFor kF
  refine xup0 (fun n k => L_X0_keysFor_14 _ v x n (sI (fun j => if w (40 + 2 * j) = x then 1 else 0) k) (nI k)) _ 6 (fun n k hk => ?_) (fun n => ?_) (by decide)
  · rw [L_X0_keysFor_14, if_neg (show ¬ (6 : Int32) ≤ nI k from nI_ge (b := 6) hk (by decide)), xgi hk (by decide)]
    simp only [xls, nI_1, nI_clamp (show k < 2 ^ 31 by omega), r.key hk, sI_succ]
    split <;> rfl
  · rw [L_X0_keysFor_14, if_pos (show (6 : Int32) ≤ nI 6 from by decide)]
theorem m_keysOf (M : xV) (x : Int32) : f_X8_keysOf M x = some (kF (M 1) x) := by
  unfold f_X8_keysOf kF
  refine xup0 (fun n k => L_X8_keysOf_4 _ M x n (sI (fun j => if M 1 (40 + 2 * j) = x then 1 else 0) k) (nI k)) _ 6 (fun n k hk => ?_) (fun n => ?_) (by decide)
  · rw [L_X8_keysOf_4, if_neg (show ¬ (6 : Int32) ≤ nI k from nI_ge (b := 6) hk (by decide)), show (2 : Int32) = nI 2 from rfl, show (40 : Int32) = nI 40 from rfl, pk_mul, nI_add, xgi (by omega) (by decide), nI_clamp (by omega)]
    simp only [xls, nI_1, sI_succ]
    split <;> rfl
  · rw [L_X8_keysOf_4, if_pos (show (6 : Int32) ≤ nI 6 from by decide)]
/-- a sum over the hires of hirer j -/
def cH (w : Nat → Int32) (j : Nat) (X : Nat → Int32) : Int32 := sI (fun i => if w (52 + 64 * i + 0) = nI j then X i else 0) (cN w 10)
theorem nI_m1 {j : Nat} (hj : j < 2 ^ 31) : ¬ (-1 : Int32) = nI j := fun e => by
  have h : (-1 : Int32).toInt = (nI j).toInt := by rw [e]
  rw [nI_toInt hj] at h
  have e2 : (-1 : Int32).toInt = -1 := by decide
  omega
theorem cH_12 (r : RB v w) {j : Nat} (hj : j < 10) {f : Nat → Int32} {X : Nat → Int32} (hf : ∀ i, i < 12 → f i = if v (6 + 2 * i) 1 = nI j then X i else 0) : sI f 12 = cH w j X := by
  unfold cH
  have h12 := r.m12
  rw [sI_cut' (m := cN w 10) h12 (fun i h1 h2 => by rw [hf i h2, (r.e h1 h2).1, if_neg (nI_m1 (by omega))])]
  exact sI_cong fun i hi => by rw [hf i (by omega), (r.h hi).1.1]
theorem c_hiresOf (r : RB v w) {j : Nat} (hj : j < 10) : f_X0_hiresOf v (nI j) = some (cH w j (fun _ => 1)) := by
  rw [← cH_12 r hj (fun i _ => rfl)]
  unfold f_X0_hiresOf
  refine xup0 (fun n k => L_X0_hiresOf_14 _ v (nI j) n (sI (fun i => if v (6 + 2 * i) 1 = nI j then 1 else 0) k) (nI k)) _ 12 (fun n k hk => ?_) (fun n => ?_) (by decide)
  · rw [L_X0_hiresOf_14, if_neg (show ¬ (12 : Int32) ≤ nI k from nI_ge (b := 12) hk (by decide)), xgi hk (by decide)]
    simp only [xls, nI_1, nI_clamp (show k < 2 ^ 31 by omega), sI_succ]
    split <;> rfl
  · rw [L_X0_hiresOf_14, if_pos (show (12 : Int32) ≤ nI 12 from by decide)]
theorem c_faultsOf (r : RB v w) {j : Nat} (hj : j < 10) : f_X0_faultsOf v (nI j) = some (cH w j (fun i => w (52 + 64 * i + 11))) := by
  have e : sI (fun i => if v (6 + 2 * i) 1 = nI j then v (6 + 2 * i) 12 else 0) 12 = cH w j (fun i => v (6 + 2 * i) 12) := cH_12 r hj (fun i _ => rfl)
  have e2 : cH w j (fun i => v (6 + 2 * i) 12) = cH w j (fun i => w (52 + 64 * i + 11)) := sI_cong fun i hi => by dsimp only; rw [(r.h hi).2.1.2.1]
  rw [← e2, ← e]
  unfold f_X0_faultsOf
  refine xup0 (fun n k => L_X0_faultsOf_14 _ v (nI j) n (sI (fun i => if v (6 + 2 * i) 1 = nI j then v (6 + 2 * i) 12 else 0) k) (nI k)) _ 12 (fun n k hk => ?_) (fun n => ?_) (by decide)
  · rw [L_X0_faultsOf_14, if_neg (show ¬ (12 : Int32) ≤ nI k from nI_ge (b := 12) hk (by decide)), xgi hk (by decide)]
    simp only [xls, nI_1, nI_clamp (show k < 2 ^ 31 by omega), sI_succ]
    split <;> rfl
  · rw [L_X0_faultsOf_14, if_pos (show (12 : Int32) ≤ nI 12 from by decide)]
theorem c_plannedOf (r : RB v w) {j : Nat} (hj : j < 10) : f_X0_plannedOf v (nI j) = some (cH w j (fun i => nI (sC w i 0))) := by
  have hi12 : ∀ i, i < 12 → v (6 + 2 * i) 1 = nI j → i < cN w 10 := fun i h1 h2 => by
    rcases Nat.lt_or_ge i (cN w 10) with q | q
    · exact q
    · exact absurd ((r.e q h1).1.symm.trans h2) (nI_m1 (by omega))
  rw [← cH_12 r hj (fun i _ => rfl)]
  unfold f_X0_plannedOf
  refine xup0 (fun n k => L_X0_plannedOf_14 _ v (nI j) n (sI (fun i => if v (6 + 2 * i) 1 = nI j then nI (sC w i 0) else 0) k) (nI k)) _ 12 (fun n k hk => ?_) (fun n => ?_) (by decide)
  · rw [L_X0_plannedOf_14, if_neg (show ¬ (12 : Int32) ≤ nI k from nI_ge (b := 12) hk (by decide)), xgi hk (by decide)]
    simp only [xls, nI_1, nI_clamp (show k < 2 ^ 31 by omega), sI_succ]
    by_cases h : v (6 + 2 * k) 1 = nI j
    · rw [if_pos h, if_pos h, c_planned r (hi12 k hk h), xbs]
    · rw [if_neg h, if_neg h]
  · rw [L_X0_plannedOf_14, if_pos (show (12 : Int32) ≤ nI 12 from by decide)]
theorem c_keysOf (r : RB v w) {j : Nat} (hj : j < 10) : f_X0_keysOf v (nI j) = some (cH w j (fun i => kF w (nI i))) := by
  rw [← cH_12 r hj (fun i _ => rfl)]
  unfold f_X0_keysOf
  refine xup0 (fun n k => L_X0_keysOf_14 _ v (nI j) n (sI (fun i => if v (6 + 2 * i) 1 = nI j then kF w (nI i) else 0) k) (nI k)) _ 12 (fun n k hk => ?_) (fun n => ?_) (by decide)
  · rw [L_X0_keysOf_14, if_neg (show ¬ (12 : Int32) ≤ nI k from nI_ge (b := 12) hk (by decide)), xgi hk (by decide)]
    simp only [xls, nI_1, nI_clamp (show k < 2 ^ 31 by omega), sI_succ]
    by_cases h : v (6 + 2 * k) 1 = nI j
    · rw [if_pos h, if_pos h, c_keysFor r, xbs, r.num hk]
    · rw [if_neg h, if_neg h]
  · rw [L_X0_keysOf_14, if_pos (show (12 : Int32) ≤ nI 12 from by decide)]
/-- how late a key is -/
def kL (w : Nat → Int32) (j : Nat) : Int32 := if w (40 + 2 * j) = -1 then 0 else if w 0 ≤ w (40 + 2 * j + 1) then 0 else w 0 - w (40 + 2 * j + 1)
def kLs (w : Nat → Int32) : Int32 := sI (fun j => if kL w j ≤ 0 then 0 else 1) 6
theorem c_lateKeys (r : RB v w) : f_X0_lateKeys v = some (kLs w) := by
  unfold f_X0_lateKeys kLs
  refine xup0 (fun n k => L_X0_lateKeys_13 _ v n (sI (fun j => if kL w j ≤ 0 then 0 else 1) k) (nI k)) _ 6 (fun n k hk => ?_) (fun n => ?_) (by decide)
  · rw [L_X0_lateKeys_13, if_neg (show ¬ (6 : Int32) ≤ nI k from nI_ge (b := 6) hk (by decide)), xgi hk (by decide)]
    simp only [xls, nI_1, nI_clamp (show k < 2 ^ 31 by omega), sI_succ, show f_X3_daysLate v k (v 0 0) = some (kL w k) from daysL r hk, xbs]
    split <;> rfl
  · rw [L_X0_lateKeys_13, if_pos (show (6 : Int32) ≤ nI 6 from by decide)]
theorem m_countKeys0 (M : xV) : f_X8_countKeys M 0 = some (kF (M 1) (-1)) := by
  unfold f_X8_countKeys kF
  refine xup0 (fun n k => L_X8_countKeys_4 _ M 0 n (sI (fun j => if M 1 (40 + 2 * j) = -1 then 1 else 0) k) (nI k)) _ 6 (fun n k hk => ?_) (fun n => ?_) (by decide)
  · rw [L_X8_countKeys_4, if_neg (show ¬ (6 : Int32) ≤ nI k from nI_ge (b := 6) hk (by decide)), if_pos rfl, show (2 : Int32) = nI 2 from rfl, show (40 : Int32) = nI 40 from rfl, pk_mul, nI_add, xgi (by omega) (by decide), nI_clamp (by omega)]
    simp only [xls, nI_1, sI_succ]
    split <;> rfl
  · rw [L_X8_countKeys_4, if_pos (show (6 : Int32) ≤ nI 6 from by decide)]
theorem m_countKeys1 (M : xV) : f_X8_countKeys M 1 = some (kLs (M 1)) := by
  unfold f_X8_countKeys kLs
  refine xup0 (fun n k => L_X8_countKeys_4 _ M 1 n (sI (fun j => if kL (M 1) j ≤ 0 then 0 else 1) k) (nI k)) _ 6 (fun n k hk => ?_) (fun n => ?_) (by decide)
  · rw [L_X8_countKeys_4, if_neg (show ¬ (6 : Int32) ≤ nI k from nI_ge (b := 6) hk (by decide)), if_neg (by decide), show f_X8_lateBy M (nI k) = some (kL (M 1) k) from m_lateBy hk]
    simp only [xls, nI_1, sI_succ, xbs]
    split <;> rfl
  · rw [L_X8_countKeys_4, if_pos (show (6 : Int32) ≤ nI 6 from by decide)]
/-- sessions that aren't cancelled; room hours held -/
def sN (w : Nat → Int32) : Int32 := sI (fun i => w (52 + 64 * i + 4) - nI (sC w i 2)) (cN w 10)
theorem c_notCancelled (r : RB v w) : f_X0_sessionsNotCancelled v = some (sN w) := by
  have h12 := r.m12
  have e : ∀ f : Nat → Int32, (∀ i, i < cN w 10 → f i = w (52 + 64 * i + 4) - nI (sC w i 2)) → (∀ i, cN w 10 ≤ i → i < 12 → f i = 0) → sI f 12 = sN w := fun f h1 h2 => by
    unfold sN
    rw [sI_cut' (m := cN w 10) h12 h2]
    exact sI_cong h1
  rw [← e (fun i => if i < cN w 10 then w (52 + 64 * i + 4) - nI (sC w i 2) else 0) (fun i hi => if_pos hi) (fun i h1 _ => if_neg (by omega))]
  unfold f_X0_sessionsNotCancelled
  refine xup0 (fun n k => L_X0_sessionsNotCancelled_13 _ v n (sI (fun i => if i < cN w 10 then w (52 + 64 * i + 4) - nI (sC w i 2) else 0) k) (nI k)) _ 12 (fun n k hk => ?_) (fun n => ?_) (by decide)
  · rw [L_X0_sessionsNotCancelled_13, if_neg (show ¬ (12 : Int32) ≤ nI k from nI_ge (b := 12) hk (by decide)), xgi hk (by decide)]
    simp only [xls, nI_1, nI_clamp (show k < 2 ^ 31 by omega), sI_succ]
    by_cases h : k < cN w 10
    · rw [if_pos h, c_bcC r h, xbs, (r.h h).1.2.2.2.2.1]
    · obtain ⟨-, q⟩ := r.e (by omega) hk
      rw [if_neg h, q 10 (by decide) (by decide), q 5 (by decide) (by decide), bc_0, xbs]
      rfl
  · rw [L_X0_sessionsNotCancelled_13, if_pos (show (12 : Int32) ≤ nI 12 from by decide)]
def rI (x : Int32) : Int32 := ((x &&& 1) + ((x >>> ((1 : Int32) &&& 31)) &&& 1)) + ((x >>> ((2 : Int32) &&& 31)) &&& 1)
theorem rI_n : ∀ r, r < 8 → f_J6_bitCount_0f7a4 (nI r) = some (rI (nI r)) := by decide +kernel
theorem c_bcR (r : RB v w) {i : Nat} (hi : i < cN w 10) : f_J6_bitCount_0f7a4 (v (6 + 2 * i) 2) = some (rI (w (52 + 64 * i + 1))) := by
  have g := r.g hi
  rw [(r.h hi).1.2.1, g.1 1 (by decide)]
  exact rI_n _ (by have := g.2.2.2.1; omega)
def sR (w : Nat → Int32) : Int32 := sI (fun i => nI (sC w i 1) * (rI (w (52 + 64 * i + 1)) * (w (52 + 64 * i + 3) - w (52 + 64 * i + 2)))) (cN w 10)
theorem c_roomHours (r : RB v w) : f_X0_roomHoursHeld v = some (sR w) := by
  have h12 := r.m12
  have e : ∀ f : Nat → Int32, (∀ i, i < cN w 10 → f i = nI (sC w i 1) * (rI (w (52 + 64 * i + 1)) * (w (52 + 64 * i + 3) - w (52 + 64 * i + 2)))) → (∀ i, cN w 10 ≤ i → i < 12 → f i = 0) → sI f 12 = sR w := fun f h1 h2 => by
    unfold sR
    rw [sI_cut' (m := cN w 10) h12 h2]
    exact sI_cong h1
  rw [← e (fun i => if i < cN w 10 then nI (sC w i 1) * (rI (w (52 + 64 * i + 1)) * (w (52 + 64 * i + 3) - w (52 + 64 * i + 2))) else 0) (fun i hi => if_pos hi) (fun i h1 _ => if_neg (by omega))]
  unfold f_X0_roomHoursHeld
  refine xup0 (fun n k => L_X0_roomHoursHeld_13 _ v n (sI (fun i => if i < cN w 10 then nI (sC w i 1) * (rI (w (52 + 64 * i + 1)) * (w (52 + 64 * i + 3) - w (52 + 64 * i + 2))) else 0) k) (nI k)) _ 12 (fun n k hk => ?_) (fun n => ?_) (by decide)
  · rw [L_X0_roomHoursHeld_13, if_neg (show ¬ (12 : Int32) ≤ nI k from nI_ge (b := 12) hk (by decide)), xgi hk (by decide)]
    simp only [xls, nI_1, nI_clamp (show k < 2 ^ 31 by omega), sI_succ]
    unfold f_X1_roomHoursHeld
    by_cases h : k < cN w 10
    · rw [if_pos h, c_bcH r h, xbs, c_bcR r h, xbs, (r.h h).1.2.2.1, (r.h h).1.2.2.2.1, xbs, Int32.mul_assoc]
    · obtain ⟨-, q⟩ := r.e (by omega) hk
      rw [if_neg h, q 9 (by decide) (by decide), q 2 (by decide) (by decide), q 3 (by decide) (by decide), q 4 (by decide) (by decide), bc_0, xbs, xbs, xbs]
      rfl
  · rw [L_X0_roomHoursHeld_13, if_pos (show (12 : Int32) ≤ nI 12 from by decide)]
end
section
variable {v M : xV}
theorem m_roomsIn (x : Int32) : f_X8_roomsIn x = some (rI x) := rfl
theorem m_countSessions0 (r : RB v (M 1)) : f_X8_countSessions M 0 = some (sN (M 1)) := by
  have h12 := r.m12
  unfold f_X8_countSessions sN
  refine xup0 (fun n k => L_X8_countSessions_4 _ M 0 n (sI (fun i => M 1 (52 + 64 * i + 4) - nI (sC (M 1) i 2)) k) (nI k)) _ (cN (M 1) 10) (fun n k hk => ?_) (fun n => ?_) (by omega)
  · have g := r.g hk
    rw [L_X8_countSessions_4, r.wm, if_neg (nI_ge hk (by omega)), show (1 : Int32) = nI 1 from rfl, m_of (by omega), xbs, m_roomsIn, xbs, show (3 : Int32) = nI 3 from rfl, m_of (by omega), xbs, show (2 : Int32) = nI 2 from rfl, m_of (by omega), xbs, xls, if_pos rfl, show (4 : Int32) = nI 4 from rfl, m_of (by omega), xbs, m_manyOf (s := 2) rfl (by decide) (by omega) g, xbs, xls, xls, nI_add, sI_succ]
  · rw [L_X8_countSessions_4, r.wm, if_pos (nI_le (Nat.le_refl _) (by omega))]
theorem m_countSessions1 (r : RB v (M 1)) : f_X8_countSessions M 1 = some (sR (M 1)) := by
  have h12 := r.m12
  unfold f_X8_countSessions sR
  refine xup0 (fun n k => L_X8_countSessions_4 _ M 1 n (sI (fun i => nI (sC (M 1) i 1) * (rI (M 1 (52 + 64 * i + 1)) * (M 1 (52 + 64 * i + 3) - M 1 (52 + 64 * i + 2)))) k) (nI k)) _ (cN (M 1) 10) (fun n k hk => ?_) (fun n => ?_) (by omega)
  · have g := r.g hk
    rw [L_X8_countSessions_4, r.wm, if_neg (nI_ge hk (by omega)), show (1 : Int32) = nI 1 from rfl, m_of (by omega), xbs, m_roomsIn, xbs, show (3 : Int32) = nI 3 from rfl, m_of (by omega), xbs, show (2 : Int32) = nI 2 from rfl, m_of (by omega), xbs, xls, if_neg (by decide), m_manyOf (s := 1) rfl (by decide) (by omega) g, xbs, xls, xls, nI_add, sI_succ]
  · rw [L_X8_countSessions_4, r.wm, if_pos (nI_le (Nat.le_refl _) (by omega))]
theorem m_countHires (r : RB v (M 1)) {j : Nat} (p2 : Int32) : f_X8_countHires M (nI j) p2 = some (cH (M 1) j (fun i => if p2 = 3 then 1 else if p2 = 4 then nI (sC (M 1) i 0) else if p2 = 5 then kF (M 1) (nI i) else M 1 (52 + 64 * i + 11))) := by
  have h12 := r.m12
  unfold f_X8_countHires cH
  refine xup0 (fun n k => L_X8_countHires_5 _ M (nI j) p2 n (sI (fun i => if M 1 (52 + 64 * i + 0) = nI j then (if p2 = 3 then 1 else if p2 = 4 then nI (sC (M 1) i 0) else if p2 = 5 then kF (M 1) (nI i) else M 1 (52 + 64 * i + 11)) else 0) k) (nI k)) _ (cN (M 1) 10) (fun n k hk => ?_) (fun n => ?_) (by omega)
  · have g := r.g hk
    have o0 : f_X8_of M (nI k) 0 = some (M 1 (52 + 64 * k + 0)) := m_of (k := 0) (by omega)
    have o11 : f_X8_of M (nI k) 11 = some (M 1 (52 + 64 * k + 11)) := m_of (k := 11) (by omega)
    rw [L_X8_countHires_5, r.wm, if_neg (nI_ge hk (by omega)), o0, xbs, sI_succ]
    by_cases h : M 1 (52 + 64 * k + 0) = nI j
    · rw [if_pos h, if_pos h]
      by_cases h3 : p2 = 3
      · rw [if_pos h3, if_pos h3, xls, xls, nI_1]
      · rw [if_neg h3, if_neg h3]
        by_cases h4 : p2 = 4
        · rw [if_pos h4, if_pos h4, m_manyOf (s := 0) (p2 := 0) rfl (by decide) (by omega) g, xbs, xls, xls, nI_1]
        · rw [if_neg h4, if_neg h4]
          by_cases h5 : p2 = 5
          · rw [if_pos h5, if_pos h5, m_keysOf, xbs, xls, xls, nI_1]
          · rw [if_neg h5, if_neg h5, o11, xbs, xls, xls, nI_1]
    · rw [if_neg h, if_neg h, xls, xls, nI_1]
  · rw [L_X8_countHires_5, r.wm, if_pos (nI_le (Nat.le_refl _) (by omega))]
end
