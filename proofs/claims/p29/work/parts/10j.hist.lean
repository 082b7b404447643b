/-! ===== PURE 9: copies, the history ===== -/
/-- the cells of C come from ov -/
def cp (C : Nat → Nat → Bool) (v ov : xV) : xV := fun a b => if C a b = true then ov a b else v a b
theorem cp_t {C : Nat → Nat → Bool} {v ov : xV} {a b : Nat} (h : C a b = true) : cp C v ov a b = ov a b := if_pos h
theorem cp_f {C : Nat → Nat → Bool} {v ov : xV} {a b : Nat} (h : C a b = false) : cp C v ov a b = v a b := if_neg (by rw [h]; decide)
theorem cp_e {C D : Nat → Nat → Bool} (v ov : xV) (h : ∀ a b, C a b = D a b) : cp C v ov = cp D v ov := by
  have : C = D := funext fun a => funext fun b => h a b
  rw [this]
theorem cp_0 (v ov : xV) : cp (fun _ _ => false) v ov = v := rfl
theorem cp_u (C : Nat → Nat → Bool) (v ov : xV) (k j : Nat) : upd2 (cp C v ov) k j (ov k j) = cp (fun a b => C a b || (decide (a = k) && decide (b = j))) v ov := by
  funext a b
  rw [u2e]
  unfold cp
  by_cases h : a = k ∧ b = j
  · obtain ⟨rfl, rfl⟩ := h
    rw [if_pos ⟨rfl, rfl⟩, if_pos (by simp)]
  · rw [if_neg h]
    have : (decide (a = k) && decide (b = j)) = false := by
      rw [Bool.and_eq_false_iff, decide_eq_false_iff_not, decide_eq_false_iff_not]
      omega
    simp only [this, Bool.or_false]
theorem cp_x (C : Nat → Nat → Bool) (v ov : xV) (k N : Nat) : xrow (cp C v ov) k (fun j9 => if j9 < N then ov k j9 else cp C v ov k j9) = cp (fun a b => C a b || (decide (a = k) && decide (b < N))) v ov := by
  funext a b
  by_cases h : a = k
  · subst h
    rw [xrow_self]
    by_cases h2 : b < N
    · rw [if_pos h2, cp_t (by simp [h2])]
    · rw [if_neg h2]
      unfold cp
      simp [h2]
  · rw [xrow_ne _ _ h]
    unfold cp
    have : (decide (a = k) && decide (b < N)) = false := by simp [h]
    simp only [this, Bool.or_false]
def hcell (i a b : Nat) : Bool := (decide (a = 6 + 2 * i) && (decide (1 ≤ b) && decide (b < 14))) || (decide (a = 7 + 2 * i) && decide (b < 32))
def hrow (n a b : Nat) : Bool := decide (6 ≤ a) && (decide (a < 6 + 2 * n) && ((decide (a % 2 = 0) && (decide (1 ≤ b) && decide (b < 14))) || (decide (a % 2 = 1) && decide (b < 32))))
def krow (n a b : Nat) : Bool := decide (31 ≤ a) && (decide (a < 31 + n) && (decide (b = 1) || decide (b = 2)))
def c0 (a b : Nat) : Bool := (decide (a = 0) && decide (b < 3)) || ((decide (a = 1) && decide (b < 8)) || ((decide (a = 2) && decide (b < 9)) || ((decide (a = 3) && decide (b < 10)) || (decide (a = 4) && decide (b < 10)))))
def cAll (a b : Nat) : Bool := (c0 a b || hrow 12 a b) || krow 6 a b
theorem cp_hire (C : Nat → Nat → Bool) (v ov : xV) (i : Nat) (hb : ov (6 + 2 * i) 13 = 0 ∨ ov (6 + 2 * i) 13 = 1) : f_X1_copyFrom (cp C v ov) ov i i = some (cp (fun a b => C a b || hcell i a b) v ov) := by
  unfold f_X1_copyFrom
  simp only [xls, cp_u, xgp hb, cp_x]
  congr 1
  refine cp_e _ _ fun a b => ?_
  unfold hcell
  rw [Bool.eq_iff_iff]
  simp only [Bool.or_eq_true, Bool.and_eq_true, decide_eq_true_iff]
  cases C a b
  · simp only [Bool.false_eq_true, false_or]
    omega
  · simp
theorem cp_key (C : Nat → Nat → Bool) (v ov : xV) (i : Nat) : f_X3_copyFrom (cp C v ov) ov i i = some (cp (fun a b => C a b || (decide (a = 31 + i) && (decide (b = 1) || decide (b = 2)))) v ov) := by
  unfold f_X3_copyFrom
  simp only [xls, cp_u]
  congr 1
  refine cp_e _ _ fun a b => ?_
  rw [Bool.eq_iff_iff]
  simp only [Bool.or_eq_true, Bool.and_eq_true, decide_eq_true_iff]
  cases C a b
  · simp only [Bool.false_eq_true, false_or]
    omega
  · simp
theorem c_copy (v ov : xV) (hb : ∀ i, i < 12 → ov (6 + 2 * i) 13 = 0 ∨ ov (6 + 2 * i) 13 = 1) : f_X0_copyFrom v ov = some (cp cAll v ov) := by
  unfold f_X0_copyFrom
  have e0 : upd2 v 0 0 (ov 0 0) = cp (fun a b => decide (a = 0) && decide (b = 0)) v ov := cp_u (fun _ _ => false) v ov 0 0
  simp only [xls, e0, cp_u, cp_x]
  have eb : cp (fun a b => ((((((decide (a = 0) && decide (b = 0)) || (decide (a = 0) && decide (b = 1))) || (decide (a = 0) && decide (b = 2))) || (decide (a = 1) && decide (b < 8))) || (decide (a = 2) && decide (b < 9))) || (decide (a = 3) && decide (b < 10))) || (decide (a = 4) && decide (b < 10))) v ov = cp (fun a b => c0 a b || hrow 0 a b) v ov := cp_e _ _ fun a b => by
    unfold c0 hrow
    rw [Bool.eq_iff_iff]
    simp only [Bool.or_eq_true, Bool.and_eq_true, decide_eq_true_iff]
    omega
  rw [eb]
  refine xup0 (fun n k => L_X0_copyFrom_98 _ ov n (nI k) (cp (fun a b => c0 a b || hrow k a b) v ov)) _ 12 (fun n k hk => ?_) (fun n => ?_) (n := 100000) (by decide)
  · rw [L_X0_copyFrom_98, if_neg (show ¬ (12 : Int32) ≤ nI k from nI_ge (b := 12) hk (by decide)), xgi hk (by decide)]
    simp only [xls, xgi hk (show 12 < 2 ^ 31 by decide), nI_1, nI_clamp (show k < 2 ^ 31 by omega), cp_hire _ _ _ _ (hb k hk), xbs]
    congr 1
    refine cp_e _ _ fun a b => ?_
    unfold hrow hcell
    rw [Bool.eq_iff_iff]
    simp only [Bool.or_eq_true, Bool.and_eq_true, decide_eq_true_iff]
    cases c0 a b
    · simp only [Bool.false_eq_true, false_or]
      omega
    · simp
  · rw [L_X0_copyFrom_98, if_pos (show (12 : Int32) ≤ nI 12 from by decide)]
    have ek : cp (fun a b => c0 a b || hrow 12 a b) v ov = cp (fun a b => (c0 a b || hrow 12 a b) || krow 0 a b) v ov := cp_e _ _ fun a b => by
      unfold krow
      rw [Bool.eq_iff_iff]
      simp only [Bool.or_eq_true, Bool.and_eq_true, decide_eq_true_iff]
      cases c0 a b <;> cases hrow 12 a b <;> simp <;> omega
    rw [ek]
    refine xup0 (fun n k => L_X0_copyFrom_130 _ ov n (nI k) (cp (fun a b => (c0 a b || hrow 12 a b) || krow k a b) v ov)) _ 6 (fun n k hk => ?_) (fun n => ?_) (n := 100000) (by decide)
    · rw [L_X0_copyFrom_130, if_neg (show ¬ (6 : Int32) ≤ nI k from nI_ge (b := 6) hk (by decide)), xgi hk (by decide)]
      simp only [xls, xgi hk (show 6 < 2 ^ 31 by decide), nI_1, nI_clamp (show k < 2 ^ 31 by omega), cp_key, xbs]
      congr 1
      refine cp_e _ _ fun a b => ?_
      unfold krow
      rw [Bool.eq_iff_iff]
      simp only [Bool.or_eq_true, Bool.and_eq_true, decide_eq_true_iff]
      cases c0 a b <;> cases hrow 12 a b <;> simp <;> omega
    · rw [L_X0_copyFrom_130, if_pos (show (6 : Int32) ≤ nI 6 from by decide)]
      rfl
theorem cA_h {i b : Nat} (hi : i < 12) (h1 : 1 ≤ b) (h2 : b < 14) : cAll (6 + 2 * i) b = true := by
  unfold cAll hrow
  simp only [Bool.or_eq_true, Bool.and_eq_true, decide_eq_true_iff]
  omega
theorem cA_f {i b : Nat} (hi : i < 12) (h2 : b < 32) : cAll (7 + 2 * i) b = true := by
  unfold cAll hrow
  simp only [Bool.or_eq_true, Bool.and_eq_true, decide_eq_true_iff]
  omega
theorem cA_k {i b : Nat} (hi : i < 6) (h2 : b = 1 ∨ b = 2) : cAll (31 + i) b = true := by
  unfold cAll krow
  simp only [Bool.or_eq_true, Bool.and_eq_true, decide_eq_true_iff]
  omega
theorem cA_0 {a b : Nat} (h : c0 a b = true) : cAll a b = true := by
  unfold cAll
  rw [h]
  rfl
theorem cA_nh {i : Nat} (hi : i < 12) : cAll (6 + 2 * i) 0 = false := by
  unfold cAll c0 hrow krow
  rw [Bool.eq_false_iff]
  simp only [ne_eq, Bool.or_eq_true, Bool.and_eq_true, decide_eq_true_iff]
  omega
theorem cA_nk {i : Nat} (hi : i < 6) : cAll (31 + i) 0 = false := by
  unfold cAll c0 hrow krow
  rw [Bool.eq_false_iff]
  simp only [ne_eq, Bool.or_eq_true, Bool.and_eq_true, decide_eq_true_iff]
  omega
theorem cp_RB {v ov : xV} {w : Nat → Int32} (s : Shape v) (r : RB ov w) : RB (cp cAll v ov) w := by
  obtain ⟨g, -, ⟨r1, r2, r3⟩, r4, r5, r6, r7, r8, r9⟩ := r
  have g8 : ∀ i, i < cN w 10 → hN w i 11 ≤ 8 := fun i hi => (g.2.2.2.2.2.2.2.1 i hi).2.2.2.2.2.2.2.2.2.2.2.2.2.2.2.2.1
  have h12 := g.2.2.1.2
  refine ⟨g, ⟨fun i hi => ?_, fun j hj => ?_⟩, ⟨?_, ?_, ?_⟩, fun j hj => ?_, fun j hj => ?_, fun j hj => ⟨?_, ?_⟩, fun j hj => ⟨?_, fun h => ?_⟩, fun i hi => ?_, fun i h1 h2 => ⟨?_, fun k h3 h4 => ?_⟩⟩
  · rw [cp_f (cA_nh hi)]
    exact s.1 i hi
  · rw [cp_f (cA_nk hj)]
    exact s.2 j hj
  · rw [cp_t (cA_0 rfl)]; exact r1
  · rw [cp_t (cA_0 rfl)]; exact r2
  · rw [cp_t (cA_0 rfl)]; exact r3
  · rw [cp_t (cA_0 (by unfold c0; simp [hj]))]; exact r4 j hj
  · rw [cp_t (cA_0 (by unfold c0; simp [hj]))]; exact r5 j hj
  · rw [cp_t (cA_0 (by unfold c0; simp [hj]))]; exact (r6 j hj).1
  · rw [cp_t (cA_0 (by unfold c0; simp [hj]))]; exact (r6 j hj).2
  · rw [cp_t (cA_k hj (Or.inl rfl))]; exact (r7 j hj).1
  · rw [cp_t (cA_k hj (Or.inr rfl))]; exact (r7 j hj).2 h
  · obtain ⟨⟨a1, a2, a3, a4, a5, a6, a7, a8⟩, ⟨a9, a10, a11⟩, a12, a13, a14⟩ := r8 i hi
    have g8i := g8 i hi
    have e : ∀ b, 1 ≤ b → b < 14 → cp cAll v ov (6 + 2 * i) b = ov (6 + 2 * i) b := fun b h1 h2 => cp_t (cA_h (by omega) h1 h2)
    unfold RH
    rw [e 1 (by decide) (by decide), e 2 (by decide) (by decide), e 3 (by decide) (by decide), e 4 (by decide) (by decide), e 5 (by decide) (by decide), e 6 (by decide) (by decide), e 7 (by decide) (by decide), e 8 (by decide) (by decide), e 9 (by decide) (by decide), e 10 (by decide) (by decide), e 11 (by decide) (by decide), e 12 (by decide) (by decide), e 13 (by decide) (by decide)]
    exact ⟨⟨a1, a2, a3, a4, a5, a6, a7, a8⟩, ⟨a9, a10, a11⟩, a12, a13, fun c hc => by rw [cp_t (cA_f (by omega) (by omega))]; exact a14 c hc⟩
  · rw [cp_t (cA_h h2 (by decide) (by decide))]; exact (r9 i h1 h2).1
  · rw [cp_t (cA_h h2 (by omega) h4)]; exact (r9 i h1 h2).2 k h3 h4
theorem c_copyRB {v ov : xV} {w : Nat → Int32} (s : Shape v) (r : RB ov w) : ∃ v', f_X0_copyFrom v ov = some v' ∧ RB v' w := by
  refine ⟨_, c_copy v ov (fun i hi => ?_), cp_RB s r⟩
  by_cases h : i < cN w 10
  · rw [(r.h h).2.1.2.2]
    exact (r.g h).2.2.2.2.2.2.2.2.2.2.2.2.2.2.1
  · exact Or.inl ((r.e (by omega) hi).2 13 (by decide) (by decide))
/-! the history -/
def HR (hv : xV) (kv : Nat → xV) (M : xV) : Prop := ∃ (n : Nat) (q : Nat → Nat), n ≤ 4 ∧ hv 0 1 = nI n ∧ M 0 3 = nI n ∧ (∀ i, i < 4 → q i < 4 ∧ hv 1 i = nI (q i)) ∧ (∀ i j, i < 4 → j < 4 → q i = q j → i = j) ∧ (∀ i, i < n → RB (kv (q i)) (fun c => M 2 (820 * i + c))) ∧ ∀ j, j < 4 → Shape (kv j)
theorem HR.cong {hv : xV} {kv : Nat → xV} {M M' : xV} (h : HR hv kv M) (h3 : M' 0 3 = M 0 3) (h2 : M' 2 = M 2) : HR hv kv M' := by
  obtain ⟨n, q, a1, a2, a3, a4, a5, a6, a7⟩ := h
  exact ⟨n, q, a1, a2, by rw [h3]; exact a3, a4, a5, by rw [h2]; exact a6, a7⟩
theorem HR.cnt {hv : xV} {kv : Nat → xV} {M : xV} (h : HR hv kv M) : hv 0 1 = M 0 3 := by
  obtain ⟨n, q, a1, a2, a3, -⟩ := h
  rw [a2, a3]
def svM (M : xV) (n k : Nat) : xV := fun r c => if r = 2 ∧ 820 * n ≤ c ∧ c < 820 * n + k then M 1 (c - 820 * n) else M r c
theorem svM_r (M : xV) (n k : Nat) {r : Nat} (h : r ≠ 2) : svM M n k r = M r := by
  funext c
  exact if_neg (fun z => h z.1)
theorem svM_s (M : xV) (n k : Nat) : upd2 (svM M n k) 2 (820 * n + k) (M 1 k) = svM M n (k + 1) := by
  funext r c
  rw [u2e]
  unfold svM
  by_cases h : r = 2 ∧ c = 820 * n + k
  · obtain ⟨rfl, rfl⟩ := h
    rw [if_pos ⟨rfl, rfl⟩, if_pos ⟨rfl, by omega, by omega⟩]
    congr 1
    omega
  · rw [if_neg h]
    by_cases h2 : r = 2 ∧ 820 * n ≤ c ∧ c < 820 * n + k
    · rw [if_pos h2, if_pos ⟨h2.1, h2.2.1, by omega⟩]
    · rw [if_neg h2, if_neg (by omega)]
def shM (M : xV) (k : Nat) : xV := fun r c => if r = 2 ∧ c < k then M 2 (c + 820) else M r c
theorem shM_r (M : xV) (k : Nat) {r : Nat} (h : r ≠ 2) : shM M k r = M r := by
  funext c
  exact if_neg (fun z => h z.1)
theorem shM_s (M : xV) (k : Nat) : upd2 (shM M k) 2 k (shM M k 2 (k + 820)) = shM M (k + 1) := by
  funext r c
  rw [u2e]
  unfold shM
  by_cases h : r = 2 ∧ c = k
  · obtain ⟨rfl, rfl⟩ := h
    rw [if_pos ⟨rfl, rfl⟩, if_neg (by omega), if_pos ⟨rfl, by omega⟩]
  · rw [if_neg h]
    by_cases h2 : r = 2 ∧ c < k
    · rw [if_pos h2, if_pos ⟨h2.1, by omega⟩]
    · rw [if_neg h2, if_neg (by omega)]
theorem m_save51 (K : Int32 → xV → Option xV) (M : xV) {n : Nat} (hn : n < 4) (e : M 0 3 = nI n) : L_X8_save_51 K 100000 0 M = K (nI 820) (svM M n 820) := by
  have z : svM M n 0 = M := by
    funext r c
    exact if_neg (by omega)
  have q := xup0 (fun j k => L_X8_save_51 K j (nI k) (svM M n k)) (K (nI 820) (svM M n 820)) 820 (fun j k hk => by
    rw [L_X8_save_51, if_neg (show ¬ (820 : Int32) ≤ nI k from nI_ge (b := 820) hk (by decide)), xgi hk (by decide), svM_r M n k (r := 0) (by decide), svM_r M n k (r := 1) (by decide), e, show (820 : Int32) * nI n + nI k = nI (820 * n + k) by rw [show (820 : Int32) = nI 820 from rfl, pk_mul, nI_add], xgi (by omega) (by decide), nI_clamp (by omega), nI_clamp (by omega), svM_s, xls, xls, nI_1]) (fun j => by
    rw [L_X8_save_51, if_pos (show (820 : Int32) ≤ nI 820 from by decide)]) (n := 100000) (by decide)
  rw [z] at q
  exact q
theorem m_save51a (K : Int32 → xV → Option xV) (M : xV) {n : Nat} (hn : n < 4) (e : M 0 3 = nI n) : L_X8_save_51a K 100000 0 M = K (nI 820) (svM M n 820) := by
  have z : svM M n 0 = M := by
    funext r c
    exact if_neg (by omega)
  have q := xup0 (fun j k => L_X8_save_51a K j (nI k) (svM M n k)) (K (nI 820) (svM M n 820)) 820 (fun j k hk => by
    rw [L_X8_save_51a, if_neg (show ¬ (820 : Int32) ≤ nI k from nI_ge (b := 820) hk (by decide)), xgi hk (by decide), svM_r M n k (r := 0) (by decide), svM_r M n k (r := 1) (by decide), e, show (820 : Int32) * nI n + nI k = nI (820 * n + k) by rw [show (820 : Int32) = nI 820 from rfl, pk_mul, nI_add], xgi (by omega) (by decide), nI_clamp (by omega), nI_clamp (by omega), svM_s, xls, xls, nI_1]) (fun j => by
    rw [L_X8_save_51a, if_pos (show (820 : Int32) ≤ nI 820 from by decide)]) (n := 100000) (by decide)
  rw [z] at q
  exact q
theorem m_save10 (K : Int32 → xV → Option xV) (M : xV) : L_X8_save_10 K 100000 0 M = K (nI 2460) (shM M 2460) := by
  have z : shM M 0 = M := by
    funext r c
    exact if_neg (by omega)
  have q := xup0 (fun j k => L_X8_save_10 K j (nI k) (shM M k)) (K (nI 2460) (shM M 2460)) 2460 (fun j k hk => by
    rw [L_X8_save_10, if_neg (show ¬ (2460 : Int32) ≤ nI k from nI_ge (b := 2460) hk (by decide)), show nI k + (820 : Int32) = nI (k + 820) from nI_add k 820, xgi (by omega) (by decide), xgi (by omega) (by decide), nI_clamp (by omega), nI_clamp (by omega), shM_s, xls, xls, nI_1]) (fun j => by
    rw [L_X8_save_10, if_pos (show (2460 : Int32) ≤ nI 2460 from by decide)]) (n := 100000) (by decide)
  rw [z] at q
  exact q
theorem drop_step (K : Int32 → xV → Option xV) (n : Nat) {k : Nat} (hk : k < 3) (hv : xV) {q : Nat} (h1 : hv 1 (k + 1) = nI q) (hq : q < 4) : L_X2_dropOldest_9 K (n + 1) (nI (k + 1)) hv = L_X2_dropOldest_9 K n (nI (k + 1 + 1)) (upd2 hv 1 k (nI q)) := by
  rw [L_X2_dropOldest_9, if_neg (show ¬ (4 : Int32) ≤ nI (k + 1) from nI_ge (b := 4) (by omega) (by decide)), xgi (by omega) (by decide), nI_pred]
  simp only [xls, nI_clamp (show k + 1 < 2 ^ 31 by omega), h1, nI_clamp (show q < 2 ^ 31 by omega), xgp hq, xgi (show k < 4 by omega) (show 4 < 2 ^ 31 by decide), nI_clamp (show k < 2 ^ 31 by omega), nI_1]
theorem drop_end (K : Int32 → xV → Option xV) (n : Nat) (hv : xV) : L_X2_dropOldest_9 K (n + 1) (nI 4) hv = K (nI 4) hv := by
  rw [L_X2_dropOldest_9, if_pos (show (4 : Int32) ≤ nI 4 from by decide)]
/-- what save leaves of the model -/
def Kept (M M' : xV) : Prop := M' 1 = M 1 ∧ M' 3 = M 3 ∧ M' 4 = M 4 ∧ ∀ j, j ≠ 3 → M' 0 j = M 0 j
theorem s_save {v M hv : xV} {kv : Nat → xV} (r : RB v (M 1)) (h : HR hv kv M) : ∃ hv' kv' M', f_X2_save hv kv v = some (hv', kv') ∧ f_X8_save M = some M' ∧ HR hv' kv' M' ∧ Kept M M' := by
  obtain ⟨n, q, a1, a2, a3, a4, a5, a6, a7⟩ := h
  unfold f_X2_save f_X8_save
  by_cases hn : n < 4
  · obtain ⟨q1, q2⟩ := a4 n hn
    obtain ⟨v', e1, e2⟩ := c_copyRB (a7 _ q1) r
    refine ⟨upd2 hv 0 1 (nI (n + 1)), xup kv (q n) v', upd2 (svM M n 820) 0 3 (nI (n + 1)), ?_, ?_, ?_, ?_⟩
    · rw [a2, if_pos (show nI n < (4 : Int32) from nI_lt (b := 4) hn (by decide)), if_neg (nI_pos (by omega)), if_neg (show ¬ (4 : Int32) ≤ nI n from nI_ge (b := 4) hn (by decide)), xgi hn (by decide)]
      simp only [xls, nI_clamp (show n < 2 ^ 31 by omega), q2, nI_clamp (show q n < 2 ^ 31 by omega), xgp q1, e1, xbs, nI_1]
    · rw [a3, if_neg (show ¬ nI n = (4 : Int32) from ne_lit (b := 4) (by omega) (by omega) (by decide)), m_save51 _ _ hn a3, xls, svM_r M n 820 (r := 0) (by decide), a3, nI_1]
    · refine ⟨n + 1, q, by omega, u2s _ _ _ _, u2s _ _ _ _, fun i hi => ?_, a5, fun i hi => ?_, fun j hj => ?_⟩
      · rw [u2k _ _ (by decide)]
        exact a4 i hi
      · by_cases e : i = n
        · subst e
          rw [show xup kv (q i) v' (q i) = v' by simp [xup]]
          refine e2.cong (fun c hc => ?_) (fun _ _ => rfl)
          rw [u2k _ _ (by decide)]
          unfold svM
          rw [if_pos ⟨rfl, by omega, by omega⟩]
          congr 1
          omega
        · have hne : q i ≠ q n := fun z => e (a5 i n (by omega) hn z)
          rw [show xup kv (q n) v' (q i) = kv (q i) by simp [xup, hne]]
          refine (a6 i (by omega)).cong (fun c hc => ?_) (fun _ _ => rfl)
          rw [u2k _ _ (by decide)]
          unfold svM
          rw [if_neg (by omega)]
      · by_cases e : j = q n
        · subst e
          rw [show xup kv (q n) v' (q n) = v' by simp [xup]]
          exact e2.2.1
        · rw [show xup kv (q n) v' j = kv j by simp [xup, e]]
          exact a7 j hj
    · refine ⟨?_, ?_, ?_, fun j hj => ?_⟩
      · funext c; rw [u2k _ _ (by decide), svM_r M n 820 (r := 1) (by decide)]
      · funext c; rw [u2k _ _ (by decide), svM_r M n 820 (r := 3) (by decide)]
      · funext c; rw [u2k _ _ (by decide), svM_r M n 820 (r := 4) (by decide)]
      · rw [u2j _ _ hj, svM_r M n 820 (r := 0) (by decide)]
  · have hn4 : n = 4 := by omega
    subst hn4
    obtain ⟨q01, q02⟩ := a4 0 (by decide)
    obtain ⟨q11, q12⟩ := a4 1 (by decide)
    obtain ⟨q21, q22⟩ := a4 2 (by decide)
    obtain ⟨q31, q32⟩ := a4 3 (by decide)
    obtain ⟨v', e1, e2⟩ := c_copyRB (a7 _ q01) r
    have hd : f_X2_dropOldest hv kv = some (upd2 (upd2 (upd2 (upd2 (upd2 hv 1 0 (nI (q 1))) 1 1 (nI (q 2))) 1 2 (nI (q 3))) 1 3 (nI (q 0))) 0 1 (nI 3)) := by
      unfold f_X2_dropOldest
      rw [xgp (show xin (0 : Int32) 4 from nI_in (c := 0) (by decide) (by decide))]
      simp only [xls, show (0 : Int32).toNatClampNeg = 0 from rfl, q02, nI_clamp (show q 0 < 2 ^ 31 by omega), xgp q01]
      have d1 := drop_step (fun x_13 hv_14 => xl (upd2 hv_14 1 3 (nI (q 0))) fun hv_15 => xl (upd2 hv_15 0 1 ((hv_15 0 1) - 1)) fun hv_16 => some hv_16) 99999 (k := 0) (by decide) hv q12 q11
      have d2 := drop_step (fun x_13 hv_14 => xl (upd2 hv_14 1 3 (nI (q 0))) fun hv_15 => xl (upd2 hv_15 0 1 ((hv_15 0 1) - 1)) fun hv_16 => some hv_16) 99998 (k := 1) (by decide) (upd2 hv 1 0 (nI (q 1))) (q := q 2) ((u2j _ _ (by decide)).trans q22) q21
      have d3 := drop_step (fun x_13 hv_14 => xl (upd2 hv_14 1 3 (nI (q 0))) fun hv_15 => xl (upd2 hv_15 0 1 ((hv_15 0 1) - 1)) fun hv_16 => some hv_16) 99997 (k := 2) (by decide) (upd2 (upd2 hv 1 0 (nI (q 1))) 1 1 (nI (q 2))) (q := q 3) ((u2j _ _ (by decide)).trans ((u2j _ _ (by decide)).trans q32)) q31
      refine d1.trans (d2.trans (d3.trans ?_))
      rw [show (99997 : Nat) = 99996 + 1 from rfl, drop_end, xls, xls, u2k _ _ (show (0 : Nat) ≠ 1 by decide), u2k _ _ (show (0 : Nat) ≠ 1 by decide), u2k _ _ (show (0 : Nat) ≠ 1 by decide), u2k _ _ (show (0 : Nat) ≠ 1 by decide), a2]
      rfl
    let q' : Nat → Nat := fun i => if i < 3 then q (i + 1) else q 0
    refine ⟨upd2 (upd2 (upd2 (upd2 (upd2 (upd2 hv 1 0 (nI (q 1))) 1 1 (nI (q 2))) 1 2 (nI (q 3))) 1 3 (nI (q 0))) 0 1 (nI 3)) 0 1 (nI 4), xup kv (q 0) v', upd2 (svM (upd2 (shM M 2460) 0 3 (nI 3)) 3 820) 0 3 (nI 4), ?_, ?_, ?_, ?_⟩
    · have w3 : upd2 (upd2 (upd2 (upd2 (upd2 hv 1 0 (nI (q 1))) 1 1 (nI (q 2))) 1 2 (nI (q 3))) 1 3 (nI (q 0))) 0 1 (nI 3) 1 3 = nI (q 0) := by
        rw [u2k _ _ (by decide), u2s]
      rw [a2, if_neg (by decide), hd, xbs, u2s, if_neg (by decide), if_neg (by decide), xgi (show 3 < 4 by decide) (by decide)]
      simp only [xls, nI_clamp (show 3 < 2 ^ 31 by decide), w3, nI_clamp (show q 0 < 2 ^ 31 by omega), xgp q01, e1, xbs]
      rfl
    · have w1 : upd2 (shM M 2460) 0 3 (nI 3) 0 3 = nI 3 := u2s _ _ _ _
      rw [a3, if_pos (by decide), m_save10, xls, shM_r M 2460 (r := 0) (by decide), a3, show nI 4 - 1 = nI 3 from rfl, m_save51a _ _ (by decide) w1, xls, svM_r _ 3 820 (r := 0) (by decide), w1]
      rfl
    · refine ⟨4, q', by decide, u2s _ _ _ _, u2s _ _ _ _, fun i hi => ?_, fun i j hi hj => ?_, fun i hi => ?_, fun j hj => ?_⟩
      · rcases (show i = 0 ∨ i = 1 ∨ i = 2 ∨ i = 3 by omega) with rfl | rfl | rfl | rfl
        · exact ⟨q11, by simp [upd2, upd, q']⟩
        · exact ⟨q21, by simp [upd2, upd, q']⟩
        · exact ⟨q31, by simp [upd2, upd, q']⟩
        · exact ⟨q01, by simp [upd2, upd, q']⟩
      · intro e
        have hq : ∀ i, i < 4 → q' i = q ((i + 1) % 4) := fun i hi => by
          rcases (show i = 0 ∨ i = 1 ∨ i = 2 ∨ i = 3 by omega) with rfl | rfl | rfl | rfl <;> rfl
        rw [hq i hi, hq j hj] at e
        have := a5 _ _ (by omega) (by omega) e
        omega
      · by_cases e : i = 3
        · subst e
          show RB (xup kv (q 0) v' (q 0)) _
          rw [show xup kv (q 0) v' (q 0) = v' by simp [xup]]
          refine e2.cong (fun c hc => ?_) (fun _ _ => rfl)
          rw [u2k _ _ (by decide)]
          unfold svM
          rw [if_pos ⟨rfl, by omega, by omega⟩, u2k _ _ (by decide), shM_r M 2460 (r := 1) (by decide)]
          exact congrArg (M 1) (by omega)
        · have hq' : q' i = q (i + 1) := if_pos (by omega)
          have hne : q (i + 1) ≠ q 0 := fun z => by
            have := a5 _ _ (by omega) (by omega) z
            omega
          rw [hq', show xup kv (q 0) v' (q (i + 1)) = kv (q (i + 1)) by simp [xup, hne]]
          refine (a6 (i + 1) (by omega)).cong (fun c hc => ?_) (fun _ _ => rfl)
          rw [u2k _ _ (by decide)]
          unfold svM
          rw [if_neg (by omega), u2k _ _ (by decide)]
          unfold shM
          rw [if_pos ⟨rfl, by omega⟩]
          congr 1
          omega
      · by_cases e : j = q 0
        · subst e
          rw [show xup kv (q 0) v' (q 0) = v' by simp [xup]]
          exact e2.2.1
        · rw [show xup kv (q 0) v' j = kv j by simp [xup, e]]
          exact a7 j hj
    · refine ⟨?_, ?_, ?_, fun j hj => ?_⟩
      · funext c; rw [u2k _ _ (by decide), svM_r _ 3 820 (r := 1) (by decide), u2k _ _ (by decide), shM_r M 2460 (r := 1) (by decide)]
      · funext c; rw [u2k _ _ (by decide), svM_r _ 3 820 (r := 3) (by decide), u2k _ _ (by decide), shM_r M 2460 (r := 3) (by decide)]
      · funext c; rw [u2k _ _ (by decide), svM_r _ 3 820 (r := 4) (by decide), u2k _ _ (by decide), shM_r M 2460 (r := 4) (by decide)]
      · rw [u2j _ _ hj, svM_r _ 3 820 (r := 0) (by decide), u2j _ _ hj, shM_r M 2460 (r := 0) (by decide)]
def bkM (M : xV) (n k : Nat) : xV := fun r c => if r = 1 ∧ c < k then M 2 (820 * n + c) else M r c
theorem s_undo {v M hv : xV} {kv : Nat → xV} (r : RB v (M 1)) (h : HR hv kv M) : ∃ a v' hv' M', f_X7_undo hv v hv kv = some (a, v', hv') ∧ f_X8_undo M = some (a, M') ∧ RB v' (M' 1) ∧ HR hv' kv M' ∧ M' 4 = M 4 ∧ ∀ j, j ≠ 3 → M' 0 j = M 0 j := by
  have hR := h
  obtain ⟨n, q, a1, a2, a3, a4, a5, a6, a7⟩ := h
  unfold f_X7_undo f_X8_undo f_X2_restore
  by_cases hn : n = 0
  · subst hn
    refine ⟨-2000000002, v, hv, M, ?_, ?_, r, hR, rfl, fun _ _ => rfl⟩
    · rw [a2, if_neg (by decide)]
    · rw [a3, if_pos (show nI 0 = (0 : Int32) from rfl)]
  · obtain ⟨n, rfl⟩ : ∃ z, n = z + 1 := ⟨n - 1, by omega⟩
    obtain ⟨q1, q2⟩ := a4 n (by omega)
    obtain ⟨v', e1, e2⟩ := c_copyRB r.2.1 (a6 n (by omega))
    refine ⟨nI n, v', upd2 hv 0 1 (nI n), bkM (upd2 M 0 3 (nI n)) n 820, ?_, ?_, ?_, ?_, ?_, ?_⟩
    · rw [a2, if_pos (show (1 : Int32) ≤ nI (n + 1) from nI_le (a := 1) (by omega) (by omega)), if_neg (show ¬ nI (n + 1) < (1 : Int32) from nI_nlt (b := 1) (by omega) (by omega)), if_neg (show ¬ (4 : Int32) < nI (n + 1) from nI_nlt (a := 4) (by omega) (by decide)), nI_pred, xls, u2s, xgi (by omega) (by decide)]
      simp only [xls, nI_clamp (show n < 2 ^ 31 by omega), u2k _ _ (show (1 : Nat) ≠ 0 by decide), q2, nI_clamp (show q n < 2 ^ 31 by omega), xgp q1, e1, xbs, xb2s, u2s]
    · rw [a3, if_neg (show ¬ nI (n + 1) = (0 : Int32) from ne_lit (b := 0) (by omega) (by omega) (by decide)), nI_pred, xls]
      have z : bkM (upd2 M 0 3 (nI n)) n 0 = upd2 M 0 3 (nI n) := by
        funext r c
        exact if_neg (by omega)
      have br : ∀ k r, r ≠ 1 → bkM (upd2 M 0 3 (nI n)) n k r = upd2 M 0 3 (nI n) r := fun k r hr => by
        funext c
        exact if_neg (fun y => hr y.1)
      have w3 : ∀ k, bkM (upd2 M 0 3 (nI n)) n k 0 3 = nI n := fun k => by rw [br k 0 (by decide), u2s]
      have q := xup0 (fun j k => L_X8_undo_22 (fun _ M_11 => some ((M_11 0 3), M_11)) j (nI k) (bkM (upd2 M 0 3 (nI n)) n k)) (some (nI n, bkM (upd2 M 0 3 (nI n)) n 820)) 820 (fun j k hk => by
        rw [L_X8_undo_22, if_neg (show ¬ (820 : Int32) ≤ nI k from nI_ge (b := 820) hk (by decide)), w3, show (820 : Int32) * nI n + nI k = nI (820 * n + k) by rw [show (820 : Int32) = nI 820 from rfl, pk_mul, nI_add], xgi (by omega) (by decide), xgi (by omega) (by decide), nI_clamp (by omega), nI_clamp (by omega), xls, xls, nI_1, br k 2 (by decide)]
        congr 1
        funext r c
        rw [u2e]
        unfold bkM
        by_cases h : r = 1 ∧ c = k
        · obtain ⟨rfl, rfl⟩ := h
          rw [if_pos ⟨rfl, rfl⟩, if_pos ⟨rfl, by omega⟩]
        · rw [if_neg h]
          by_cases h2 : r = 1 ∧ c < k
          · rw [if_pos h2, if_pos ⟨h2.1, by omega⟩]
          · rw [if_neg h2, if_neg (by omega)]) (fun j => by
        rw [L_X8_undo_22, if_pos (show (820 : Int32) ≤ nI 820 from by decide), w3]) (n := 100000) (by decide)
      rw [z] at q
      exact q
    · refine e2.cong (fun c hc => ?_) (fun _ _ => rfl)
      unfold bkM
      rw [if_pos ⟨rfl, hc⟩, u2k _ _ (by decide)]
    · refine ⟨n, q, by omega, u2s _ _ _ _, ?_, fun i hi => ?_, a5, fun i hi => ?_, a7⟩
      · unfold bkM
        rw [if_neg (by omega), u2s]
      · rw [u2k _ _ (by decide)]
        exact a4 i hi
      · refine (a6 i (by omega)).cong (fun c hc => ?_) (fun _ _ => rfl)
        unfold bkM
        rw [if_neg (by omega), u2k _ _ (by decide)]
    · funext c
      unfold bkM
      rw [if_neg (by omega), u2k _ _ (by decide)]
    · intro j hj
      unfold bkM
      rw [if_neg (by omega), u2j _ _ hj]
