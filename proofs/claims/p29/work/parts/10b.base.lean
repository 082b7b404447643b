/-! ===== PURE 1: small words, loops, sums, bits ===== -/
theorem xls {α β : Type} (a : α) (k : α → β) : xl a k = k a := rfl
theorem xbs {α β : Type} (a : α) (k : α → Option β) : xb (some a) k = k a := rfl
theorem xb2s {α β γ : Type} (a : α) (b : β) (k : α → β → Option γ) : xb2 (some (a, b)) k = k a b := rfl
theorem xb3s {α β γ δ : Type} (a : α) (b : β) (c : γ) (k : α → β → γ → Option δ) : xb3 (some (a, b, c)) k = k a b c := rfl
theorem xb4s {α β γ δ ε : Type} (a : α) (b : β) (c : γ) (d : δ) (k : α → β → γ → δ → Option ε) : xb4 (some (a, b, c, d)) k = k a b c d := rfl
theorem xgp {α : Type} {P : Prop} [Decidable P] (h : P) (k : Option α) : xg P k = k := if_pos h
theorem xgi {α : Type} {k N : Nat} (h : k < N) (hN : N < 2 ^ 31) (K : Option α) : xg (xin (nI k) N) K = K := if_pos (nI_in h hN)
theorem u2s (v : xV) (k j : Nat) (x : Int32) : upd2 v k j x k j = x := by simp [upd2, upd]
theorem u2k (v : xV) {k j i : Nat} (x : Int32) (h : i ≠ k) : upd2 v k j x i = v i := by simp [upd2, h]
theorem u2j (v : xV) {k j n : Nat} (x : Int32) (h : n ≠ j) : upd2 v k j x k n = v k n := by simp [upd2, upd, h]
theorem u2r (v : xV) (k j : Nat) (x : Int32) : upd2 v k j x k = upd (v k) j x := by simp [upd2]
theorem u2e (v : xV) (k j i n : Nat) (x : Int32) : upd2 v k j x i n = if i = k ∧ n = j then x else v i n := by
  by_cases h : i = k
  · subst h
    by_cases h2 : n = j
    · subst h2; simp [upd2, upd]
    · simp [upd2, upd, h2]
  · simp [upd2, h]
theorem upe (f : Nat → Int32) (k j : Nat) (x : Int32) : upd f k x j = if j = k then x else f j := rfl
theorem upp (f : Nat → Int32) (k : Nat) (x : Int32) : upd f k x k = x := by simp [upd]
theorem upn (f : Nat → Int32) {k j : Nat} (x : Int32) (h : j ≠ k) : upd f k x j = f j := by simp [upd, h]
/-- a loop upwards to N -/
theorem xup1 {β : Type} (Lp : Nat → Nat → β) (r : β) (N : Nat) (hs : ∀ n k, k < N → Lp (n + 1) k = Lp n (k + 1)) (h0 : ∀ n, Lp (n + 1) N = r) : ∀ d k n, k + d = N → d < n → Lp n k = r
  | 0, k, 0, _, h => absurd h (Nat.not_lt_zero _)
  | 0, k, n + 1, hk, _ => by
    have : k = N := by omega
    subst this
    exact h0 n
  | d + 1, k, 0, _, h => absurd h (Nat.not_lt_zero _)
  | d + 1, k, n + 1, hk, h => by
    rw [hs n k (by omega)]
    exact xup1 Lp r N hs h0 d (k + 1) n (by omega) (by omega)
theorem xup0 {β : Type} (Lp : Nat → Nat → β) (r : β) (N : Nat) (hs : ∀ n k, k < N → Lp (n + 1) k = Lp n (k + 1)) (h0 : ∀ n, Lp (n + 1) N = r) {n : Nat} (hn : N < n) : Lp n 0 = r := xup1 Lp r N hs h0 N 0 n (by omega) hn
/-- two loops upwards, both with an early end, side by side -/
theorem xeq1 {β : Type} (R : β → β → Prop) (L1 L2 : Nat → Nat → β) (N : Nat) (hs : ∀ n n' k, k < N → R (L1 (n + 1) k) (L2 (n' + 1) k) ∨ (L1 (n + 1) k = L1 n (k + 1) ∧ L2 (n' + 1) k = L2 n' (k + 1))) (h0 : ∀ n n', R (L1 (n + 1) N) (L2 (n' + 1) N)) : ∀ d k n n', k + d = N → d < n → d < n' → R (L1 n k) (L2 n' k)
  | d, k, 0, _, _, h, _ => absurd h (Nat.not_lt_zero _)
  | d, k, _ + 1, 0, _, _, h => absurd h (Nat.not_lt_zero _)
  | 0, k, n + 1, n' + 1, hk, _, _ => by
    have : k = N := by omega
    subst this
    exact h0 n n'
  | d + 1, k, n + 1, n' + 1, hk, h, h' => by
    rcases hs n n' k (by omega) with e | ⟨e1, e2⟩
    · exact e
    · rw [e1, e2]
      exact xeq1 R L1 L2 N hs h0 d (k + 1) n n' (by omega) (by omega) (by omega)
/-- sums of ints -/
def sI (f : Nat → Int32) : Nat → Int32
  | 0 => 0
  | n + 1 => sI f n + f n
theorem sI_succ (f : Nat → Int32) (n : Nat) : sI f (n + 1) = sI f n + f n := rfl
theorem sI_cong {f g : Nat → Int32} : ∀ {n : Nat}, (∀ k, k < n → f k = g k) → sI f n = sI g n
  | 0, _ => rfl
  | n + 1, h => by rw [sI_succ, sI_succ, sI_cong (fun k hk => h k (by omega)), h n (by omega)]
theorem sI_cut {f : Nat → Int32} {m : Nat} : ∀ (d : Nat), (∀ k, m ≤ k → k < m + d → f k = 0) → sI f (m + d) = sI f m
  | 0, _ => rfl
  | d + 1, h => by
    rw [← Nat.add_assoc, sI_succ, sI_cut d (fun k h1 h2 => h k h1 (by omega)), h (m + d) (by omega) (by omega), Int32.add_zero]
theorem sI_cut' {f : Nat → Int32} {m n : Nat} (hm : m ≤ n) (h : ∀ k, m ≤ k → k < n → f k = 0) : sI f n = sI f m := by
  obtain ⟨d, rfl⟩ := Nat.exists_eq_add_of_le hm
  exact sI_cut d h
theorem sI_ct (p : Nat → Bool) : ∀ n, sI (fun k => if p k = true then 1 else 0) n = nI (fb_ct p n)
  | 0 => rfl
  | n + 1 => by
    rw [sI_succ, sI_ct p n, fb_ct_succ, ← nI_add]
    by_cases h : p n = true
    · simp only [h, if_pos]; rfl
    · simp only [if_neg h]; rfl
theorem sI_sm (f : Nat → Nat) : ∀ n, sI (fun k => nI (f k)) n = nI (fb_sm f n)
  | 0 => rfl
  | n + 1 => by rw [sI_succ, sI_sm f n, fb_sm_succ, ← nI_add]
/-! bits -/
theorem s_l : ∀ n, n < 32 → ((nI n &&& 31).toBitVec.smod 32).toNat = n := by decide +kernel
theorem b_shr {n k : Nat} (hn : n < 2 ^ 31) (hk : k < 31) : (nI n >>> (nI k &&& 31)) &&& 1 = nI (n / 2 ^ k % 2) := by
  rw [pk_shrN hn _ k (s_l k (by omega))]
  have hq : n / 2 ^ k < 2 ^ 32 := Nat.lt_of_le_of_lt (Nat.div_le_self _ _) (by omega)
  exact pk_andN hq 1 (by decide)
theorem b_tb (n k : Nat) : n / 2 ^ k % 2 = (n.testBit k).toNat := by
  rw [Nat.testBit_eq_decide_div_mod_eq]
  rcases Nat.mod_two_eq_zero_or_one (n / 2 ^ k) with h | h <;> simp [h]
/-- x is a row of 20 bits -/
def bm (x : Int32) (p : Nat → Bool) : Prop := ∃ H : Nat, H < 2 ^ 20 ∧ x = nI H ∧ ∀ k, k < 20 → H.testBit k = p k
theorem bm_bit {x : Int32} {p : Nat → Bool} (h : bm x p) {k : Nat} (hk : k < 20) : (x >>> (nI k &&& 31)) &&& 1 = if p k = true then 1 else 0 := by
  obtain ⟨H, h1, rfl, h2⟩ := h
  rw [b_shr (by omega) (by omega), b_tb, h2 k hk]
  cases p k <;> rfl
theorem bm_0 : bm 0 (fun _ => false) := ⟨0, by decide, rfl, fun k _ => Nat.zero_testBit k⟩
theorem bm_or {x y : Int32} {p q : Nat → Bool} (h : bm x p) (h' : bm y q) : bm (x ||| y) (fun k => p k || q k) := by
  obtain ⟨H, h1, rfl, h2⟩ := h
  obtain ⟨H', h1', rfl, h2'⟩ := h'
  refine ⟨H ||| H', Nat.or_lt_two_pow h1 h1', fa_or H H', fun k hk => ?_⟩
  rw [Nat.testBit_or, h2 k hk, h2' k hk]
theorem bm_one {k : Nat} (hk : k < 20) : bm ((1 : Int32) <<< (nI k &&& 31)) (fun j => decide (j = k)) := by
  have hp : 2 ^ k < 2 ^ 20 := Nat.pow_lt_pow_right (by decide) hk
  refine ⟨2 ^ k, hp, ?_, fun j _ => ?_⟩
  · have := pk_shlN (n := 1) (nI k &&& 31) k (s_l k (by omega)) (by omega)
    rw [Nat.one_mul] at this
    exact this
  · rw [Nat.testBit_two_pow]
    by_cases h : j = k
    · simp [h]
    · simp [h, Ne.symm h]
theorem bm_set {x : Int32} {p : Nat → Bool} (h : bm x p) {k : Nat} (hk : k < 20) : bm (x ||| ((1 : Int32) <<< (nI k &&& 31))) (fun j => p j || decide (j = k)) := bm_or h (bm_one hk)
theorem bm_cong {x : Int32} {p q : Nat → Bool} (h : bm x p) (hq : ∀ k, k < 20 → p k = q k) : bm x q := by
  obtain ⟨H, h1, h2, h3⟩ := h
  exact ⟨H, h1, h2, fun k hk => (h3 k hk).trans (hq k hk)⟩
/-! the number of bits -/
theorem an_b {x y m n : Nat} (hx : x < 256) (hm : m < 256) : (x + 256 * y) &&& (m + 256 * n) = (x &&& m) + 256 * (y &&& n) := by
  have e1 : ((x + 256 * y) &&& (m + 256 * n)) % 2 ^ 8 = (x &&& m) := by
    rw [Nat.and_mod_two_pow]
    have h1 : (x + 256 * y) % 2 ^ 8 = x := by omega
    have h2 : (m + 256 * n) % 2 ^ 8 = m := by omega
    rw [h1, h2]
  have e2 : ((x + 256 * y) &&& (m + 256 * n)) / 2 ^ 8 = (y &&& n) := by
    rw [Nat.and_div_two_pow]
    have h1 : (x + 256 * y) / 2 ^ 8 = y := by omega
    have h2 : (m + 256 * n) / 2 ^ 8 = n := by omega
    rw [h1, h2]
  omega
def pcA (a : Nat) : Nat := a - ((a / 2) &&& 85)
def pcB (a : Nat) : Nat := (a &&& 51) + ((a / 4) &&& 51)
def pcC (a : Nat) : Nat := (a + a / 16) &&& 15
theorem pc_1 : ∀ a, a < 256 → ∀ t, t < 2 → (a / 2 + 128 * t) &&& 85 = (a / 2) &&& 85 := by decide +kernel
theorem pc_2 : ∀ a, a < 256 → ∀ t, t < 4 → (a / 4 + 64 * t) &&& 51 = (a / 4) &&& 51 := by decide +kernel
theorem pc_3 : ∀ a, a < 69 → ∀ t, t < 5 → (a + a / 16 + 16 * t) &&& 15 = (a + a / 16) &&& 15 := by decide +kernel
theorem pc_t : ∀ a, a < 256 → pcA a < 256 ∧ pcB (pcA a) < 69 ∧ pcB (pcA a) % 16 < 5 ∧ pcC (pcB (pcA a)) = fb_ct a.testBit 8 := by decide +kernel
theorem pc_s1 {a y n : Nat} (ha : a < 256) : ((a + 256 * y) / 2) &&& (85 + 256 * n) = ((a / 2) &&& 85) + 256 * ((y / 2) &&& n) := by
  have e : (a + 256 * y) / 2 = (a / 2 + 128 * (y % 2)) + 256 * (y / 2) := by omega
  rw [e, an_b (by omega) (by decide), pc_1 a ha _ (by omega)]
theorem pc_s2 {a y n : Nat} (ha : a < 256) : ((a + 256 * y) / 4) &&& (51 + 256 * n) = ((a / 4) &&& 51) + 256 * ((y / 4) &&& n) := by
  have e : (a + 256 * y) / 4 = (a / 4 + 64 * (y % 4)) + 256 * (y / 4) := by omega
  rw [e, an_b (by omega) (by decide), pc_2 a ha _ (by omega)]
theorem pc_s3 {a y n : Nat} (ha : a < 69) (hy : y % 16 < 5) : ((a + 256 * y) + (a + 256 * y) / 16) &&& (15 + 256 * n) = ((a + a / 16) &&& 15) + 256 * ((y + y / 16) &&& n) := by
  have e : (a + 256 * y) + (a + 256 * y) / 16 = (a + a / 16 + 16 * (y % 16)) + 256 * (y + y / 16) := by omega
  rw [e, an_b (by omega) (by decide), pc_3 a ha _ hy]
theorem pc_A (a b c : Nat) (ha : a < 256) (hb : b < 256) : (a + 256 * (b + 256 * c)) - (((a + 256 * (b + 256 * c)) / 2) &&& 1431655765) = pcA a + 256 * (pcA b + 256 * (c - ((c / 2) &&& 21845))) := by
  have e : (1431655765 : Nat) = 85 + 256 * (85 + 256 * 21845) := rfl
  rw [e, pc_s1 ha, pc_s1 hb]
  have h1 : (a / 2) &&& 85 ≤ a / 2 := Nat.and_le_left
  have h2 : (b / 2) &&& 85 ≤ b / 2 := Nat.and_le_left
  have h3 : (c / 2) &&& 21845 ≤ c / 2 := Nat.and_le_left
  unfold pcA
  omega
theorem pc_B (a b c : Nat) (ha : a < 256) (hb : b < 256) : ((a + 256 * (b + 256 * c)) &&& 858993459) + (((a + 256 * (b + 256 * c)) / 4) &&& 858993459) = pcB a + 256 * (pcB b + 256 * ((c &&& 13107) + ((c / 4) &&& 13107))) := by
  have e : (858993459 : Nat) = 51 + 256 * (51 + 256 * 13107) := rfl
  rw [e, pc_s2 ha, pc_s2 hb, an_b ha (by decide), an_b hb (by decide)]
  unfold pcB
  omega
theorem pc_C (a b c : Nat) (ha : a < 69) (hb : b < 69) (hb' : b % 16 < 5) (hc : c % 16 < 5) : ((a + 256 * (b + 256 * c)) + (a + 256 * (b + 256 * c)) / 16) &&& 252645135 = pcC a + 256 * (pcC b + 256 * ((c + c / 16) &&& 3855)) := by
  have e : (252645135 : Nat) = 15 + 256 * (15 + 256 * 3855) := rfl
  rw [e, pc_s3 ha (by omega), pc_s3 hb hc]
  rfl
theorem pc_c : ∀ c, c < 16 → (c - ((c / 2) &&& 21845)) = pcA c ∧ (pcA c &&& 13107) + ((pcA c / 4) &&& 13107) = pcB (pcA c) ∧ ((pcB (pcA c) + pcB (pcA c) / 16) &&& 3855) = pcC (pcB (pcA c)) := by decide +kernel
theorem fb_ct_le' (p : Nat → Bool) (n : Nat) : fb_ct p n ≤ n := fb_ct_le p n
theorem pc_ct (a b c : Nat) (ha : a < 256) (hb : b < 256) (hc : c < 16) : fb_ct (a + 256 * (b + 256 * c)).testBit 20 = fb_ct a.testBit 8 + fb_ct b.testBit 8 + fb_ct c.testBit 8 := by
  have tb : ∀ (x y k : Nat), x < 256 → (x + 256 * y).testBit k = if k < 8 then x.testBit k else y.testBit (k - 8) := fun x y k hx => by
    have := Nat.testBit_two_pow_mul_add (i := 8) y (b := x) hx k
    rw [show 2 ^ 8 * y + x = x + 256 * y by omega] at this
    exact this
  have e1 : fb_ct (a + 256 * (b + 256 * c)).testBit 20 = fb_ct (a + 256 * (b + 256 * c)).testBit 8 + fb_ct (fun k => (a + 256 * (b + 256 * c)).testBit (8 + k)) 12 := fb_ct_split _ 8 12
  have e2 : fb_ct (fun k => (a + 256 * (b + 256 * c)).testBit (8 + k)) 12 = fb_ct (b + 256 * c).testBit 12 := fb_ct_cong fun k _ => by
    rw [tb a _ _ ha, if_neg (by omega), show 8 + k - 8 = k by omega]
  have e3 : fb_ct (b + 256 * c).testBit 12 = fb_ct (b + 256 * c).testBit 8 + fb_ct (fun k => (b + 256 * c).testBit (8 + k)) 4 := fb_ct_split _ 8 4
  have e4 : fb_ct (fun k => (b + 256 * c).testBit (8 + k)) 4 = fb_ct c.testBit 4 := fb_ct_cong fun k _ => by
    rw [tb b _ _ hb, if_neg (by omega), show 8 + k - 8 = k by omega]
  have e5 : fb_ct (a + 256 * (b + 256 * c)).testBit 8 = fb_ct a.testBit 8 := fb_ct_cong fun k hk => by rw [tb a _ _ ha, if_pos hk]
  have e6 : fb_ct (b + 256 * c).testBit 8 = fb_ct b.testBit 8 := fb_ct_cong fun k hk => by rw [tb b _ _ hb, if_pos hk]
  have e7 : fb_ct c.testBit 8 = fb_ct c.testBit 4 + fb_ct (fun k => c.testBit (4 + k)) 4 := fb_ct_split _ 4 4
  have e8 : fb_ct (fun k => c.testBit (4 + k)) 4 = 0 := fb_ct_zero.mpr fun k _ => Nat.testBit_lt_two_pow (Nat.lt_of_lt_of_le (show c < 2 ^ 4 from hc) (Nat.pow_le_pow_right (n := 2) (by decide) (show 4 ≤ 4 + k by omega)))
  omega
theorem pc_e (A B C : Nat) (hA : A ≤ 8) (hB : B ≤ 8) (hC : C ≤ 8) : (A + 256 * (B + 256 * C) + (A + 256 * (B + 256 * C)) / 256 + (A + 256 * (B + 256 * C) + (A + 256 * (B + 256 * C)) / 256) / 65536) % 2 ^ 6 = A + B + C := by
  have e1 : (A + 256 * (B + 256 * C)) / 256 = B + 256 * C := by omega
  rw [e1]
  have e2 : (A + 256 * (B + 256 * C) + (B + 256 * C)) / 65536 = C := by omega
  rw [e2]
  omega
theorem bc_n (H : Nat) (hH : H < 2 ^ 20) : f_J6_bitCount_0f7a4 (nI H) = some (nI (fb_ct H.testBit 20)) := by
  obtain ⟨a, b, c, ha, hb, hc, rfl⟩ : ∃ a b c, a < 256 ∧ b < 256 ∧ c < 16 ∧ H = a + 256 * (b + 256 * c) := ⟨H % 256, H / 256 % 256, H / 65536, by omega, by omega, by omega, by omega⟩
  obtain ⟨a1, a2, a3, a4⟩ := pc_t a ha
  obtain ⟨b1, b2, b3, b4⟩ := pc_t b hb
  obtain ⟨c1, c2, c3, c4⟩ := pc_t c (by omega)
  obtain ⟨k1, k2, k3⟩ := pc_c c hc
  have la : ∀ a : Nat, fb_ct a.testBit 8 ≤ 8 := fun a => fb_ct_le _ _
  have la1 := la a
  have lb1 := la b
  have lc1 := la c
  unfold f_J6_bitCount_0f7a4
  simp only [xls]
  have s1 : ∀ n, n < 2 ^ 32 → ((nI n).toUInt32 >>> ((1 : Int32).toUInt32 &&& Int32.toUInt32 31)).toInt32 = nI (n / 2) := fun n hn => pk_ushrN hn 1 1 (by decide)
  have s2 : ∀ n, n < 2 ^ 32 → ((nI n).toUInt32 >>> ((2 : Int32).toUInt32 &&& Int32.toUInt32 31)).toInt32 = nI (n / 4) := fun n hn => pk_ushrN hn 2 2 (by decide)
  have s4 : ∀ n, n < 2 ^ 32 → ((nI n).toUInt32 >>> ((4 : Int32).toUInt32 &&& Int32.toUInt32 31)).toInt32 = nI (n / 16) := fun n hn => pk_ushrN hn 4 4 (by decide)
  have s8 : ∀ n, n < 2 ^ 32 → ((nI n).toUInt32 >>> ((8 : Int32).toUInt32 &&& Int32.toUInt32 31)).toInt32 = nI (n / 256) := fun n hn => pk_ushrN hn 8 8 (by decide)
  have s16 : ∀ n, n < 2 ^ 32 → ((nI n).toUInt32 >>> ((16 : Int32).toUInt32 &&& Int32.toUInt32 31)).toInt32 = nI (n / 65536) := fun n hn => pk_ushrN hn 16 16 (by decide)
  have m1 : (1431655765 : Int32) = nI 1431655765 := rfl
  have m2 : (858993459 : Int32) = nI 858993459 := rfl
  have m3 : (252645135 : Int32) = nI 252645135 := rfl
  rw [m1, m2, m3, s1 _ (by omega), fa_and, pk_sub (Nat.le_trans Nat.and_le_left (by omega)), pc_A a b c ha hb, k1]
  rw [fa_and, s2 _ (by omega), fa_and, nI_add, pc_B _ _ _ a1 b1, k2]
  rw [s4 _ (by omega), nI_add, fa_and, pc_C _ _ _ a2 b2 b3 c3, k3, a4, b4, c4]
  rw [s8 _ (by omega), nI_add, s16 _ (by omega), nI_add, pc_ct a b c ha hb hc]
  have hx := pk_andN (n := fb_ct a.testBit 8 + 256 * (fb_ct b.testBit 8 + 256 * fb_ct c.testBit 8) + (fb_ct a.testBit 8 + 256 * (fb_ct b.testBit 8 + 256 * fb_ct c.testBit 8)) / 256 + (fb_ct a.testBit 8 + 256 * (fb_ct b.testBit 8 + 256 * fb_ct c.testBit 8) + (fb_ct a.testBit 8 + 256 * (fb_ct b.testBit 8 + 256 * fb_ct c.testBit 8)) / 256) / 65536) (by omega) (m := 63) 6 (by decide)
  rw [hx, pc_e _ _ _ la1 lb1 lc1]
theorem bm_cnt {x : Int32} {p : Nat → Bool} (h : bm x p) : f_J6_bitCount_0f7a4 x = some (nI (fb_ct p 20)) := by
  obtain ⟨H, h1, rfl, h2⟩ := h
  rw [bc_n H h1, fb_ct_cong h2]
