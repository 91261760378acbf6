/-! ===== what a net's cells are ===== -/
def clL (T V : Int → Int) (j : Nat) : Nat → List (Nat × Nat)
  | 0 => []
  | m + 1 => ((T ((j : Nat) : Int)).toNat, (V ((j : Nat) : Int)).toNat) :: clL T V (j + 1) m
def clR (T V : Int → Int) : Nat → List (Nat × Nat)
  | 0 => []
  | j + 1 => ((T ((j : Nat) : Int)).toNat, (V ((j : Nat) : Int)).toNat) :: clR T V j
def nvF (kd : Nat) (cs : List (Nat × Nat)) (r : Nat) : Int :=
  if kd = 1 then bh cs r else if kd = 2 then lg cs r else if kd = 3 then sh cs r else if kd = 4 then tc cs r else if kd = 5 then lk cs r else if kd = 6 then les cs r else grs cs r
/-- a node is there -/
def thr (T V : Int → Int) (n R j a : Nat) : Prop := j ≤ n ∧ a ≤ R ∧ a ≤ tsum (clL T V 0 j) ∧ R - a ≤ tsum (clL T V j (n - j))
theorem thr_dec (T V : Int → Int) (n R j a : Nat) : thr T V n R j a ∨ ¬ thr T V n R j a := Classical.em _
noncomputable def NV (T V : Int → Int) (n R kd j a : Nat) : Int :=
  if j ≤ n ∧ a ≤ R ∧ a ≤ tsum (clL T V 0 j) ∧ R - a ≤ tsum (clL T V j (n - j)) then (if kd = 0 then ah (clR T V j) a else nvF kd (clL T V j (n - j)) (R - a)) else 0
theorem NV_in {T V : Int → Int} {n R kd j a : Nat} (h : thr T V n R j a) (hk : 0 < kd) : NV T V n R kd j a = nvF kd (clL T V j (n - j)) (R - a) := by
  unfold NV
  rw [if_pos (show j ≤ n ∧ a ≤ R ∧ a ≤ tsum (clL T V 0 j) ∧ R - a ≤ tsum (clL T V j (n - j)) from h), if_neg (by omega)]
theorem NV_in0 {T V : Int → Int} {n R j a : Nat} (h : thr T V n R j a) : NV T V n R 0 j a = ah (clR T V j) a := by
  unfold NV
  rw [if_pos (show j ≤ n ∧ a ≤ R ∧ a ≤ tsum (clL T V 0 j) ∧ R - a ≤ tsum (clL T V j (n - j)) from h), if_pos rfl]
theorem NV_out {T V : Int → Int} {n R kd j a : Nat} (h : ¬ thr T V n R j a) : NV T V n R kd j a = 0 := if_neg h
theorem clL_c {T V : Int → Int} {j n : Nat} (h : j < n) : clL T V j (n - j) = ((T ((j : Nat) : Int)).toNat, (V ((j : Nat) : Int)).toNat) :: clL T V (j + 1) (n - (j + 1)) := by
  rw [show n - j = (n - (j + 1)) + 1 by omega]
  rfl
theorem clL_end (T V : Int → Int) (n : Nat) : clL T V n (n - n) = [] := by rw [Nat.sub_self]; rfl
/-- the first j columns' sum: one more column -/
theorem ts_pre (T V : Int → Int) : ∀ (m j : Nat), tsum (clL T V j (m + 1)) = tsum (clL T V j m) + (T (((j + m : Nat)) : Int)).toNat
  | 0, j => by simp [clL, tsum]
  | m + 1, j => by
    have h := ts_pre T V m (j + 1)
    rw [clL, tsum, h, show clL T V j (m + 1) = ((T ((j : Nat) : Int)).toNat, (V ((j : Nat) : Int)).toNat) :: clL T V (j + 1) m from rfl, tsum, show j + 1 + m = j + (m + 1) by omega]
    omega
theorem ts_R (T V : Int → Int) : ∀ j : Nat, tsum (clR T V j) = tsum (clL T V 0 j)
  | 0 => rfl
  | j + 1 => by
    rw [ts_pre, clR, tsum, ts_R T V j, Nat.zero_add]
    omega
theorem ts_all (T V : Int → Int) {n : Nat} : ∀ {j : Nat}, j ≤ n → tsum (clL T V 0 n) = tsum (clL T V 0 j) + tsum (clL T V j (n - j))
  | 0, _ => by simp [clL, tsum]
  | j + 1, h => by
    rw [ts_all T V (j := j) (by omega), ts_pre, clL_c (show j < n by omega), tsum, Nat.zero_add]
    omega
theorem ts_le {T V : Int → Int} {c : Nat} : ∀ {m j : Nat}, (∀ i : Nat, j ≤ i → i < j + m → (T ((i : Nat) : Int)).toNat ≤ c) → tsum (clL T V j m) ≤ m * c
  | 0, _, _ => by simp [clL, tsum]
  | m + 1, j, h => by
    have h1 := ts_le (V := V) (m := m) (j := j + 1) (fun i h1 h2 => h i (by omega) (by omega))
    have h2 := h j (Nat.le_refl _) (by omega)
    rw [clL, tsum, Nat.succ_mul]
    show (T ((j : Nat) : Int)).toNat + _ ≤ _
    omega
/-- rows: the sum of 2^t bounds all ways -/
theorem pos_srN {f : Nat → Int} {a k : Nat} (h : ∀ i, i < k → 0 ≤ f (a + i)) {i : Nat} (hi : i < k) : f (a + i) ≤ srN f a k := by
  induction k with
  | zero => exact absurd hi (Nat.not_lt_zero _)
  | succ k ih =>
    rw [srN]
    have h0 : 0 ≤ srN f a k := srN_nn (fun i hi => h i (by omega))
    have h1 := h k (by omega)
    rcases Nat.lt_or_ge i k with q | q
    · have := ih (fun i hi => h i (by omega)) q
      omega
    · rw [show i = k by omega]
      omega
theorem bh_pos : ∀ {cs : List (Nat × Nat)} {r : Nat}, r ≤ tsum cs → 0 < bh cs r
  | [], _, _ => by rw [bh]; omega
  | c :: cs, r, h => by
    rw [bh]
    rw [tsum] at h
    have hx : ∀ i, i < nn c cs r → 0 < (ch c.1 (lo cs r + i) : Int) * bh cs (r - (lo cs r + i)) := fun i hi => by
      unfold nn at hi
      unfold lo
      refine Int.mul_pos ?_ (bh_pos (by omega))
      have := ch_pos (n := c.1) (k := r - tsum cs + i) (by omega)
      omega
    have hn : 0 < nn c cs r := by unfold nn; omega
    have h1 := pos_srN (f := fun x => (ch c.1 x : Int) * bh cs (r - x)) (a := lo cs r) (fun i hi => Int.le_of_lt (hx i hi)) hn
    have h2 := hx 0 hn
    exact Int.lt_of_lt_of_le h2 h1
theorem ah_zero : ∀ {cs : List (Nat × Nat)} {a : Nat}, tsum cs < a → ah cs a = 0
  | [], a, h => by
    rw [tsum] at h
    rw [ah, if_neg (by omega)]
  | c :: cs, a, h => by
    rw [tsum] at h
    rw [ah]
    refine srN_zero fun i hi => ?_
    by_cases hx : 0 + i ≤ a
    · simp only [if_pos hx]
      rw [ah_zero (by omega), Int.mul_zero]
    · simp only [if_neg hx]
      rw [Int.mul_zero]
/-- bounds -/
theorem sum_ch : ∀ (n k : Nat), srN (fun x => (ch n x : Int)) 0 k ≤ 2 ^ n
  | 0, 0 => by simp [srN]
  | 0, k + 1 => by
    have h0 : srN (fun x => (ch 0 (1 + x) : Int)) 0 k = 0 := srN_zero (fun i _ => by
      show ((ch 0 (1 + (0 + i)) : Nat) : Int) = 0
      rw [show 1 + (0 + i) = i + 1 by omega]
      rfl)
    have h1 := srN_split (fun x => (ch 0 x : Int)) 0 1 k
    rw [show k + 1 = 1 + k by omega, h1]
    have h2 : srN (fun x => (ch 0 x : Int)) (0 + 1) k = 0 := srN_zero (fun i _ => by
      show ((ch 0 (0 + 1 + i) : Nat) : Int) = 0
      rw [show 0 + 1 + i = i + 1 by omega]
      rfl)
    rw [h2]
    simp [srN, ch]
  | n + 1, 0 => by
    rw [srN]
    exact Int.le_of_lt (Int.pow_pos (by omega))
  | n + 1, k + 1 => by
    have h1 := sum_ch n k
    have h2 := sum_ch n (k + 1)
    have e : ∀ m, srN (fun x => (ch (n + 1) x : Int)) 0 (m + 1) = srN (fun x => (ch n x : Int)) 0 m + srN (fun x => (ch n x : Int)) 0 (m + 1) := by
      intro m
      induction m with
      | zero => simp [srN, ch]
      | succ m ih =>
        rw [srN, ih, srN, srN]
        show _ + ((ch (n + 1) (0 + (m + 1)) : Nat) : Int) = _
        rw [show 0 + (m + 1) = m + 1 by omega, ch]
        rw [Int.natCast_add, Nat.zero_add]
        rw [srN]
        simp only [Nat.zero_add]
        omega
    rw [e]
    rw [Int.pow_succ]
    omega
theorem srN_le_mul {f g : Nat → Int} {a : Nat} {M : Int} : ∀ {k : Nat}, (∀ i, i < k → f (a + i) ≤ g (a + i) * M) → srN f a k ≤ srN g a k * M
  | 0, _ => by simp [srN]
  | k + 1, h => by
    have h1 := srN_le_mul (k := k) (fun i hi => h i (by omega))
    have h2 := h k (by omega)
    rw [srN, srN, Int.add_mul]
    omega
theorem srN_mono {f : Nat → Int} (h : ∀ x, 0 ≤ f x) (a k : Nat) : srN f a k ≤ srN f 0 (a + k) := by
  rw [srN_split f 0 a k]
  have := srN_nn (f := f) (a := 0) (k := a) (fun i _ => h _)
  rw [Nat.zero_add]
  omega
theorem bh_le : ∀ {cs : List (Nat × Nat)} {r : Nat}, 0 ≤ bh cs r ∧ bh cs r ≤ 2 ^ tsum cs
  | [], _ => by simp [bh, tsum]
  | c :: cs, r => by
    have hp : (0 : Int) ≤ 2 ^ tsum cs := Int.le_of_lt (Int.pow_pos (by omega))
    constructor
    · rw [bh]
      exact srN_nn (fun i _ => Int.mul_nonneg (by omega) (bh_le (cs := cs)).1)
    · rw [bh, tsum, Int.pow_add]
      have h1 : srN (fun x => (ch c.1 x : Int) * bh cs (r - x)) (lo cs r) (nn c cs r) ≤ srN (fun x => (ch c.1 x : Int)) (lo cs r) (nn c cs r) * 2 ^ tsum cs :=
        srN_le_mul (fun i _ => Int.mul_le_mul_of_nonneg_left (bh_le (cs := cs)).2 (by omega))
      have h2 := srN_mono (f := fun x => (ch c.1 x : Int)) (fun x => by omega) (lo cs r) (nn c cs r)
      have h3 := sum_ch c.1 (lo cs r + nn c cs r)
      exact Int.le_trans h1 (Int.mul_le_mul_of_nonneg_right (Int.le_trans h2 h3) hp)
theorem lg_bh : ∀ {cs : List (Nat × Nat)} {r : Nat}, 0 ≤ lg cs r ∧ lg cs r ≤ 2 ^ tsum cs
  | [], _ => by simp [lg, tsum]
  | c :: cs, r => by
    have hp : (0 : Int) ≤ 2 ^ (c.1 + tsum cs) := Int.le_of_lt (Int.pow_pos (by omega))
    rw [lg, tsum]
    refine mxN_rg hp (fun i _ => ⟨Int.mul_nonneg (by omega) (lg_bh (cs := cs)).1, ?_⟩)
    rw [Int.pow_add]
    have h1 := ch_le c.1 (lo cs r + i)
    have h2 : ((ch c.1 (lo cs r + i) : Nat) : Int) ≤ 2 ^ c.1 := by exact_mod_cast h1
    have h3 : (0 : Int) ≤ 2 ^ c.1 := Int.le_of_lt (Int.pow_pos (by omega))
    exact Int.mul_le_mul h2 (lg_bh (cs := cs)).2 (lg_bh (cs := cs)).1 h3
theorem pow_60 {k : Nat} (h : k ≤ 60) : (2 : Int) ^ k ≤ 1152921504606846976 := by
  have h1 : (2 : Nat) ^ k ≤ 2 ^ 60 := Nat.pow_le_pow_right (by omega) h
  have h2 : ((2 ^ k : Nat) : Int) ≤ ((2 ^ 60 : Nat) : Int) := Int.ofNat_le.mpr h1
  rw [Int.natCast_pow] at h2
  exact Int.le_trans h2 (by decide)
