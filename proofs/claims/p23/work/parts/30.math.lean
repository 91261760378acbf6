/-! ===== sums, maxima, minima over a run of numbers; the tables of given margins ===== -/
def srN (f : Nat → Int) (a : Nat) : Nat → Int
  | 0 => 0
  | k + 1 => srN f a k + f (a + k)
def mxN (f : Nat → Int) (a : Nat) : Nat → Int
  | 0 => 0
  | k + 1 => max (mxN f a k) (f (a + k))
def mnN (M : Int) (f : Nat → Int) (a : Nat) : Nat → Int
  | 0 => M
  | k + 1 => min (mnN M f a k) (f (a + k))
theorem srN_congr {f g : Nat → Int} {a : Nat} : ∀ {k : Nat}, (∀ i, i < k → f (a + i) = g (a + i)) → srN f a k = srN g a k
  | 0, _ => rfl
  | k + 1, h => by rw [srN, srN, srN_congr (fun i hi => h i (by omega)), h k (by omega)]
theorem mxN_congr {f g : Nat → Int} {a : Nat} : ∀ {k : Nat}, (∀ i, i < k → f (a + i) = g (a + i)) → mxN f a k = mxN g a k
  | 0, _ => rfl
  | k + 1, h => by rw [mxN, mxN, mxN_congr (fun i hi => h i (by omega)), h k (by omega)]
theorem mnN_congr {M : Int} {f g : Nat → Int} {a : Nat} : ∀ {k : Nat}, (∀ i, i < k → f (a + i) = g (a + i)) → mnN M f a k = mnN M g a k
  | 0, _ => rfl
  | k + 1, h => by rw [mnN, mnN, mnN_congr (fun i hi => h i (by omega)), h k (by omega)]
theorem srN_add (f g : Nat → Int) (a : Nat) : ∀ k, srN (fun x => f x + g x) a k = srN f a k + srN g a k
  | 0 => rfl
  | k + 1 => by rw [srN, srN, srN, srN_add f g a k]; omega
theorem srN_mul (c : Int) (f : Nat → Int) (a : Nat) : ∀ k, srN (fun x => c * f x) a k = c * srN f a k
  | 0 => (Int.mul_zero c).symm
  | k + 1 => by rw [srN, srN, srN_mul c f a k, Int.mul_add]
theorem srN_zero {f : Nat → Int} {a : Nat} : ∀ {k : Nat}, (∀ i, i < k → f (a + i) = 0) → srN f a k = 0
  | 0, _ => rfl
  | k + 1, h => by rw [srN, srN_zero (fun i hi => h i (by omega)), h k (by omega)]; rfl
theorem srN_nn {f : Nat → Int} {a : Nat} : ∀ {k : Nat}, (∀ i, i < k → 0 ≤ f (a + i)) → 0 ≤ srN f a k
  | 0, _ => Int.le_refl 0
  | k + 1, h => by
    have h1 := srN_nn (k := k) (fun i hi => h i (by omega))
    have h2 := h k (by omega)
    rw [srN]
    omega
theorem srN_split (f : Nat → Int) (a m : Nat) : ∀ k, srN f a (m + k) = srN f a m + srN f (a + m) k
  | 0 => by rw [srN]; simp
  | k + 1 => by
    rw [show m + (k + 1) = (m + k) + 1 from rfl, srN, srN, srN_split f a m k, Nat.add_assoc]
    omega
theorem mxN_rg {f : Nat → Int} {a : Nat} {M : Int} (hM : 0 ≤ M) : ∀ {k : Nat}, (∀ i, i < k → 0 ≤ f (a + i) ∧ f (a + i) ≤ M) → 0 ≤ mxN f a k ∧ mxN f a k ≤ M
  | 0, _ => ⟨Int.le_refl 0, hM⟩
  | k + 1, h => by
    have h1 := mxN_rg hM (k := k) (fun i hi => h i (by omega))
    have h2 := h k (by omega)
    rw [mxN]
    omega
theorem mnN_rg {M : Int} {f : Nat → Int} {a : Nat} (hM : 0 ≤ M) : ∀ {k : Nat}, (∀ i, i < k → 0 ≤ f (a + i)) → 0 ≤ mnN M f a k ∧ mnN M f a k ≤ M
  | 0, _ => by rw [mnN]; omega
  | k + 1, h => by
    have h1 := mnN_rg hM (k := k) (fun i hi => h i (by omega))
    have h2 := h k (by omega)
    rw [mnN]
    omega
theorem mxN_ge {f : Nat → Int} {a : Nat} : ∀ {k i : Nat}, i < k → f (a + i) ≤ mxN f a k
  | 0, _, h => absurd h (Nat.not_lt_zero _)
  | k + 1, i, h => by
    rw [mxN]
    rcases Nat.lt_or_ge i k with q | q
    · have := mxN_ge (f := f) (a := a) q
      omega
    · rw [show i = k by omega]
      omega
theorem mnN_le {M : Int} {f : Nat → Int} {a : Nat} : ∀ {k i : Nat}, i < k → mnN M f a k ≤ f (a + i)
  | 0, _, h => absurd h (Nat.not_lt_zero _)
  | k + 1, i, h => by
    rw [mnN]
    rcases Nat.lt_or_ge i k with q | q
    · have := mnN_le (M := M) (f := f) (a := a) q
      omega
    · rw [show i = k by omega]
      omega
theorem mxN_is {f : Nat → Int} {a : Nat} : ∀ {k : Nat}, (∀ i, i < k → 0 ≤ f (a + i)) → 0 < k → ∃ i, i < k ∧ mxN f a k = f (a + i)
  | 0, _, h => absurd h (Nat.lt_irrefl 0)
  | k + 1, h, _ => by
    rw [mxN]
    rcases Nat.eq_zero_or_pos k with q | q
    · subst q
      have h0 := h 0 (by omega)
      exact ⟨0, by omega, by rw [mxN]; omega⟩
    · obtain ⟨i, h1, h2⟩ := mxN_is (fun i hi => h i (by omega)) q
      rcases Int.le_total (mxN f a k) (f (a + k)) with z | z
      · exact ⟨k, by omega, by omega⟩
      · exact ⟨i, by omega, by omega⟩
theorem mnN_is {M : Int} {f : Nat → Int} {a : Nat} : ∀ {k : Nat}, (∀ i, i < k → f (a + i) ≤ M) → 0 < k → ∃ i, i < k ∧ mnN M f a k = f (a + i)
  | 0, _, h => absurd h (Nat.lt_irrefl 0)
  | k + 1, h, _ => by
    rw [mnN]
    rcases Nat.eq_zero_or_pos k with q | q
    · subst q
      have h0 := h 0 (by omega)
      exact ⟨0, by omega, by rw [mnN]; omega⟩
    · obtain ⟨i, h1, h2⟩ := mnN_is (fun i hi => h i (by omega)) q
      rcases Int.le_total (mnN M f a k) (f (a + k)) with z | z
      · exact ⟨i, by omega, by omega⟩
      · exact ⟨k, by omega, by omega⟩
/-- columns: so many in all, the score -/
def tsum : List (Nat × Nat) → Nat
  | [] => 0
  | c :: cs => c.1 + tsum cs
/-- the least number of a column with r left for it and the columns cs behind it; how many numbers there are -/
def lo (cs : List (Nat × Nat)) (r : Nat) : Nat := r - tsum cs
def nn (c : Nat × Nat) (cs : List (Nat × Nat)) (r : Nat) : Nat := min c.1 r + 1 - (r - tsum cs)
def bh : List (Nat × Nat) → Nat → Int
  | [], _ => 1
  | c :: cs, r => srN (fun x => (ch c.1 x : Int) * bh cs (r - x)) (lo cs r) (nn c cs r)
def lg : List (Nat × Nat) → Nat → Int
  | [], _ => 1
  | c :: cs, r => mxN (fun x => (ch c.1 x : Int) * lg cs (r - x)) (lo cs r) (nn c cs r)
def sh : List (Nat × Nat) → Nat → Int
  | [], _ => 1
  | c :: cs, r => mnN 9223372036854775807 (fun x => (ch c.1 x : Int) * sh cs (r - x)) (lo cs r) (nn c cs r)
def tc : List (Nat × Nat) → Nat → Int
  | [], _ => 1
  | c :: cs, r => srN (fun x => tc cs (r - x)) (lo cs r) (nn c cs r)
def lk : List (Nat × Nat) → Nat → Int
  | [], _ => 0
  | c :: cs, r => srN (fun x => 1 + lk cs (r - x)) (lo cs r) (nn c cs r)
def les : List (Nat × Nat) → Nat → Int
  | [], _ => 0
  | c :: cs, r => mnN 540 (fun x => (x : Int) * (c.2 : Int) + les cs (r - x)) (lo cs r) (nn c cs r)
def grs : List (Nat × Nat) → Nat → Int
  | [], _ => 0
  | c :: cs, r => mxN (fun x => (x : Int) * (c.2 : Int) + grs cs (r - x)) (lo cs r) (nn c cs r)
def tb : List (Nat × Nat) → Nat → List (List Nat)
  | [], _ => [[]]
  | c :: cs, r => (List.range' (lo cs r) (nn c cs r)).flatMap (fun x => (tb cs (r - x)).map (fun u => x :: u))
/-- ways of a table, its sum -/
def wt : List (Nat × Nat) → List Nat → Int
  | c :: cs, x :: u => (ch c.1 x : Int) * wt cs u
  | _, _ => 1
def sc : List (Nat × Nat) → List Nat → Int
  | c :: cs, x :: u => (x : Int) * (c.2 : Int) + sc cs u
  | _, _ => 0
def sumL {α : Type} (f : α → Int) : List α → Int
  | [] => 0
  | u :: l => f u + sumL f l
theorem sumL_app {α : Type} (f : α → Int) : ∀ (l k : List α), sumL f (l ++ k) = sumL f l + sumL f k
  | [], k => by simp [sumL]
  | u :: l, k => by
    show f u + sumL f (l ++ k) = f u + sumL f l + sumL f k
    rw [sumL_app f l k]
    omega
theorem sumL_map {α β : Type} (f : β → Int) (h : α → β) : ∀ l : List α, sumL f (l.map h) = sumL (fun u => f (h u)) l
  | [] => rfl
  | u :: l => by
    show f (h u) + sumL f (l.map h) = f (h u) + sumL _ l
    rw [sumL_map f h l]
theorem sumL_mul {α : Type} (c : Int) (f : α → Int) : ∀ l : List α, sumL (fun u => c * f u) l = c * sumL f l
  | [] => (Int.mul_zero c).symm
  | u :: l => by
    show c * f u + sumL _ l = c * (f u + sumL f l)
    rw [sumL_mul c f l, Int.mul_add]
theorem sumL_congr {α : Type} {f g : α → Int} : ∀ {l : List α}, (∀ u ∈ l, f u = g u) → sumL f l = sumL g l
  | [], _ => rfl
  | u :: l, h => by
    show f u + sumL f l = g u + sumL g l
    rw [h u List.mem_cons_self, sumL_congr (fun v hv => h v (List.mem_cons_of_mem _ hv))]
theorem sumL_flat {α : Type} (f : α → Int) (F : Nat → List α) (a : Nat) : ∀ k, sumL f ((List.range' a k).flatMap F) = srN (fun x => sumL f (F x)) a k
  | 0 => rfl
  | k + 1 => by
    rw [List.range'_1_concat, List.flatMap_append, sumL_app, sumL_flat f F a k, srN]
    simp [sumL]
theorem bh_tb : ∀ (cs : List (Nat × Nat)) (r : Nat), bh cs r = sumL (wt cs) (tb cs r)
  | [], _ => by simp [bh, tb, sumL, wt]
  | c :: cs, r => by
    rw [bh, tb, sumL_flat]
    refine srN_congr fun i _ => ?_
    rw [sumL_map, bh_tb cs]
    show _ = sumL (fun u => (ch c.1 _ : Int) * wt cs u) _
    rw [sumL_mul]
theorem tc_tb : ∀ (cs : List (Nat × Nat)) (r : Nat), tc cs r = sumL (fun _ => 1) (tb cs r)
  | [], _ => by simp [tc, tb, sumL]
  | c :: cs, r => by
    rw [tc, tb, sumL_flat]
    refine srN_congr fun i _ => ?_
    rw [sumL_map, tc_tb cs]
theorem sumL_one {α : Type} : ∀ l : List α, sumL (fun _ => 1) l = (l.length : Int)
  | [] => rfl
  | u :: l => by
    show 1 + sumL _ l = _
    rw [sumL_one l, List.length_cons]
    omega
theorem tc_len (cs : List (Nat × Nat)) (r : Nat) : tc cs r = ((tb cs r).length : Int) := by rw [tc_tb, sumL_one]
/-- the numbers that a column may take -/
theorem rg_mem {c : Nat × Nat} {cs : List (Nat × Nat)} {r x : Nat} : x ∈ List.range' (lo cs r) (nn c cs r) ↔ r - tsum cs ≤ x ∧ x ≤ c.1 ∧ x ≤ r := by
  rw [List.mem_range'_1]
  unfold lo nn
  omega
theorem tb_cons {c : Nat × Nat} {cs : List (Nat × Nat)} {r : Nat} {w : List Nat} : w ∈ tb (c :: cs) r ↔ ∃ x u, w = x :: u ∧ r - tsum cs ≤ x ∧ x ≤ c.1 ∧ x ≤ r ∧ u ∈ tb cs (r - x) := by
  rw [tb, List.mem_flatMap]
  constructor
  · rintro ⟨x, hx, hw⟩
    obtain ⟨u, hu, rfl⟩ := List.mem_map.mp hw
    obtain ⟨h1, h2, h3⟩ := rg_mem.mp hx
    exact ⟨x, u, rfl, h1, h2, h3, hu⟩
  · rintro ⟨x, u, rfl, h1, h2, h3, hu⟩
    exact ⟨x, rg_mem.mpr ⟨h1, h2, h3⟩, List.mem_map.mpr ⟨u, hu, rfl⟩⟩
theorem ch_pos : ∀ {n k : Nat}, k ≤ n → 0 < ch n k
  | _, 0, _ => by rw [ch]; omega
  | 0, k + 1, h => absurd h (by omega)
  | n + 1, k + 1, h => by
    rw [ch]
    have := ch_pos (n := n) (k := k) (by omega)
    omega
theorem ch_le : ∀ (n k : Nat), ch n k ≤ 2 ^ n
  | n, 0 => by rw [ch]; exact Nat.one_le_two_pow
  | 0, k + 1 => by rw [ch]; omega
  | n + 1, k + 1 => by
    rw [ch, Nat.pow_succ]
    have := ch_le n k
    have := ch_le n (k + 1)
    omega
theorem ch_out : ∀ {n k : Nat}, n < k → ch n k = 0
  | 0, k + 1, _ => rfl
  | n + 1, k + 1, h => by rw [ch, ch_out (by omega), ch_out (by omega)]
  | _, 0, h => absurd h (Nat.not_lt_zero _)
