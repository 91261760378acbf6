/-! ===== the model's nets ===== -/
def MB (c : List Co) (kd j a : Nat) : Int := if a ≤ coR c ∧ coR c - a ≤ tsum (clL (coT c) (coV c) j (c.length - j)) then nvF kd (clL (coT c) (coV c) j (c.length - j)) (coR c - a) else 0
theorem MB_in {c : List Co} {kd j a : Nat} (h : a ≤ coR c ∧ coR c - a ≤ tsum (clL (coT c) (coV c) j (c.length - j))) : MB c kd j a = nvF kd (clL (coT c) (coV c) j (c.length - j)) (coR c - a) := if_pos h
theorem MB_out {c : List Co} {kd j a : Nat} (h : ¬ (a ≤ coR c ∧ coR c - a ≤ tsum (clL (coT c) (coV c) j (c.length - j)))) : MB c kd j a = 0 := if_neg h
theorem uZ_uZ (T : Int → Int) (z v w : Int) : uZ (uZ T z v) z w = uZ T z w := by
  funext i
  unfold uZ
  split <;> rfl
theorem tc_pos {cs : List (Nat × Nat)} {r : Nat} (h : r ≤ tsum cs) : 0 < tc cs r := by
  obtain ⟨l, e⟩ := tb_head h
  rw [tc_len, e, List.length_cons]
  omega
theorem sh_pos {cs : List (Nat × Nat)} {r : Nat} (h : r ≤ tsum cs) (h60 : tsum cs ≤ 60) : 0 < sh cs r := by
  obtain ⟨u, hu, e⟩ := sh_at h h60
  rw [← e]
  exact wt_pos hu
theorem ts60 {c : List Co} (hc : cok c) {j : Nat} : tsum (clL (coT c) (coV c) j (c.length - j)) ≤ 60 := by
  have h1 := hc.1
  by_cases h : j ≤ c.length
  · have := okT_ts (co_okT hc) (m := c.length - j) (j := j) (by omega)
    omega
  · rw [show c.length - j = 0 by omega]
    exact Nat.zero_le _
/-- what a cell of a node is, by its bounds -/
theorem MB_rg {c : List Co} (hc : cok c) (j a : Nat) : (0 ≤ MB c 1 j a ∧ MB c 1 j a ≤ 2 ^ tsum (clL (coT c) (coV c) j (c.length - j))) ∧ (0 ≤ MB c 2 j a ∧ MB c 2 j a ≤ 2 ^ tsum (clL (coT c) (coV c) j (c.length - j))) ∧ (0 ≤ MB c 3 j a ∧ MB c 3 j a ≤ 2 ^ tsum (clL (coT c) (coV c) j (c.length - j))) ∧ (0 ≤ MB c 4 j a ∧ MB c 4 j a ≤ 371293) ∧ (0 < MB c 4 j a ↔ (a ≤ coR c ∧ coR c - a ≤ tsum (clL (coT c) (coV c) j (c.length - j)))) ∧ (0 < MB c 4 j a → 0 < MB c 3 j a ∧ 0 < MB c 1 j a) := by
  have hp : (0 : Int) ≤ 2 ^ tsum (clL (coT c) (coV c) j (c.length - j)) := Int.le_of_lt (Int.pow_pos (by omega))
  by_cases h : a ≤ coR c ∧ coR c - a ≤ tsum (clL (coT c) (coV c) j (c.length - j))
  · rw [MB_in h, MB_in h, MB_in h, MB_in h]
    have h1 := bh_le (cs := clL (coT c) (coV c) j (c.length - j)) (r := coR c - a)
    have h2 := lg_bh (cs := clL (coT c) (coV c) j (c.length - j)) (r := coR c - a)
    have h3 := sh_le h.2
    have h4 := tc_pos h.2
    have h5 := sh_pos h.2 (ts60 hc)
    have h7 := bh_pos h.2
    have h6 : tc (clL (coT c) (coV c) j (c.length - j)) (coR c - a) ≤ 371293 := by
      by_cases hj : j ≤ c.length
      · exact (tc_rg (r := coR c - a) (co_okT hc) (show j + (c.length - j) ≤ c.length by omega)).2
      · rw [show c.length - j = 0 by omega, clL, tc]
        omega
    refine ⟨h1, h2, h3, ⟨Int.le_of_lt h4, h6⟩, ⟨fun _ => h, fun _ => h4⟩, fun _ => ⟨h5, h7⟩⟩
  · rw [MB_out h, MB_out h, MB_out h, MB_out h]
    exact ⟨⟨Int.le_refl 0, hp⟩, ⟨Int.le_refl 0, hp⟩, ⟨Int.le_refl 0, hp⟩, ⟨Int.le_refl 0, by omega⟩, ⟨fun q => absurd q (by omega), fun q => absurd q h⟩, fun q => absurd q (by omega)⟩
/-- a number's part in a node's sums -/
def mf (c : List Co) (kd j a : Nat) : Nat → Int := fun x => ((ch (coT c ((j : Nat) : Int)).toNat x : Nat) : Int) * MB c kd (j + 1) (a + x)
def mr (c : List Co) (j a : Nat) : Nat → Int := fun x => MB c 4 (j + 1) (a + x)
theorem mf_rg {c : List Co} (hc : cok c) {kd j a x : Nat} (hk : 1 ≤ kd ∧ kd ≤ 3) (hj : j < c.length) : 0 ≤ mf c kd j a x ∧ mf c kd j a x ≤ 1152921504606846976 := by
  obtain ⟨b1, b2, b3, -⟩ := MB_rg hc (j + 1) (a + x)
  have hb : 0 ≤ MB c kd (j + 1) (a + x) ∧ MB c kd (j + 1) (a + x) ≤ 2 ^ tsum (clL (coT c) (coV c) (j + 1) (c.length - (j + 1))) := by
    rcases (show kd = 1 ∨ kd = 2 ∨ kd = 3 by omega) with e | e | e <;> subst e <;> assumption
  have h2 := ch_le (coT c ((j : Nat) : Int)).toNat x
  have h3 : ((ch (coT c ((j : Nat) : Int)).toNat x : Nat) : Int) ≤ 2 ^ (coT c ((j : Nat) : Int)).toNat := by exact_mod_cast h2
  refine ⟨Int.mul_nonneg (by omega) hb.1, ?_⟩
  have h4 : mf c kd j a x ≤ 2 ^ (coT c ((j : Nat) : Int)).toNat * 2 ^ tsum (clL (coT c) (coV c) (j + 1) (c.length - (j + 1))) := Int.mul_le_mul h3 hb.2 hb.1 (Int.le_of_lt (Int.pow_pos (by omega)))
  rw [← Int.pow_add, ← ts_c hj] at h4
  have h5 := pow_60 (ts60 hc (j := j))
  omega
def stN (f : Nat → Int) : Nat → Int
  | 0 => 0
  | x + 1 => if 0 < f x then (if stN f x = 0 ∨ f x < stN f x then f x else stN f x) else stN f x
theorem stN_rg {f : Nat → Int} {M : Int} (hM : 0 ≤ M) : ∀ {k : Nat}, (∀ i, i < k → f i ≤ M) → 0 ≤ stN f k ∧ stN f k ≤ M
  | 0, _ => ⟨Int.le_refl 0, hM⟩
  | k + 1, h => by
    have h1 := stN_rg hM (k := k) (fun i hi => h i (by omega))
    have h2 := h k (by omega)
    rw [stN]
    split
    · split <;> omega
    · exact h1
theorem stN_zero {f : Nat → Int} : ∀ {k : Nat}, (∀ i, i < k → f i = 0) → stN f k = 0
  | 0, _ => rfl
  | k + 1, h => by rw [stN, if_neg (by rw [h k (by omega)]; omega), stN_zero (fun i hi => h i (by omega))]
theorem stN_in {f : Nat → Int} {l : Nat} (h0 : ∀ i, i < l → f i = 0) : ∀ {k : Nat}, (∀ i, i < k + 1 → 0 < f (l + i) ∧ f (l + i) ≤ 9223372036854775807) → stN f (l + (k + 1)) = mnN 9223372036854775807 f l (k + 1)
  | 0, h => by
    have h1 := h 0 (by omega)
    rw [show l + (0 + 1) = l + 1 from rfl, stN, stN_zero h0]
    rw [Nat.add_zero] at h1
    rw [if_pos h1.1, if_pos (Or.inl rfl), mnN, mnN, Nat.add_zero]
    omega
  | k + 1, h => by
    have ih := stN_in h0 (k := k) (fun i hi => h i (by omega))
    have h1 := h (k + 1) (by omega)
    have h2 : 0 < mnN 9223372036854775807 f l (k + 1) := by
      obtain ⟨i, hi, e⟩ := mnN_is (M := 9223372036854775807) (f := f) (a := l) (k := k + 1) (fun i hi => (h i (by omega)).2) (by omega)
      rw [e]
      exact (h i (by omega)).1
    rw [show l + (k + 1 + 1) = (l + (k + 1)) + 1 from rfl, stN, if_pos h1.1, ih]
    have e : mnN 9223372036854775807 f l (k + 1 + 1) = min (mnN 9223372036854775807 f l (k + 1)) (f (l + (k + 1))) := rfl
    rw [e]
    split <;> omega
theorem stN_after {f : Nat → Int} {l : Nat} : ∀ {k : Nat}, (∀ i, i < k → f (l + i) = 0) → stN f (l + k) = stN f l
  | 0, _ => rfl
  | k + 1, h => by rw [show l + (k + 1) = (l + k) + 1 from rfl, stN, if_neg (by rw [h k (by omega)]; omega), stN_after (fun i hi => h i (by omega))]
theorem srN_win {f : Nat → Int} {l m X : Nat} (h1 : ∀ i, i < l → f i = 0) (h2 : ∀ i, l + m ≤ i → i < X → f i = 0) (hX : l + m ≤ X) : srN f 0 X = srN f l m := by
  have e1 := srN_split f 0 l (X - l)
  rw [show l + (X - l) = X by omega, Nat.zero_add] at e1
  have e2 := srN_split f l m (X - l - m)
  rw [show m + (X - l - m) = X - l by omega] at e2
  rw [e1, e2, srN_zero (fun i hi => by rw [Nat.zero_add]; exact h1 i hi), srN_zero (a := l + m) (fun i hi => h2 _ (by omega) (by omega))]
  omega
theorem mxN_zero {f : Nat → Int} {a : Nat} : ∀ {k : Nat}, (∀ i, i < k → f (a + i) = 0) → mxN f a k = 0
  | 0, _ => rfl
  | k + 1, h => by rw [mxN, mxN_zero (fun i hi => h i (by omega)), h k (by omega)]; rfl
theorem mxN_split {f : Nat → Int} {a m : Nat} : ∀ {k : Nat}, mxN f a (m + k) = max (mxN f a m) (mxN f (a + m) k)
  | 0 => by
    rw [mxN]
    have : 0 ≤ mxN f a m := by
      induction m with
      | zero => exact Int.le_refl 0
      | succ m ih => rw [mxN]; omega
    rw [Nat.add_zero]
    omega
  | k + 1 => by
    rw [show m + (k + 1) = (m + k) + 1 from rfl, mxN, mxN, mxN_split (k := k), Nat.add_assoc]
    omega
theorem mxN_nn {f : Nat → Int} {a : Nat} : ∀ {k : Nat}, 0 ≤ mxN f a k
  | 0 => Int.le_refl 0
  | k + 1 => by
    have := mxN_nn (f := f) (a := a) (k := k)
    rw [mxN]
    omega
theorem mxN_win {f : Nat → Int} {l m X : Nat} (h1 : ∀ i, i < l → f i = 0) (h2 : ∀ i, l + m ≤ i → i < X → f i = 0) (hX : l + m ≤ X) : mxN f 0 X = mxN f l m := by
  have e1 := mxN_split (f := f) (a := 0) (m := l) (k := X - l)
  rw [show l + (X - l) = X by omega, Nat.zero_add] at e1
  have e2 := mxN_split (f := f) (a := l) (m := m) (k := X - l - m)
  rw [show m + (X - l - m) = X - l by omega] at e2
  have := mxN_nn (f := f) (a := l) (k := m)
  rw [e1, e2, mxN_zero (fun i hi => by rw [Nat.zero_add]; exact h1 i hi), mxN_zero (a := l + m) (fun i hi => h2 _ (by omega) (by omega))]
  omega
/-- a node's cells, all its numbers gone through -/
theorem MB_all {c : List Co} (hc : cok c) {j a X : Nat} (hj : j < c.length) (ha : a ≤ 60) (hX : X = min ((coT c ((j : Nat) : Int)).toNat + 1) (61 - a)) : srN (mf c 1 j a) 0 X = MB c 1 j a ∧ mxN (mf c 2 j a) 0 X = MB c 2 j a ∧ stN (mf c 3 j a) X = MB c 3 j a ∧ srN (mr c j a) 0 X = MB c 4 j a := by
  have hR : coR c ≤ 60 := by
    have := (coL_S hc).2
    omega
  have hts := ts_c (T := coT c) (V := coV c) hj
  have hz : ∀ x, ¬ (a + x ≤ coR c ∧ coR c - (a + x) ≤ tsum (clL (coT c) (coV c) (j + 1) (c.length - (j + 1)))) → (∀ kd, mf c kd j a x = 0) ∧ mr c j a x = 0 := fun x h => by
    refine ⟨fun kd => ?_, MB_out h⟩
    unfold mf
    rw [MB_out h, Int.mul_zero]
  by_cases h : a ≤ coR c ∧ coR c - a ≤ tsum (clL (coT c) (coV c) j (c.length - j))
  · -- the node is there
    have hlo : ∀ i, i < lo (clL (coT c) (coV c) (j + 1) (c.length - (j + 1))) (coR c - a) → (∀ kd, mf c kd j a i = 0) ∧ mr c j a i = 0 := fun i hi => hz i (fun q => by unfold lo at hi; omega)
    have hnn : lo (clL (coT c) (coV c) (j + 1) (c.length - (j + 1))) (coR c - a) + nn ((coT c ((j : Nat) : Int)).toNat, (coV c ((j : Nat) : Int)).toNat) (clL (coT c) (coV c) (j + 1) (c.length - (j + 1))) (coR c - a) = min (coT c ((j : Nat) : Int)).toNat (coR c - a) + 1 := by
      unfold nn lo
      have := h.2
      omega
    have hhi : ∀ i, lo (clL (coT c) (coV c) (j + 1) (c.length - (j + 1))) (coR c - a) + nn ((coT c ((j : Nat) : Int)).toNat, (coV c ((j : Nat) : Int)).toNat) (clL (coT c) (coV c) (j + 1) (c.length - (j + 1))) (coR c - a) ≤ i → i < X → (∀ kd, mf c kd j a i = 0) ∧ mr c j a i = 0 := fun i h1 h2 => hz i (fun q => by omega)
    have hle : lo (clL (coT c) (coV c) (j + 1) (c.length - (j + 1))) (coR c - a) + nn ((coT c ((j : Nat) : Int)).toNat, (coV c ((j : Nat) : Int)).toNat) (clL (coT c) (coV c) (j + 1) (c.length - (j + 1))) (coR c - a) ≤ X := by omega
    have hin : ∀ i, i < nn ((coT c ((j : Nat) : Int)).toNat, (coV c ((j : Nat) : Int)).toNat) (clL (coT c) (coV c) (j + 1) (c.length - (j + 1))) (coR c - a) → ∀ kd, MB c kd (j + 1) (a + (lo (clL (coT c) (coV c) (j + 1) (c.length - (j + 1))) (coR c - a) + i)) = nvF kd (clL (coT c) (coV c) (j + 1) (c.length - (j + 1))) (coR c - a - (lo (clL (coT c) (coV c) (j + 1) (c.length - (j + 1))) (coR c - a) + i)) := fun i hi kd => by
      obtain ⟨n1, n2, n3⟩ := nn_x hi
      rw [MB_in ⟨by omega, by omega⟩, show coR c - (a + (lo (clL (coT c) (coV c) (j + 1) (c.length - (j + 1))) (coR c - a) + i)) = coR c - a - (lo (clL (coT c) (coV c) (j + 1) (c.length - (j + 1))) (coR c - a) + i) by omega]
    have hn0 : 0 < nn ((coT c ((j : Nat) : Int)).toNat, (coV c ((j : Nat) : Int)).toNat) (clL (coT c) (coV c) (j + 1) (c.length - (j + 1))) (coR c - a) := by
      unfold nn
      have := h.2
      show 0 < min (coT c ((j : Nat) : Int)).toNat (coR c - a) + 1 - (coR c - a - _)
      omega
    rw [MB_in h, MB_in h, MB_in h, MB_in h, clL_c hj]
    refine ⟨?_, ?_, ?_, ?_⟩
    · rw [srN_win (fun i hi => (hlo i hi).1 1) (fun i h1 h2 => (hhi i h1 h2).1 1) hle]
      refine srN_congr (fun i hi => ?_)
      unfold mf
      rw [hin i hi]
      rfl
    · rw [mxN_win (fun i hi => (hlo i hi).1 2) (fun i h1 h2 => (hhi i h1 h2).1 2) hle]
      refine mxN_congr (fun i hi => ?_)
      unfold mf
      rw [hin i hi]
      rfl
    · obtain ⟨m, hm⟩ : ∃ m, nn ((coT c ((j : Nat) : Int)).toNat, (coV c ((j : Nat) : Int)).toNat) (clL (coT c) (coV c) (j + 1) (c.length - (j + 1))) (coR c - a) = m + 1 := ⟨_, (Nat.succ_pred_eq_of_pos hn0).symm⟩
      rw [show X = (lo (clL (coT c) (coV c) (j + 1) (c.length - (j + 1))) (coR c - a) + nn ((coT c ((j : Nat) : Int)).toNat, (coV c ((j : Nat) : Int)).toNat) (clL (coT c) (coV c) (j + 1) (c.length - (j + 1))) (coR c - a)) + (X - (lo (clL (coT c) (coV c) (j + 1) (c.length - (j + 1))) (coR c - a) + nn ((coT c ((j : Nat) : Int)).toNat, (coV c ((j : Nat) : Int)).toNat) (clL (coT c) (coV c) (j + 1) (c.length - (j + 1))) (coR c - a))) by omega, stN_after (fun i hi => (hhi _ (by omega) (by omega)).1 3)]
      show _ = sh (_ :: _) _
      rw [sh, hm]
      rw [hm] at hin
      rw [stN_in (fun i hi => (hlo i hi).1 3) (fun i hi => by
        have hn1 : i < nn ((coT c ((j : Nat) : Int)).toNat, (coV c ((j : Nat) : Int)).toNat) (clL (coT c) (coV c) (j + 1) (c.length - (j + 1))) (coR c - a) := by omega
        obtain ⟨n1, n2, n3⟩ := nn_x hn1
        have hb := mf_rg hc (kd := 3) (a := a) (x := lo (clL (coT c) (coV c) (j + 1) (c.length - (j + 1))) (coR c - a) + i) (by omega) hj
        refine ⟨?_, by omega⟩
        unfold mf
        have q1 := ch_pos (n := (coT c ((j : Nat) : Int)).toNat) (k := lo (clL (coT c) (coV c) (j + 1) (c.length - (j + 1))) (coR c - a) + i) n1
        have q2 := (MB_rg hc (j + 1) (a + (lo (clL (coT c) (coV c) (j + 1) (c.length - (j + 1))) (coR c - a) + i))).2.2.2.2
        exact Int.mul_pos (by omega) (q2.2 (q2.1.mpr ⟨by omega, by omega⟩)).1)]
      refine mnN_congr (fun i hi => ?_)
      unfold mf
      rw [hin i hi]
      rfl
    · rw [srN_win (fun i hi => (hlo i hi).2) (fun i h1 h2 => (hhi i h1 h2).2) hle]
      refine srN_congr (fun i hi => ?_)
      unfold mr
      rw [hin i hi]
      rfl
  · have hall : ∀ i, i < X → (∀ kd, mf c kd j a i = 0) ∧ mr c j a i = 0 := fun i hi => hz i (fun q => h (by omega))
    rw [MB_out h, MB_out h, MB_out h, MB_out h]
    exact ⟨srN_zero (fun i hi => by rw [Nat.zero_add]; exact (hall i hi).1 1), mxN_zero (fun i hi => by rw [Nat.zero_add]; exact (hall i hi).1 2), stN_zero (fun i hi => (hall i hi).1 3), srN_zero (fun i hi => by rw [Nat.zero_add]; exact (hall i hi).2)⟩
theorem MB_end {c : List Co} {kd a : Nat} (hk : 1 ≤ kd ∧ kd ≤ 4) : MB c kd c.length a = if a = coR c then 1 else 0 := by
  unfold MB
  rw [Nat.sub_self, clL, tsum]
  by_cases h : a = coR c
  · rw [if_pos (by omega), if_pos h]
    rcases (show kd = 1 ∨ kd = 2 ∨ kd = 3 ∨ kd = 4 by omega) with e | e | e | e <;> subst e <;> rfl
  · rw [if_neg (by omega), if_neg h]
/-- rows of nodes, from row m on; of the row ahead of it the first cells -/
def NBm (c : List Co) (Be Lo Sh Ro : Int → Int) (m : Nat) : Prop := ∀ j : Nat, m ≤ j → j ≤ c.length → ∀ y : Nat, y ≤ 60 → Be (61 * ((j : Nat) : Int) + ((y : Nat) : Int)) = MB c 1 j y ∧ Lo (61 * ((j : Nat) : Int) + ((y : Nat) : Int)) = MB c 2 j y ∧ Sh (61 * ((j : Nat) : Int) + ((y : Nat) : Int)) = MB c 3 j y ∧ Ro (61 * ((j : Nat) : Int) + ((y : Nat) : Int)) = MB c 4 j y
def NBr2 (c : List Co) (Be Lo Sh Ro : Int → Int) (j al : Nat) : Prop := ∀ y : Nat, y < al → Be (61 * ((j : Nat) : Int) + ((y : Nat) : Int)) = MB c 1 j y ∧ Lo (61 * ((j : Nat) : Int) + ((y : Nat) : Int)) = MB c 2 j y ∧ Sh (61 * ((j : Nat) : Int) + ((y : Nat) : Int)) = MB c 3 j y ∧ Ro (61 * ((j : Nat) : Int) + ((y : Nat) : Int)) = MB c 4 j y
theorem NBm_up {c : List Co} {Be Lo Sh Ro : Int → Int} {m j a : Nat} {v1 v2 v3 v4 : Int} (h : NBm c Be Lo Sh Ro m) (hj : j < m) (ha : a ≤ 60) : NBm c (uZ Be (61 * ((j : Nat) : Int) + ((a : Nat) : Int)) v1) (uZ Lo (61 * ((j : Nat) : Int) + ((a : Nat) : Int)) v2) (uZ Sh (61 * ((j : Nat) : Int) + ((a : Nat) : Int)) v3) (uZ Ro (61 * ((j : Nat) : Int) + ((a : Nat) : Int)) v4) m := fun i h1 h2 y hy => by
  rw [uZ_ne (by omega), uZ_ne (by omega), uZ_ne (by omega), uZ_ne (by omega)]
  exact h i h1 h2 y hy
theorem NBr2_up {c : List Co} {Be Lo Sh Ro : Int → Int} {j a : Nat} {v1 v2 v3 v4 : Int} (h : NBr2 c Be Lo Sh Ro j a) (h1 : v1 = MB c 1 j a) (h2 : v2 = MB c 2 j a) (h3 : v3 = MB c 3 j a) (h4 : v4 = MB c 4 j a) : NBr2 c (uZ Be (61 * ((j : Nat) : Int) + ((a : Nat) : Int)) v1) (uZ Lo (61 * ((j : Nat) : Int) + ((a : Nat) : Int)) v2) (uZ Sh (61 * ((j : Nat) : Int) + ((a : Nat) : Int)) v3) (uZ Ro (61 * ((j : Nat) : Int) + ((a : Nat) : Int)) v4) j (a + 1) := fun y hy => by
  by_cases hq : y = a
  · subst hq
    rw [uZ_same, uZ_same, uZ_same, uZ_same]
    exact ⟨h1, h2, h3, h4⟩
  · rw [uZ_ne (by omega), uZ_ne (by omega), uZ_ne (by omega), uZ_ne (by omega)]
    exact h y (by omega)
theorem NBm_row {c : List Co} {Be Lo Sh Ro : Int → Int} {j : Nat} (h : NBm c Be Lo Sh Ro (j + 1)) (h2 : NBr2 c Be Lo Sh Ro j 61) : NBm c Be Lo Sh Ro j := fun i h3 h4 y hy => by
  by_cases hq : i = j
  · subst hq
    exact h2 y (by omega)
  · exact h i (by omega) h4 y hy
theorem NBm_end {c : List Co} {Be Lo Sh Ro : Int → Int} (h2 : NBr2 c Be Lo Sh Ro c.length 61) : NBm c Be Lo Sh Ro c.length := fun i h3 h4 y hy => by
  rw [show i = c.length by omega]
  exact h2 y (by omega)
/-! ahead -/
theorem srN_left (f : Nat → Int) (a : Nat) : ∀ k : Nat, srN f a (k + 1) = f a + srN f (a + 1) k
  | 0 => by
    rw [srN, srN, srN, Nat.add_zero]
    omega
  | k + 1 => by
    rw [srN, srN_left f a k, srN, show a + 1 + k = a + (k + 1) by omega]
    omega
theorem srN_shift (f : Nat → Int) (a : Nat) : ∀ k : Nat, srN f (a + 1) k = srN (fun i => f (i + 1)) a k
  | 0 => rfl
  | k + 1 => by
    rw [srN, srN, srN_shift f a k]
    congr 2
    omega
theorem srN_rev (G : Nat → Int) : ∀ y : Nat, srN G 0 (y + 1) = srN (fun a => G (y - a)) 0 (y + 1)
  | 0 => rfl
  | y + 1 => by
    rw [srN, srN_rev G y, srN_left (fun a => G (y + 1 - a)) 0 (y + 1), Nat.zero_add, srN_shift]
    have e : srN (fun a => G (y - a)) 0 (y + 1) = srN (fun i => G (y + 1 - (i + 1))) 0 (y + 1) := srN_congr (fun i _ => by
      show G (y - (0 + i)) = G (y + 1 - (0 + i + 1))
      congr 1
      omega)
    rw [e]
    exact Int.add_comm _ _
/-- what has come to (j+1, y) from the cells a' < a of row j -/
def paJ (c : List Co) (j a y : Nat) : Int := srN (fun b => if b ≤ y ∧ y - b ≤ (coT c ((j : Nat) : Int)).toNat then ah (clR (coT c) (coV c) j) b * ((ch (coT c ((j : Nat) : Int)).toNat (y - b) : Nat) : Int) else 0) 0 a
theorem paJ_all {c : List Co} {j y : Nat} (hy : y ≤ 60) : paJ c j 61 y = ah (clR (coT c) (coV c) (j + 1)) y := by
  unfold paJ
  have h1 := srN_win (f := fun b => if b ≤ y ∧ y - b ≤ (coT c ((j : Nat) : Int)).toNat then ah (clR (coT c) (coV c) j) b * ((ch (coT c ((j : Nat) : Int)).toNat (y - b) : Nat) : Int) else 0) (l := 0) (m := y + 1) (X := 61) (fun i hi => absurd hi (Nat.not_lt_zero _)) (fun i h1 h2 => if_neg (by omega)) (by omega)
  rw [h1]
  have h2 := srN_rev (fun x => if x ≤ (coT c ((j : Nat) : Int)).toNat then ah (clR (coT c) (coV c) j) (y - x) * ((ch (coT c ((j : Nat) : Int)).toNat x : Nat) : Int) else 0) y
  have h3 : srN (fun b => if b ≤ y ∧ y - b ≤ (coT c ((j : Nat) : Int)).toNat then ah (clR (coT c) (coV c) j) b * ((ch (coT c ((j : Nat) : Int)).toNat (y - b) : Nat) : Int) else 0) 0 (y + 1) = srN (fun a => (fun x => if x ≤ (coT c ((j : Nat) : Int)).toNat then ah (clR (coT c) (coV c) j) (y - x) * ((ch (coT c ((j : Nat) : Int)).toNat x : Nat) : Int) else 0) (y - a)) 0 (y + 1) := srN_congr (fun i hi => by
    show (if 0 + i ≤ y ∧ y - (0 + i) ≤ _ then _ else _) = (if y - (0 + i) ≤ _ then _ else _)
    rw [show y - (y - (0 + i)) = 0 + i by omega]
    by_cases q : y - (0 + i) ≤ (coT c ((j : Nat) : Int)).toNat
    · rw [if_pos ⟨by omega, q⟩, if_pos q]
    · rw [if_neg (fun z => q z.2), if_neg q])
  rw [h3, ← h2, clR, ah]
  show _ = srN (fun x => (ch (coT c ((j : Nat) : Int)).toNat x : Int) * (if x ≤ y then ah (clR (coT c) (coV c) j) (y - x) else 0)) 0 ((coT c ((j : Nat) : Int)).toNat + 1)
  have key : ∀ f g : Nat → Int, ∀ a b : Nat, (∀ i, i < a → i < b → f i = g i) → (∀ i, b ≤ i → i < a → f i = 0) → (∀ i, a ≤ i → i < b → g i = 0) → srN f 0 a = srN g 0 b := by
    intro f g a b k1 k2 k3
    rcases Nat.le_total a b with q | q
    · have e := srN_split g 0 a (b - a)
      rw [show a + (b - a) = b by omega, Nat.zero_add] at e
      rw [e, srN_zero (a := a) (fun i hi => k3 _ (by omega) (by omega)), Int.add_zero]
      exact srN_congr (fun i hi => by rw [Nat.zero_add]; exact k1 i hi (by omega))
    · have e := srN_split f 0 b (a - b)
      rw [show b + (a - b) = a by omega, Nat.zero_add] at e
      rw [e, srN_zero (a := b) (fun i hi => k2 _ (by omega) (by omega)), Int.add_zero]
      exact srN_congr (fun i hi => by rw [Nat.zero_add]; exact k1 i (by omega) hi)
  refine key _ _ _ _ (fun i h4 h5 => ?_) (fun i h4 h5 => if_neg (by omega)) (fun i h4 h5 => ?_)
  · show (if i ≤ _ then _ else _) = _ * (if i ≤ y then _ else _)
    rw [if_pos (by omega), if_pos (by omega)]
    exact Int.mul_comm _ _
  · show _ * (if i ≤ y then _ else _) = 0
    rw [if_neg (by omega), Int.mul_zero]
theorem ah_rg : ∀ {cs : List (Nat × Nat)} {a : Nat}, 0 ≤ ah cs a ∧ (0 < ah cs a → a ≤ tsum cs) ∧ (a ≤ tsum cs → 0 < ah cs a)
  | [], a => by
    rw [ah, tsum]
    split <;> omega
  | c :: cs, a => by
    have hn : ∀ i, i < c.1 + 1 → 0 ≤ (fun x => (ch c.1 x : Int) * (if x ≤ a then ah cs (a - x) else 0)) (0 + i) := fun i _ => by
      refine Int.mul_nonneg (by omega) ?_
      split
      · exact ah_rg.1
      · exact Int.le_refl 0
    refine ⟨by rw [ah]; exact srN_nn hn, fun h => ?_, fun h => ?_⟩
    · rcases Nat.lt_or_ge (tsum (c :: cs)) a with q | q
      · rw [ah_zero q] at h
        exact absurd h (by omega)
      · exact q
    · rw [tsum] at h
      rw [ah]
      have h1 := pos_srN (f := fun x => (ch c.1 x : Int) * (if x ≤ a then ah cs (a - x) else 0)) hn (i := min c.1 a) (by omega)
      have h2 : 0 < (fun x => (ch c.1 x : Int) * (if x ≤ a then ah cs (a - x) else 0)) (0 + min c.1 a) := by
        show 0 < (ch c.1 (0 + min c.1 a) : Int) * (if 0 + min c.1 a ≤ a then ah cs (a - (0 + min c.1 a)) else 0)
        rw [if_pos (by omega)]
        have q1 := ch_pos (n := c.1) (k := 0 + min c.1 a) (by omega)
        exact Int.mul_pos (by omega) ((ah_rg (cs := cs) (a := a - (0 + min c.1 a))).2.2 (by omega))
      exact Int.lt_of_lt_of_le h2 h1
/-- what a node of the class is, by the model's cells -/
theorem NV_MB {c : List Co} {j a : Nat} (hj : j ≤ c.length) (ha : a ≤ coR c) : (0 < NV (coT c) (coV c) c.length (coR c) 1 j a ↔ (0 < ah (clR (coT c) (coV c) j) a ∧ 0 < MB c 1 j a)) ∧ (0 < NV (coT c) (coV c) c.length (coR c) 1 j a → NV (coT c) (coV c) c.length (coR c) 0 j a = ah (clR (coT c) (coV c) j) a ∧ ∀ kd, 0 < kd → NV (coT c) (coV c) c.length (coR c) kd j a = MB c kd j a) := by
  have h1 := ah_rg (cs := clR (coT c) (coV c) j) (a := a)
  rw [ts_R] at h1
  by_cases h : thr (coT c) (coV c) c.length (coR c) j a
  · have hm : a ≤ coR c ∧ coR c - a ≤ tsum (clL (coT c) (coV c) j (c.length - j)) := ⟨h.2.1, h.2.2.2⟩
    have h2 := bh_pos h.2.2.2
    refine ⟨?_, fun _ => ⟨NV_in0 h, fun kd hk => by rw [NV_in h hk, MB_in hm]⟩⟩
    rw [NV_in h (by omega), MB_in hm]
    exact ⟨fun q => ⟨h1.2.2 h.2.2.1, q⟩, fun q => q.2⟩
  · rw [NV_out h]
    refine ⟨⟨fun q => absurd q (by omega), fun q => absurd ?_ h⟩, fun q => absurd q (by omega)⟩
    by_cases hm : a ≤ coR c ∧ coR c - a ≤ tsum (clL (coT c) (coV c) j (c.length - j))
    · exact ⟨hj, ha, h1.2.1 q.1, hm.2⟩
    · have := q.2
      rw [MB_out hm] at this
      exact absurd this (by omega)
