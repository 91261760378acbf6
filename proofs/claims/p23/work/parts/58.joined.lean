/-! ===== strata joined ===== -/
noncomputable def jW (cs : Nat → List Co) : Nat → Int → Int
  | 0, y => if y = 0 then 1 else 0
  | k + 1, y => sumL (fun u => wt (coL (cs k)) u * jW cs k (y - sc (coL (cs k)) u)) (tb (coL (cs k)) (coR (cs k)))
def jA (cs : Nat → List Co) : Nat → Int
  | 0 => 1
  | k + 1 => jA cs k * bh (coL (cs k)) (coR (cs k))
def jS (cs : Nat → List Co) : Nat → Int
  | 0 => 0
  | k + 1 => jS cs k + coS (cs k)
def jG (cs : Nat → List Co) : Nat → Int
  | 0 => 0
  | k + 1 => jG cs k + grs (coL (cs k)) (coR (cs k))
theorem grs_540 {c : List Co} (hc : cok c) : 0 ≤ les (coL c) (coR c) ∧ les (coL c) (coR c) ≤ grs (coL c) (coR c) ∧ grs (coL c) (coR c) ≤ 540 := by
  obtain ⟨h1, h2, h3, h4⟩ := coL_S hc
  obtain ⟨u, hu, -⟩ := lg_at h3
  have h5 := sc_les hu
  have h6 := les_rg (cs := coL c) (r := coR c)
  have h7 := grs_rg (r := coR c) h1
  omega
theorem jG_rg {cs : Nat → List Co} : ∀ {k : Nat}, (∀ i, i < k → cok (cs i)) → 0 ≤ jG cs k ∧ jG cs k ≤ 540 * k
  | 0, _ => by rw [jG]; omega
  | k + 1, h => by
    have h1 := jG_rg (k := k) (fun i hi => h i (by omega))
    have h2 := grs_540 (h k (by omega))
    rw [jG]
    omega
theorem jA_pos {cs : Nat → List Co} : ∀ {k : Nat}, (∀ i, i < k → cok (cs i)) → 1 ≤ jA cs k
  | 0, _ => by rw [jA]; omega
  | k + 1, h => by
    have h1 := jA_pos (k := k) (fun i hi => h i (by omega))
    have h2 := (stW_bd (h k (by omega)) 0).2.2.1
    have h3 : 0 < jA cs k * bh (coL (cs k)) (coR (cs k)) := Int.mul_pos (by omega) h2
    rw [jA]
    omega
theorem jA_le {cs : Nat → List Co} {k : Nat} : ∀ {m : Nat}, (∀ i, i < k + m → cok (cs i)) → jA cs k ≤ jA cs (k + m)
  | 0, _ => Int.le_refl _
  | m + 1, h => by
    have h1 := jA_le (k := k) (m := m) (fun i hi => h i (by omega))
    have h2 := (stW_bd (h (k + m) (by omega)) 0).2.2.1
    have h3 := jA_pos (k := k + m) (fun i hi => h i (by omega))
    have h4 : jA cs (k + m) * 1 ≤ jA cs (k + m) * bh (coL (cs (k + m))) (coR (cs (k + m))) := Int.mul_le_mul_of_nonneg_left (by omega) (by omega)
    show _ ≤ jA cs (k + m) * bh (coL (cs (k + m))) (coR (cs (k + m)))
    omega
theorem jW_nn {cs : Nat → List Co} : ∀ (k : Nat) (y : Int), 0 ≤ jW cs k y
  | 0, y => by
    rw [jW]
    split <;> omega
  | k + 1, y => by
    rw [jW]
    exact sumL_nn (fun u hu => Int.mul_nonneg (Int.le_of_lt (wt_pos hu)) (jW_nn k _))
theorem jW_out {cs : Nat → List Co} : ∀ {k : Nat} {y : Int}, (∀ i, i < k → cok (cs i)) → (y < 0 ∨ jG cs k < y) → jW cs k y = 0
  | 0, y, _, h => by
    rw [jG] at h
    rw [jW, if_neg (by omega)]
  | k + 1, y, hc, h => by
    rw [jG] at h
    rw [jW]
    refine sumL_zero (fun u hu => ?_)
    have h1 := sc_les hu
    have h2 := grs_540 (hc k (by omega))
    rw [jW_out (k := k) (fun i hi => hc i (by omega)) (by omega), Int.mul_zero]
theorem sm_sumL {α : Type} {F : α → Int → Int} : ∀ {l : List α} {n : Nat}, sm (fun a => sumL (fun u => F u a) l) n = sumL (fun u => sm (F u) n) l
  | [], n => sm_zero (fun _ _ _ => rfl)
  | u :: l, n => by
    show sm (fun a => F u a + sumL (fun u => F u a) l) n = sm (F u) n + sumL (fun u => sm (F u) n) l
    rw [sm_add, sm_sumL]
theorem sm_cmul (c : Int) (f : Int → Int) : ∀ k : Nat, sm (fun y => c * f y) k = c * sm f k
  | 0 => (Int.mul_zero c).symm
  | k + 1 => by
    rw [sm_1, sm_1, sm_cmul c f k, Int.mul_add]
theorem sm_cut {f : Int → Int} {n : Nat} : ∀ {m : Nat}, (∀ i : Int, (n : Int) ≤ i → f i = 0) → sm f (n + m) = sm f n
  | 0, _ => rfl
  | m + 1, h => by
    rw [show n + (m + 1) = (n + m) + 1 from rfl, sm_1, sm_cut h, h _ (by omega)]
    omega
theorem sm_shift {f : Int → Int} {z : Nat} (h : ∀ i : Int, i < 0 → f i = 0) : ∀ {n : Nat}, sm (fun y => f (y - z)) (z + n) = sm f n
  | 0 => sm_zero (fun i h1 h2 => h _ (by omega))
  | n + 1 => by
    rw [show z + (n + 1) = (z + n) + 1 from rfl, sm_1, sm_1, sm_shift h, show (((z + n : Nat)) : Int) - z = n by omega]
theorem jW_sum {cs : Nat → List Co} : ∀ {k : Nat} {n : Nat}, (∀ i, i < k → cok (cs i)) → jG cs k < n → sm (jW cs k) n = jA cs k
  | 0, n, _, h => by
    rw [jG] at h
    have e : sm (jW cs 0) n = jW cs 0 0 := sm_one (z := 0) (fun i hi => by rw [jW, if_neg hi]) (by omega) (by omega)
    rw [e, jW, if_pos rfl]
    rfl
  | k + 1, n, hc, h => by
    rw [jG] at h
    have hk := grs_540 (hc k (by omega))
    have hg := jG_rg (k := k) (fun i hi => hc i (by omega))
    have e : jW cs (k + 1) = fun y => sumL (fun u => wt (coL (cs k)) u * jW cs k (y - sc (coL (cs k)) u)) (tb (coL (cs k)) (coR (cs k))) := by
      funext y
      rw [jW]
    rw [e, sm_sumL, jA, bh_tb, ← sumL_mul]
    refine sumL_congr (fun u hu => ?_)
    have h1 := sc_les hu
    obtain ⟨z, hz⟩ := Int.eq_ofNat_of_zero_le (show 0 ≤ sc (coL (cs k)) u by omega)
    rw [sm_cmul, hz, show n = z + (n - z) by omega, sm_shift (fun i hi => jW_out (fun i hi => hc i (by omega)) (Or.inl hi)), jW_sum (fun i hi => hc i (by omega)) (by omega)]
    exact Int.mul_comm _ _
theorem sm_term {f : Int → Int} : ∀ {n : Nat} {i : Int}, (∀ j : Int, 0 ≤ j → j < n → 0 ≤ f j) → 0 ≤ i → i < n → f i ≤ sm f n ∧ 0 ≤ sm f n
  | 0, i, _, h1, h2 => absurd h2 (by omega)
  | n + 1, i, h, h1, h2 => by
    rw [sm_1]
    have h0 := h (n : Int) (by omega) (by omega)
    have hn : 0 ≤ sm f n := by
      rcases Nat.eq_zero_or_pos n with q | q
      · subst q
        exact Int.le_refl 0
      · exact (sm_term (n := n) (i := 0) (fun j h3 h4 => h j h3 (by omega)) (by omega) (by omega)).2
    by_cases hi : i = n
    · subst hi
      omega
    · have := (sm_term (n := n) (i := i) (fun j h3 h4 => h j h3 (by omega)) h1 (by omega)).1
      omega
theorem jW_le {cs : Nat → List Co} {k : Nat} (h : ∀ i, i < k → cok (cs i)) {y : Int} (h1 : 0 ≤ y) : jW cs k y ≤ jA cs k := by
  have hg := jG_rg h
  rcases Classical.em (y ≤ jG cs k) with q | q
  · have h2 := (sm_term (f := jW cs k) (n := (jG cs k).toNat + 1) (i := y) (fun j _ _ => jW_nn k j) h1 (by omega)).1
    rw [jW_sum h (by omega)] at h2
    exact h2
  · rw [jW_out h (by omega)]
    have := jA_pos h
    omega
theorem cv_jW {cs : Nat → List Co} {k : Nat} {W Ws : Int → Int} {y : Int} (hc : ∀ i, i < k + 1 → cok (cs i)) (hW : ∀ a : Int, 0 ≤ a → a ≤ jG cs k → W a = jW cs k a) (hs : ∀ z : Int, 0 ≤ z → z ≤ 540 → Ws z = swF (coL (cs k)) (coR (cs k)) z) : sm (cvT W Ws (les (coL (cs k)) (coR (cs k))) (grs (coL (cs k)) (coR (cs k))) y) ((jG cs k).toNat + 1) = jW cs (k + 1) y := by
  have hk := grs_540 (hc k (by omega))
  have hg := jG_rg (k := k) (fun i hi => hc i (by omega))
  have e1 : sm (cvT W Ws (les (coL (cs k)) (coR (cs k))) (grs (coL (cs k)) (coR (cs k))) y) ((jG cs k).toNat + 1) = sm (fun a => sumL (fun u => if sc (coL (cs k)) u = y - a then wt (coL (cs k)) u * jW cs k a else 0) (tb (coL (cs k)) (coR (cs k)))) ((jG cs k).toNat + 1) := by
    refine sm_congr (fun a h1 h2 => ?_)
    unfold cvT
    by_cases h3 : les (coL (cs k)) (coR (cs k)) ≤ y - a ∧ y - a ≤ grs (coL (cs k)) (coR (cs k))
    · rw [if_pos h3, hW a h1 (by omega), hs _ (by omega) (by omega)]
      unfold swF
      rw [sW_tb, ← sumL_mul]
      refine sumL_congr (fun u _ => ?_)
      rw [Int.zero_add, Int.one_mul]
      by_cases h4 : sc (coL (cs k)) u = y - a
      · rw [if_pos h4, if_pos h4, Int.mul_comm]
      · rw [if_neg h4, if_neg h4, Int.mul_zero]
    · rw [if_neg h3]
      refine (sumL_zero (fun u hu => ?_)).symm
      have h5 := sc_les hu
      rw [if_neg (fun q => h3 (by omega))]
  rw [e1, sm_sumL, jW]
  refine sumL_congr (fun u hu => ?_)
  have h5 := sc_les hu
  by_cases h6 : 0 ≤ y - sc (coL (cs k)) u ∧ y - sc (coL (cs k)) u ≤ jG cs k
  · rw [sm_one (z := y - sc (coL (cs k)) u) (fun i hi => if_neg (fun q => hi (by omega))) h6.1 (by omega), if_pos (by omega)]
  · rw [jW_out (k := k) (fun i hi => hc i (by omega)) (by omega), Int.mul_zero]
    refine sm_zero (fun a h1 h2 => if_neg (fun q => h6 (by omega)))
theorem bw_c2 {W F : Int → Int} {law seen : Int} {n : Nat} (h : ∀ y : Int, 0 ≤ y → y < n → W y = F y) : sm (bw W law seen) n = sm (bw F law seen) n := sm_congr (fun i h1 h2 => by
  unfold bw
  rw [h i h1 h2])
theorem jB_rg {cs : Nat → List Co} {k : Nat} (hc : ∀ i, i < k → cok (cs i)) (hk : k ≤ 3) (law seen : Int) : 0 ≤ sm (bw (jW cs k) law seen) 1621 ∧ sm (bw (jW cs k) law seen) 1621 ≤ jA cs k := by
  have hg := jG_rg hc
  have hb : ∀ y : Int, 0 ≤ bw (jW cs k) law seen y ∧ bw (jW cs k) law seen y ≤ jW cs k y := fun y => by
    have := jW_nn (cs := cs) k y
    unfold bw
    split <;> omega
  constructor
  · exact (sm_term (n := 1621) (i := 0) (fun j _ _ => (hb j).1) (by omega) (by omega)).2
  · rw [← jW_sum (n := 1621) hc (by omega)]
    have key : ∀ n : Nat, sm (bw (jW cs k) law seen) n ≤ sm (jW cs k) n := fun n => by
      induction n with
      | zero => exact Int.le_refl 0
      | succ n ih =>
        have := (hb (n : Int)).2
        rw [sm_1, sm_1]
        omega
    exact key 1621
noncomputable def aJoi (cs : Nat → List Co) (la : Nat) (law part : Int) : Int := if 1 ≤ law ∧ law ≤ 2 ∧ 0 ≤ part ∧ part ≤ 1 then (if 9223372036854775807 < jA cs la then -4 else lowT (sm (bw (jW cs la) law (jS cs la)) 1621) (jA cs la) part) else -1
theorem jA_over {cs : Nat → List Co} {k la : Nat} (hc : ∀ i, i < la → cok (cs i)) (hk : k < la) (h : ¬ jA cs k ≤ 9223372036854775807 / bh (coL (cs k)) (coR (cs k))) : 9223372036854775807 < jA cs la := by
  have h1 := (stW_bd (hc k hk) 0).2.2.1
  have h2 : 9223372036854775807 < jA cs k * bh (coL (cs k)) (coR (cs k)) := by
    refine Int.lt_of_not_ge (fun q => h ?_)
    exact (Int.le_ediv_iff_mul_le h1).mpr q
  have h3 := jA_le (cs := cs) (k := k + 1) (m := la - (k + 1)) (fun i hi => hc i (by omega))
  rw [show k + 1 + (la - (k + 1)) = la by omega, jA] at h3
  omega
theorem jA_ok {cs : Nat → List Co} {k : Nat} (hc : cok (cs k)) (h : jA cs k ≤ 9223372036854775807 / bh (coL (cs k)) (coR (cs k))) : jA cs (k + 1) ≤ 9223372036854775807 := by
  rw [jA]
  exact (Int.le_ediv_iff_mul_le (stW_bd hc 0).2.2.1).mp h
theorem dv_rg {b : Int} (hb : 0 < b) : 0 ≤ 9223372036854775807 / b ∧ 9223372036854775807 / b ≤ 9223372036854775807 := ⟨Int.ediv_nonneg (by omega) (by omega), Int.ediv_le_self _ (by omega)⟩
theorem jS_rg {cs : Nat → List Co} : ∀ {k : Nat}, (∀ i, i < k → cok (cs i)) → 0 ≤ jS cs k ∧ jS cs k ≤ 540 * k
  | 0, _ => by rw [jS]; omega
  | k + 1, h => by
    have h1 := jS_rg (k := k) (fun i hi => h i (by omega))
    have h2 := co_bd (h k (by omega)) (cs k).length (Nat.le_refl _)
    have h3 := (h k (by omega)).1
    rw [jS]
    unfold coS
    omega
