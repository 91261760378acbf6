/-! ===== AHEAD; the whole net ===== -/
def NAi (T V : Int → Int) (n R : Nat) (G : Nat → Int → Int) (jh alo : Nat) : Prop := ∀ j a : Nat, j ≤ 5 → a ≤ 60 → ((j < jh ∨ (j = jh ∧ a < alo)) → G 0 (((j : Nat) : Int) * 61 + ((a : Nat) : Int)) = NV T V n R 0 j a) ∧ (¬ (j < jh ∨ (j = jh ∧ a < alo)) → G 0 (((j : Nat) : Int) * 61 + ((a : Nat) : Int)) = 0)
def NF (T V : Int → Int) (n R : Nat) (G : Nat → Int → Int) : Prop := ∀ kd j a : Nat, kd < 8 → j ≤ 5 → a ≤ 60 → G kd (((j : Nat) : Int) * 61 + ((a : Nat) : Int)) = NV T V n R kd j a
theorem NV_far {T V : Int → Int} {n R kd j a : Nat} (h : n < j) : NV T V n R kd j a = 0 := NV_out (fun t => by have := t.1; omega)
theorem NA_start {T V : Int → Int} {n R : Nat} {G : Nat → Int → Int} (hR : R ≤ tsum (clL T V 0 n)) (hz : Z0 G) : NAi T V n R (pG G 0 (0 * 61 + 0) 1) 1 0 := fun j a h1 h2 => by
  rw [pG_at]
  have hz0 := hz (((j : Nat) : Int) * 61 + ((a : Nat) : Int)) (by omega) (by omega)
  by_cases hx : j = 0 ∧ a = 0
  · obtain ⟨rfl, rfl⟩ := hx
    refine ⟨fun _ => ?_, fun q => by omega⟩
    rw [if_pos ⟨rfl, by omega⟩, NV_in0 (show thr T V n R 0 0 from ⟨by omega, by omega, by omega, by simpa using hR⟩)]
    rfl
  · rw [if_neg (fun q => hx (by omega)), hz0]
    refine ⟨fun q => ?_, fun _ => rfl⟩
    rw [NV_out (fun t => by
      obtain ⟨t1, t2, t3, t4⟩ := t
      obtain rfl : j = 0 := by omega
      rw [clL, tsum] at t3
      omega)]
theorem NBr_pG0 {T V : Int → Int} {n R m : Nat} {G : Nat → Int → Int} {i v : Int} (h : NBr T V n R G m) : NBr T V n R (pG G 0 i v) m := fun kd j a h1 h2 h3 h4 => by
  rw [pG_k (by omega)]
  exact h kd j a h1 h2 h3 h4
theorem NBr_1 {T V : Int → Int} {n R : Nat} {G : Nat → Int → Int} {j a : Nat} (h : NBr T V n R G 0) (hj : j ≤ n) (hn : n ≤ 5) (ha : a ≤ 60) : (thr T V n R j a → 0 < G 1 (((j : Nat) : Int) * 61 + ((a : Nat) : Int))) ∧ (0 < G 1 (((j : Nat) : Int) * 61 + ((a : Nat) : Int)) → thr T V n R j a) := by
  rw [(h 1 j a (by omega) (by omega) (by omega) ha).1 ⟨by omega, hj⟩]
  constructor
  · intro t
    rw [NV_in t (by omega)]
    exact bh_pos t.2.2.2
  · intro q
    rcases thr_dec T V n R j a with t | t
    · exact t
    · rw [NV_out t] at q
      exact absurd q (by omega)
theorem NBr_rg {T V : Int → Int} {n R : Nat} {G : Nat → Int → Int} (h : NBr T V n R G 0) (hok : okT T V n) : ∀ i : Int, 0 ≤ i → i < 366 → 0 ≤ G 1 i ∧ G 1 i < 4611686018427387904 := fun i h1 h2 => by
  obtain ⟨k, rfl⟩ := Int.eq_ofNat_of_zero_le h1
  have hk := Nat.div_add_mod k 61
  have hm := Nat.mod_lt k (show 0 < 61 by omega)
  have h3 := h 1 (k / 61) (k % 61) (by omega) (by omega) (by omega) (by omega)
  rw [show ((k / 61 : Nat) : Int) * 61 + ((k % 61 : Nat) : Int) = (k : Int) by omega] at h3
  by_cases hj : k / 61 ≤ n
  · rw [h3.1 ⟨by omega, hj⟩]
    rcases thr_dec T V n R (k / 61) (k % 61) with t | t
    · rw [NV_in t (by omega)]
      have h4 := bh_le (cs := clL T V (k / 61) (n - k / 61)) (r := R - k % 61)
      have h5 := okT_ts hok (m := n - k / 61) (j := k / 61) (by omega)
      have h6 := hok.1
      have h7 := pow_60 (k := tsum (clL T V (k / 61) (n - k / 61))) (by omega)
      show 0 ≤ bh _ _ ∧ bh _ _ < _
      omega
    · rw [NV_out t]
      omega
  · rw [h3.2 (by omega)]
    omega
theorem NA_row {T V : Int → Int} {n R jm a x : Nat} {G : Nat → Int → Int} (h : NAi T V n R G (jm + 1) a) (hj : jm < n) (hn : n ≤ 5) (ha : a ≤ 60) (ht : thr T V n R (jm + 1) a) (hx1 : x ≤ (T ((jm : Nat) : Int)).toNat) (hx2 : x ≤ a) : G 0 ((((jm : Nat) : Int) * 61) + ((a - x : Nat) : Int)) = ah (clR T V jm) (a - x) := by
  rw [(h jm (a - x) (by omega) (by omega)).1 (Or.inl (by omega))]
  rcases thr_dec T V n R jm (a - x) with t | t
  · exact NV_in0 t
  · rw [NV_out t]
    obtain ⟨t1, t2, t3, t4⟩ := ht
    refine (ah_zero ?_).symm
    rw [ts_R]
    refine Nat.lt_of_not_le (fun q => t ⟨by omega, by omega, q, ?_⟩)
    rw [clL_c hj, tsum]
    show R - (a - x) ≤ (T ((jm : Nat) : Int)).toNat + _
    omega
theorem NA_skip {T V : Int → Int} {n R jh a : Nat} {G : Nat → Int → Int} (h : NAi T V n R G jh a) (he : ¬ thr T V n R jh a) : NAi T V n R G jh (a + 1) := fun j b h1 h2 => ⟨fun q => by
    by_cases hc : j < jh ∨ (j = jh ∧ b < a)
    · exact (h j b h1 h2).1 hc
    · obtain rfl : j = jh := by omega
      obtain rfl : b = a := by omega
      rw [(h j b h1 h2).2 hc, NV_out he], fun q => (h j b h1 h2).2 (by omega)⟩
theorem NA_step {T V : Int → Int} {n R jh a : Nat} {G : Nat → Int → Int} (h : NAi T V n R G jh a) (hj : jh ≤ 5) (ha : a ≤ 60) (ht : thr T V n R jh a) {v : Int} (hv : v = ah (clR T V jh) a) : NAi T V n R (pG G 0 (((jh : Nat) : Int) * 61 + ((a : Nat) : Int)) v) jh (a + 1) := fun j b h1 h2 => by
  rw [pG_at]
  by_cases hx : j = jh ∧ b = a
  · obtain ⟨rfl, rfl⟩ := hx
    rw [if_pos ⟨rfl, rfl⟩]
    exact ⟨fun _ => by rw [NV_in0 ht, hv], fun q => by omega⟩
  · rw [if_neg (fun q => hx (by omega))]
    exact ⟨fun q => (h j b h1 h2).1 (by omega), fun q => (h j b h1 h2).2 (by omega)⟩
theorem NA_end {T V : Int → Int} {n R jh a : Nat} {G : Nat → Int → Int} (h : NAi T V n R G jh a) (ha : R < a) : NAi T V n R G (jh + 1) 0 := fun j b h1 h2 => ⟨fun q => by
    by_cases hc : j < jh ∨ (j = jh ∧ b < a)
    · exact (h j b h1 h2).1 hc
    · obtain rfl : j = jh := by omega
      rw [(h j b h1 h2).2 hc, NV_out (fun t => by have := t.2.1; omega)], fun q => (h j b h1 h2).2 (by omega)⟩
theorem NF_of {T V : Int → Int} {n R jh : Nat} {G : Nat → Int → Int} (h1 : NAi T V n R G jh 0) (hj : n < jh) (h2 : NBr T V n R G 0) : NF T V n R G := fun kd j a hk hj5 ha => by
  rcases Nat.eq_zero_or_pos kd with q | q
  · subst q
    by_cases hjn : j < jh
    · exact (h1 j a hj5 ha).1 (Or.inl hjn)
    · rw [(h1 j a hj5 ha).2 (by omega), NV_far (by omega)]
  · by_cases hjn : j ≤ n
    · exact (h2 kd j a q hk hj5 ha).1 ⟨by omega, hjn⟩
    · rw [(h2 kd j a q hk hj5 ha).2 (by omega), NV_far (by omega)]
theorem fill_k {G : Nat → Int → Int} {k : Nat} {W : Int → Int} (h : ∀ kd : Nat, kd < k → ∀ i : Int, 0 ≤ i → i < 366 → G kd i = 0) (hw : ∀ y : Int, 0 ≤ y → y < ((366 : Nat) : Int) → W y = 0) : ∀ kd : Nat, kd < k + 1 → ∀ i : Int, 0 ≤ i → i < 366 → uF G k W kd i = 0 := fun kd hk i h1 h2 => by
  by_cases hx : kd = k
  · subst hx
    rw [uF_same]
    exact hw i h1 (by omega)
  · rw [uF_ne hx]
    exact h kd (by omega) i h1 h2
theorem tf_step {T V : Int → Int} {n m : Nat} {tf : Int → Int} (hok : okT T V n) (hm : 1 ≤ m) (hm5 : m ≤ 5) (h : ∀ i : Nat, m ≤ i → i ≤ 5 → tf ((i : Nat) : Int) = ((tsum (clL T V i (n - i)) : Nat) : Int)) : ∀ i : Nat, m - 1 ≤ i → i ≤ 5 → uZ tf (((m : Nat) : Int) - 1) ((tf ((((m : Nat) : Int) - 1) + 1)) + (inA n T (((m : Nat) : Int) - 1))) ((i : Nat) : Int) = ((tsum (clL T V i (n - i)) : Nat) : Int) := fun i h1 h2 => by
  by_cases hx : i = m - 1
  · subst hx
    have h3 := h m (Nat.le_refl _) hm5
    rw [show (((m : Nat) : Int) - 1) = ((m - 1 : Nat) : Int) by omega, uZ_same, show ((m - 1 : Nat) : Int) + 1 = ((m : Nat) : Int) by omega, h3]
    by_cases hn : m - 1 < n
    · have h4 := hok.2 ((m - 1 : Nat) : Int) (by omega) (by omega)
      rw [inA_in (by omega), clL_c hn, tsum, show m - 1 + 1 = m by omega]
      show _ = (((T ((m - 1 : Nat) : Int)).toNat + tsum (clL T V m (n - m)) : Nat) : Int)
      omega
    · rw [inA_out (by omega), show n - m = 0 by omega, show n - (m - 1) = 0 by omega]
      rfl
  · rw [uZ_ne (by omega)]
    exact h i (by omega) h2
