/-! ===== stages of a net ===== -/
def okT (T V : Int → Int) (n : Nat) : Prop := n ≤ 5 ∧ ∀ j : Int, 0 ≤ j → j < n → (1 ≤ T j ∧ T j ≤ 12) ∧ (0 ≤ V j ∧ V j ≤ 9)
def okS (cs : List (Nat × Nat)) : Prop := ∀ c ∈ cs, c.1 ≤ 12 ∧ c.2 ≤ 9
theorem okT_S {T V : Int → Int} {n : Nat} (h : okT T V n) : ∀ {m j : Nat}, j + m ≤ n → okS (clL T V j m)
  | 0, _, _ => fun c hc => by cases hc
  | m + 1, j, hj => fun c hc => by
    rw [clL] at hc
    rcases List.mem_cons.mp hc with rfl | hc
    · have := h.2 (j : Int) (by omega) (by omega)
      refine ⟨?_, ?_⟩
      · show (T ((j : Nat) : Int)).toNat ≤ 12
        omega
      · show (V ((j : Nat) : Int)).toNat ≤ 9
        omega
    · exact okT_S h (m := m) (j := j + 1) (by omega) c hc
theorem okT_ts {T V : Int → Int} {n : Nat} (h : okT T V n) {m j : Nat} (hj : j + m ≤ n) : tsum (clL T V j m) ≤ m * 12 :=
  ts_le (fun i h1 h2 => by have := h.2 (i : Int) (by omega) (by omega); omega)
theorem sh_le : ∀ {cs : List (Nat × Nat)} {r : Nat}, r ≤ tsum cs → 0 ≤ sh cs r ∧ sh cs r ≤ 2 ^ tsum cs
  | [], _, _ => by simp [sh, tsum]
  | c :: cs, r, h => by
    rw [tsum] at h
    have hn : 0 < nn c cs r := by unfold nn; omega
    have ht : ∀ i, i < nn c cs r → 0 ≤ (ch c.1 (lo cs r + i) : Int) * sh cs (r - (lo cs r + i)) ∧ (ch c.1 (lo cs r + i) : Int) * sh cs (r - (lo cs r + i)) ≤ 2 ^ (c.1 + tsum cs) := fun i hi => by
      have hs := sh_le (cs := cs) (r := r - (lo cs r + i)) (by unfold lo; omega)
      refine ⟨Int.mul_nonneg (by omega) hs.1, ?_⟩
      rw [Int.pow_add]
      have h1 := ch_le c.1 (lo cs r + i)
      have h2 : ((ch c.1 (lo cs r + i) : Nat) : Int) ≤ 2 ^ c.1 := by exact_mod_cast h1
      exact Int.mul_le_mul h2 hs.2 hs.1 (Int.le_of_lt (Int.pow_pos (by omega)))
    rw [sh, tsum]
    have h0 := mnN_rg (M := 9223372036854775807) (f := fun x => (ch c.1 x : Int) * sh cs (r - x)) (a := lo cs r) (k := nn c cs r) (by omega) (fun i hi => (ht i hi).1)
    have h1 := mnN_le (M := 9223372036854775807) (f := fun x => (ch c.1 x : Int) * sh cs (r - x)) (a := lo cs r) hn
    have h2 := ht 0 hn
    exact ⟨h0.1, Int.le_trans h1 h2.2⟩
theorem les_rg : ∀ {cs : List (Nat × Nat)} {r : Nat}, 0 ≤ les cs r ∧ les cs r ≤ 540
  | [], _ => by simp [les]
  | c :: cs, r => by
    rw [les]
    exact mnN_rg (by omega) (fun i _ => by
      have := (les_rg (cs := cs) (r := r - (lo cs r + i))).1
      have h2 : (0 : Int) ≤ ((lo cs r + i : Nat) : Int) * (c.2 : Int) := Int.mul_nonneg (by omega) (by omega)
      show 0 ≤ ((lo cs r + i : Nat) : Int) * (c.2 : Int) + les cs (r - (lo cs r + i))
      omega)
theorem grs_rg : ∀ {cs : List (Nat × Nat)} {r : Nat}, okS cs → 0 ≤ grs cs r ∧ grs cs r ≤ 9 * tsum cs
  | [], _, _ => by simp [grs, tsum]
  | c :: cs, r, h => by
    rw [grs, tsum]
    refine mxN_rg (by omega) (fun i hi => ?_)
    have h1 := grs_rg (cs := cs) (r := r - (lo cs r + i)) (fun d hd => h d (List.mem_cons_of_mem _ hd))
    have h2 := h c List.mem_cons_self
    have h3 : (0 : Int) ≤ ((lo cs r + i : Nat) : Int) * (c.2 : Int) := Int.mul_nonneg (by omega) (by omega)
    have h4 : ((lo cs r + i : Nat) : Int) * (c.2 : Int) ≤ (c.1 : Int) * 9 := Int.mul_le_mul (by unfold lo nn at *; omega) (by omega) (by omega) (by omega)
    show 0 ≤ ((lo cs r + i : Nat) : Int) * (c.2 : Int) + grs cs (r - (lo cs r + i)) ∧ ((lo cs r + i : Nat) : Int) * (c.2 : Int) + grs cs (r - (lo cs r + i)) ≤ _
    omega
theorem fL_rg {c : Nat × Nat} {cs : List (Nat × Nat)} {r x : Nat} (h : c.1 + tsum cs ≤ 60) : 0 ≤ fL c cs r x ∧ fL c cs r x ≤ 4611686018427387904 := by
  have h1 := ch_le c.1 x
  have h2 : ((ch c.1 x : Nat) : Int) ≤ 2 ^ c.1 := by exact_mod_cast h1
  have h3 := lg_bh (cs := cs) (r := r - x)
  refine ⟨Int.mul_nonneg (by omega) h3.1, ?_⟩
  have h4 : fL c cs r x ≤ 2 ^ c.1 * 2 ^ tsum cs := Int.mul_le_mul h2 h3.2 h3.1 (Int.le_of_lt (Int.pow_pos (by omega)))
  rw [← Int.pow_add] at h4
  have h5 := pow_60 h
  omega
theorem fS_rg {c : Nat × Nat} {cs : List (Nat × Nat)} {r x : Nat} (h : c.1 + tsum cs ≤ 60) (hx : r - x ≤ tsum cs) : 0 ≤ fS c cs r x ∧ fS c cs r x ≤ 4611686018427387904 := by
  have h1 := ch_le c.1 x
  have h2 : ((ch c.1 x : Nat) : Int) ≤ 2 ^ c.1 := by exact_mod_cast h1
  have h3 := sh_le (cs := cs) (r := r - x) hx
  refine ⟨Int.mul_nonneg (by omega) h3.1, ?_⟩
  have h4 : fS c cs r x ≤ 2 ^ c.1 * 2 ^ tsum cs := Int.mul_le_mul h2 h3.2 h3.1 (Int.le_of_lt (Int.pow_pos (by omega)))
  rw [← Int.pow_add] at h4
  have h5 := pow_60 h
  omega
theorem xv_rg {x v : Nat} (hx : x ≤ 12) (hv : v ≤ 9) : 0 ≤ (x : Int) * (v : Int) ∧ (x : Int) * (v : Int) ≤ 12 * 9 := ⟨Int.mul_nonneg (by omega) (by omega), Int.mul_le_mul (by omega) (by omega) (by omega) (by omega)⟩
theorem fE_rg {c : Nat × Nat} {cs : List (Nat × Nat)} {r x : Nat} (hx : x ≤ 12) (hv : c.2 ≤ 9) : 0 ≤ fE c cs r x ∧ fE c cs r x ≤ 4611686018427387904 := by
  have h1 := xv_rg hx hv
  have h2 := les_rg (cs := cs) (r := r - x)
  unfold fE
  omega
theorem fG_rg {c : Nat × Nat} {cs : List (Nat × Nat)} {r x : Nat} (hx : x ≤ 12) (hv : c.2 ≤ 9) (h : tsum cs ≤ 60) (hs : okS cs) : 0 ≤ fG c cs r x ∧ fG c cs r x ≤ 4611686018427387904 := by
  have h1 := xv_rg hx hv
  have h2 := grs_rg (cs := cs) (r := r - x) hs
  unfold fG
  omega
/-- rows above m are done, of row m the cells below alo; the others are 0 -/
def NBi (T V : Int → Int) (n R : Nat) (G : Nat → Int → Int) (m alo : Nat) : Prop := ∀ kd j a : Nat, 1 ≤ kd → kd < 8 → j ≤ 5 → a ≤ 60 → ((m < j ∧ j ≤ n) ∨ (j = m ∧ a < alo) → G kd (((j : Nat) : Int) * 61 + ((a : Nat) : Int)) = NV T V n R kd j a) ∧ (¬ ((m < j ∧ j ≤ n) ∨ (j = m ∧ a < alo)) → G kd (((j : Nat) : Int) * 61 + ((a : Nat) : Int)) = 0)
def NBr (T V : Int → Int) (n R : Nat) (G : Nat → Int → Int) (m : Nat) : Prop := ∀ kd j a : Nat, 1 ≤ kd → kd < 8 → j ≤ 5 → a ≤ 60 → (m ≤ j ∧ j ≤ n → G kd (((j : Nat) : Int) * 61 + ((a : Nat) : Int)) = NV T V n R kd j a) ∧ (¬ (m ≤ j ∧ j ≤ n) → G kd (((j : Nat) : Int) * 61 + ((a : Nat) : Int)) = 0)
def Z0 (G : Nat → Int → Int) : Prop := ∀ i : Int, 0 ≤ i → i < 366 → G 0 i = 0
theorem NBi_0 {T V : Int → Int} {n R : Nat} {G : Nat → Int → Int} {m : Nat} (h : NBr T V n R G (m + 1)) : NBi T V n R G m 0 := fun kd j a h1 h2 h3 h4 => ⟨fun q => (h kd j a h1 h2 h3 h4).1 (by omega), fun q => (h kd j a h1 h2 h3 h4).2 (by omega)⟩
theorem NBi_end {T V : Int → Int} {n R : Nat} {G : Nat → Int → Int} {m alo : Nat} (h : NBi T V n R G m alo) (hm : m ≤ n) (he : ∀ a, alo ≤ a → ¬ thr T V n R m a) : NBr T V n R G m := fun kd j a h1 h2 h3 h4 => ⟨fun q => by
    by_cases hc : (m < j ∧ j ≤ n) ∨ (j = m ∧ a < alo)
    · exact (h kd j a h1 h2 h3 h4).1 hc
    · obtain rfl : j = m := by omega
      rw [(h kd j a h1 h2 h3 h4).2 hc, NV_out (he a (by omega))], fun q => (h kd j a h1 h2 h3 h4).2 (by omega)⟩
theorem NBi_skip {T V : Int → Int} {n R : Nat} {G : Nat → Int → Int} {m alo : Nat} (h : NBi T V n R G m alo) (he : ¬ thr T V n R m alo) : NBi T V n R G m (alo + 1) := fun kd j a h1 h2 h3 h4 => ⟨fun q => by
    by_cases hc : (m < j ∧ j ≤ n) ∨ (j = m ∧ a < alo)
    · exact (h kd j a h1 h2 h3 h4).1 hc
    · obtain rfl : j = m := by omega
      obtain rfl : a = alo := by omega
      rw [(h kd j a h1 h2 h3 h4).2 hc, NV_out he], fun q => (h kd j a h1 h2 h3 h4).2 (by omega)⟩
def pG7 (G : Nat → Int → Int) (i v1 v2 v3 v4 v5 v6 v7 : Int) : Nat → Int → Int := pG (pG (pG (pG (pG (pG (pG G 1 i v1) 2 i v2) 3 i v3) 4 i v4) 5 i v5) 6 i v6) 7 i v7
theorem pG7_ne {G : Nat → Int → Int} {i v1 v2 v3 v4 v5 v6 v7 x : Int} {k : Nat} (h : x ≠ i) : pG7 G i v1 v2 v3 v4 v5 v6 v7 k x = G k x := by
  unfold pG7
  simp only [pG_at, if_neg (show ¬ (k = 1 ∧ x = i) from fun q => h q.2), if_neg (show ¬ (k = 2 ∧ x = i) from fun q => h q.2), if_neg (show ¬ (k = 3 ∧ x = i) from fun q => h q.2), if_neg (show ¬ (k = 4 ∧ x = i) from fun q => h q.2), if_neg (show ¬ (k = 5 ∧ x = i) from fun q => h q.2), if_neg (show ¬ (k = 6 ∧ x = i) from fun q => h q.2), if_neg (show ¬ (k = 7 ∧ x = i) from fun q => h q.2)]
theorem pG7_0 {G : Nat → Int → Int} {i v1 v2 v3 v4 v5 v6 v7 x : Int} : pG7 G i v1 v2 v3 v4 v5 v6 v7 0 x = G 0 x := by
  unfold pG7
  simp [pG_at]
theorem pG7_eq {G : Nat → Int → Int} {i : Int} {cs : List (Nat × Nat)} {r kd : Nat} (h1 : 1 ≤ kd) (h2 : kd < 8) : pG7 G i (bh cs r) (lg cs r) (sh cs r) (tc cs r) (lk cs r) (les cs r) (grs cs r) kd i = nvF kd cs r := by
  unfold pG7 nvF
  rcases (show kd = 1 ∨ kd = 2 ∨ kd = 3 ∨ kd = 4 ∨ kd = 5 ∨ kd = 6 ∨ kd = 7 by omega) with rfl | rfl | rfl | rfl | rfl | rfl | rfl <;> simp [pG_at]
theorem NBi_step {T V : Int → Int} {n R : Nat} {G : Nat → Int → Int} {m alo : Nat} (h : NBi T V n R G m alo) (hm : m ≤ 5) (ha : alo ≤ 60) (ht : thr T V n R m alo) {cs : List (Nat × Nat)} {r : Nat} (hcs : clL T V m (n - m) = cs) (hr : R - alo = r) : NBi T V n R (pG7 G (((m : Nat) : Int) * 61 + ((alo : Nat) : Int)) (bh cs r) (lg cs r) (sh cs r) (tc cs r) (lk cs r) (les cs r) (grs cs r)) m (alo + 1) := fun kd j a h1 h2 h3 h4 => by
  by_cases hx : j = m ∧ a = alo
  · obtain ⟨rfl, rfl⟩ := hx
    refine ⟨fun _ => ?_, fun q => absurd (Or.inr ⟨rfl, by omega⟩) q⟩
    rw [pG7_eq h1 h2, NV_in ht (by omega), hcs, hr]
  · rw [pG7_ne (by omega)]
    exact ⟨fun q => (h kd j a h1 h2 h3 h4).1 (by omega), fun q => (h kd j a h1 h2 h3 h4).2 (by omega)⟩
theorem NBi_row {T V : Int → Int} {n R : Nat} {G : Nat → Int → Int} {m alo kd x : Nat} (h : NBi T V n R G m alo) (hm : m < n) (hn : n ≤ 5) (hR : R ≤ 60) (hk : 1 ≤ kd) (hk8 : kd < 8) (ht : thr T V n R m alo) (h1 : lo (clL T V (m + 1) (n - (m + 1))) (R - alo) ≤ x) (h2 : x ≤ (T ((m : Nat) : Int)).toNat) (h3 : x ≤ R - alo) : G kd (((((m : Nat) : Int) + 1) * 61) + (((alo : Nat) : Int) + ((x : Nat) : Int))) = nvF kd (clL T V (m + 1) (n - (m + 1))) (R - alo - x) := by
  obtain ⟨t1, t2, t3, t4⟩ := ht
  have h5 := (h kd (m + 1) (alo + x) hk hk8 (by omega) (by omega)).1 (Or.inl ⟨by omega, by omega⟩)
  have h6 : thr T V n R (m + 1) (alo + x) := by
    refine ⟨by omega, by omega, ?_, ?_⟩
    · rw [ts_pre, Nat.zero_add]
      omega
    · unfold lo at h1
      omega
  rw [NV_in h6 (by omega)] at h5
  rw [show (((m : Nat) : Int) + 1) * 61 + (((alo : Nat) : Int) + ((x : Nat) : Int)) = ((m + 1 : Nat) : Int) * 61 + ((alo + x : Nat) : Int) by omega, h5, Nat.sub_sub]
theorem NBr_start {T V : Int → Int} {n R : Nat} {G : Nat → Int → Int} (hn : n ≤ 5) (hR : R ≤ 60) (hts : R ≤ tsum (clL T V 0 n)) (hz : ∀ kd : Nat, kd < 8 → ∀ i : Int, 0 ≤ i → i < 366 → G kd i = 0) : NBr T V n R (pG (pG (pG (pG G 1 (((n : Nat) : Int) * 61 + ((R : Nat) : Int)) 1) 2 (((n : Nat) : Int) * 61 + ((R : Nat) : Int)) 1) 3 (((n : Nat) : Int) * 61 + ((R : Nat) : Int)) 1) 4 (((n : Nat) : Int) * 61 + ((R : Nat) : Int)) 1) n := fun kd j a h1 h2 h3 h4 => by
  simp only [pG_at]
  by_cases hx : ((j : Nat) : Int) * 61 + ((a : Nat) : Int) = ((n : Nat) : Int) * 61 + ((R : Nat) : Int)
  · obtain rfl : j = n := by omega
    obtain rfl : a = R := by omega
    refine ⟨fun _ => ?_, fun q => by omega⟩
    have ht : thr T V j a j a := ⟨by omega, by omega, hts, by omega⟩
    rw [NV_in ht (by omega), clL_end]
    have hz0 := hz kd (by omega) (((j : Nat) : Int) * 61 + ((a : Nat) : Int)) (by omega) (by omega)
    unfold nvF
    rcases (show kd = 1 ∨ kd = 2 ∨ kd = 3 ∨ kd = 4 ∨ kd = 5 ∨ kd = 6 ∨ kd = 7 by omega) with rfl | rfl | rfl | rfl | rfl | rfl | rfl <;> simp [bh, lg, sh, tc, lk, les, grs, hz0]
  · have e : ∀ k : Nat, ¬ (kd = k ∧ ((j : Nat) : Int) * 61 + ((a : Nat) : Int) = ((n : Nat) : Int) * 61 + ((R : Nat) : Int)) := fun k q => hx q.2
    simp only [if_neg (e 1), if_neg (e 2), if_neg (e 3), if_neg (e 4)]
    have hz0 := hz kd (by omega) (((j : Nat) : Int) * 61 + ((a : Nat) : Int)) (by omega) (by omega)
    refine ⟨fun q => ?_, fun _ => hz0⟩
    obtain rfl : j = n := by omega
    rw [hz0, NV_out (fun ht => by
      obtain ⟨t1, t2, t3, t4⟩ := ht
      rw [clL_end, tsum] at t4
      exact hx (by omega))]
theorem pG_k {G : Nat → Int → Int} {kd k : Nat} {i v x : Int} (h : k ≠ kd) : pG G kd i v k x = G k x := by rw [pG_at, if_neg (fun q => h q.1)]
theorem Z0_pG {G : Nat → Int → Int} {kd : Nat} {i v : Int} (h : kd ≠ 0) (hz : Z0 G) : Z0 (pG G kd i v) := fun x h1 h2 => by rw [pG_k (Ne.symm h)]; exact hz x h1 h2
