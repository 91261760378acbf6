/-! ===== what the law asks of a stratum: nodes by sets; tables by number; chances; turned ===== -/
theorem ch_0 (n : Nat) : ch n 0 = 1 := by cases n <;> rfl
theorem ch_self : ∀ n : Nat, ch n n = 1
  | 0 => rfl
  | n + 1 => by rw [ch, ch_self n, ch_out (Nat.lt_succ_self n)]
theorem ch_ab : ∀ (a b : Nat), ch (a + b) a = ch (a + b) b
  | 0, b => by rw [Nat.zero_add, ch_0, ch_self]
  | a + 1, 0 => by rw [Nat.add_zero, ch_0, ch_self]
  | a + 1, b + 1 => by
    have h1 := ch_ab a (b + 1)
    have h2 := ch_ab (a + 1) b
    rw [show a + (b + 1) = a + 1 + b by omega] at h1
    have e1 : ch (a + 1 + (b + 1)) (a + 1) = ch (a + 1 + b) a + ch (a + 1 + b) (a + 1) := rfl
    have e2 : ch (a + 1 + (b + 1)) (b + 1) = ch (a + 1 + b) b + ch (a + 1 + b) (b + 1) := rfl
    omega
theorem ch_sym {n k : Nat} (h : k ≤ n) : ch n (n - k) = ch n k := by
  have h1 := ch_ab k (n - k)
  rw [show k + (n - k) = n by omega] at h1
  exact h1.symm
theorem srN_wn {f : Nat → Int} {l m X : Nat} (h1 : ∀ i, i < l → f i = 0) (h2 : ∀ i, l + m ≤ i → i < X → f i = 0) (hX : l + m ≤ X) : srN f 0 X = srN f l m := by
  have e1 := srN_split f 0 l (m + (X - (l + m)))
  have e2 := srN_split f l m (X - (l + m))
  have z1 : srN f 0 l = 0 := srN_zero (fun i hi => by rw [Nat.zero_add]; exact h1 i hi)
  have z2 : srN f (l + m) (X - (l + m)) = 0 := srN_zero (fun i hi => h2 _ (by omega) (by omega))
  rw [Nat.zero_add] at e1
  rw [show l + (m + (X - (l + m))) = X by omega] at e1
  rw [e1, e2, z1, z2]
  omega
theorem srN_lf (f : Nat → Int) (a : Nat) : ∀ k : Nat, srN f a (k + 1) = f a + srN f (a + 1) k
  | 0 => by simp [srN]
  | k + 1 => by
    rw [srN, srN_lf f a k, srN, show a + 1 + k = a + (k + 1) by omega]
    omega
theorem vd_eq : ∀ (n m r : Nat), srN (fun x => (ch n x : Int) * (ch m (r - x) : Int)) 0 (r + 1) = (ch (n + m) r : Int)
  | 0, m, r => by
    rw [srN_lf]
    have z : srN (fun x => (ch 0 x : Int) * (ch m (r - x) : Int)) (0 + 1) r = 0 := srN_zero (fun i _ => by
      have e : ch 0 (0 + 1 + i) = 0 := ch_out (by omega)
      show (ch 0 (0 + 1 + i) : Int) * _ = 0
      rw [e]
      simp)
    rw [z, Nat.zero_add]
    simp [ch_0]
  | n + 1, m, 0 => by
    simp [srN, ch_0]
  | n + 1, m, r + 1 => by
    have key : ∀ k : Nat, srN (fun x => (ch (n + 1) x : Int) * (ch m (r + 1 - x) : Int)) 0 (k + 1) = srN (fun x => (ch n x : Int) * (ch m (r + 1 - x) : Int)) 0 (k + 1) + srN (fun x => (ch n x : Int) * (ch m (r - x) : Int)) 0 k := by
      intro k
      induction k with
      | zero => simp [srN, ch_0]
      | succ k ih =>
        rw [srN, ih]
        have e1 : srN (fun x => (ch n x : Int) * (ch m (r + 1 - x) : Int)) 0 (k + 1 + 1) = srN (fun x => (ch n x : Int) * (ch m (r + 1 - x) : Int)) 0 (k + 1) + (ch n (k + 1) : Int) * (ch m (r + 1 - (k + 1)) : Int) := by
          rw [srN, Nat.zero_add]
        have e2 : srN (fun x => (ch n x : Int) * (ch m (r - x) : Int)) 0 (k + 1) = srN (fun x => (ch n x : Int) * (ch m (r - x) : Int)) 0 k + (ch n k : Int) * (ch m (r - k) : Int) := by
          rw [srN, Nat.zero_add]
        rw [e1, e2]
        show _ + (ch (n + 1) (0 + (k + 1)) : Int) * (ch m (r + 1 - (0 + (k + 1))) : Int) = _
        rw [Nat.zero_add, Nat.add_sub_add_right]
        have e3 : (ch (n + 1) (k + 1) : Int) = (ch n k : Int) + (ch n (k + 1) : Int) := by
          rw [← Int.natCast_add]
          rfl
        rw [e3, Int.add_mul]
        omega
    rw [key (r + 1), vd_eq n m (r + 1), vd_eq n m r, show n + 1 + m = (n + m) + 1 by omega]
    have e3 : (ch (n + m + 1) (r + 1) : Int) = (ch (n + m) r : Int) + (ch (n + m) (r + 1) : Int) := by
      rw [← Int.natCast_add]
      rfl
    rw [e3]
    omega
theorem bh_ch : ∀ (cs : List (Nat × Nat)) (r : Nat), r ≤ tsum cs → bh cs r = (ch (tsum cs) r : Int)
  | [], r, h => by
    rw [tsum] at h
    rw [show r = 0 by omega]
    rfl
  | c :: cs, r, h => by
    rw [tsum] at h
    have e : bh (c :: cs) r = srN (fun x => (ch c.1 x : Int) * (ch (tsum cs) (r - x) : Int)) (lo cs r) (nn c cs r) := by
      rw [bh]
      refine srN_congr (fun i hi => ?_)
      obtain ⟨h1, h2, h3⟩ := nn_x hi
      show (ch c.1 _ : Int) * bh cs _ = _
      rw [bh_ch cs _ h3]
    rw [e, tsum, ← vd_eq c.1 (tsum cs) r]
    refine (srN_wn (fun i hi => ?_) (fun i h1 h2 => ?_) ?_).symm
    · have e1 : ch (tsum cs) (r - i) = 0 := ch_out (by unfold lo at hi; omega)
      show (ch c.1 i : Int) * (ch (tsum cs) (r - i) : Int) = 0
      rw [e1]
      simp
    · have e1 : ch c.1 i = 0 := ch_out (by unfold lo nn at h1; omega)
      show (ch c.1 i : Int) * (ch (tsum cs) (r - i) : Int) = 0
      rw [e1]
      simp
    · unfold lo nn
      omega
theorem ah_ch : ∀ (cs : List (Nat × Nat)) (a : Nat), ah cs a = (ch (tsum cs) a : Int)
  | [], a => by
    rw [ah, tsum]
    cases a with
    | zero => rfl
    | succ a => rw [if_neg (by omega)]; rfl
  | c :: cs, a => by
    rw [ah, tsum, ← vd_eq c.1 (tsum cs) a]
    have e1 : srN (fun x => (ch c.1 x : Int) * (if x ≤ a then ah cs (a - x) else 0)) 0 (c.1 + 1) = srN (fun x => (ch c.1 x : Int) * (if x ≤ a then ah cs (a - x) else 0)) 0 (min c.1 a + 1) := srN_wn (fun i hi => absurd hi (Nat.not_lt_zero i)) (fun i h1 h2 => by
      show (ch c.1 i : Int) * (if i ≤ a then ah cs (a - i) else 0) = 0
      rw [if_neg (by omega)]
      simp) (by omega)
    have e2 : srN (fun x => (ch c.1 x : Int) * (ch (tsum cs) (a - x) : Int)) 0 (a + 1) = srN (fun x => (ch c.1 x : Int) * (ch (tsum cs) (a - x) : Int)) 0 (min c.1 a + 1) := srN_wn (fun i hi => absurd hi (Nat.not_lt_zero i)) (fun i h1 h2 => by
      have e : ch c.1 i = 0 := ch_out (by omega)
      show (ch c.1 i : Int) * (ch (tsum cs) (a - i) : Int) = 0
      rw [e]
      simp) (by omega)
    rw [e1, e2]
    refine srN_congr (fun i hi => ?_)
    show (ch c.1 (0 + i) : Int) * (if 0 + i ≤ a then ah cs (a - (0 + i)) else 0) = _
    rw [if_pos (by omega), ah_ch cs]
/-! nodes -/
theorem nod_in {c : List Co} {j a w : Nat} (hj : j ≤ c.length) (ha : a ≤ coR c) (hw : w ≤ 3) (ht : thr (coT c) (coV c) c.length (coR c) j a) : aNod c ((j : Nat) : Int) ((a : Nat) : Int) ((w : Nat) : Int) = NV (coT c) (coV c) c.length (coR c) w j a := by
  have hp : 0 < NV (coT c) (coV c) c.length (coR c) 1 j a := by
    rw [NV_in ht (by omega)]
    exact bh_pos ht.2.2.2
  unfold aNod
  rw [if_pos (by omega), Int.toNat_natCast, Int.toNat_natCast, Int.toNat_natCast, if_pos hp]
theorem nod_out {c : List Co} {j a w : Nat} (hj : j ≤ c.length) (ha : a ≤ coR c) (hw : w ≤ 3) (ht : ¬ thr (coT c) (coV c) c.length (coR c) j a) : aNod c ((j : Nat) : Int) ((a : Nat) : Int) ((w : Nat) : Int) = -4 := by
  unfold aNod
  rw [if_pos (by omega), Int.toNat_natCast, Int.toNat_natCast, Int.toNat_natCast, if_neg (by rw [NV_out ht]; omega)]
/-- what a node adds: AHEAD times BEHIND, where it is there -/
noncomputable def nodT (c : List Co) (j : Nat) (a : Nat) : Int := if aNod c ((j : Nat) : Int) ((a : Nat) : Int) 0 < 0 then 0 else aNod c ((j : Nat) : Int) ((a : Nat) : Int) 0 * aNod c ((j : Nat) : Int) ((a : Nat) : Int) 1
theorem nodT_ch {c : List Co} {j a : Nat} (hj : j ≤ c.length) (ha : a ≤ coR c) : nodT c j a = (ch (tsum (clL (coT c) (coV c) 0 j)) a : Int) * (ch (tsum (clL (coT c) (coV c) j (c.length - j))) (coR c - a) : Int) := by
  unfold nodT
  by_cases ht : thr (coT c) (coV c) c.length (coR c) j a
  · have e0 := nod_in (w := 0) hj ha (by omega) ht
    have e1 := nod_in (w := 1) hj ha (by omega) ht
    rw [NV_in0 ht, ah_ch, ts_R] at e0
    rw [NV_in ht (by omega)] at e1
    have e2 : nvF 1 (clL (coT c) (coV c) j (c.length - j)) (coR c - a) = bh (clL (coT c) (coV c) j (c.length - j)) (coR c - a) := rfl
    rw [e2, bh_ch _ _ ht.2.2.2] at e1
    rw [show ((0 : Nat) : Int) = 0 from rfl] at e0
    rw [show ((1 : Nat) : Int) = 1 from rfl] at e1
    rw [e0, e1, if_neg (by omega)]
  · have e0 := nod_out (w := 0) hj ha (by omega) ht
    rw [show ((0 : Nat) : Int) = 0 from rfl] at e0
    rw [e0, if_pos (by omega)]
    by_cases h1 : a ≤ tsum (clL (coT c) (coV c) 0 j)
    · have e : ch (tsum (clL (coT c) (coV c) j (c.length - j))) (coR c - a) = 0 := ch_out (by
        rcases Nat.lt_or_ge (tsum (clL (coT c) (coV c) j (c.length - j))) (coR c - a) with q | q
        · exact q
        · exact absurd ⟨hj, ha, h1, q⟩ ht)
      rw [e]
      simp
    · have e : ch (tsum (clL (coT c) (coV c) 0 j)) a = 0 := ch_out (by omega)
      rw [e]
      simp
theorem nod_all {c : List Co} (hc : cok c) {j : Nat} (hj : j ≤ c.length) : srN (nodT c j) 0 (coR c + 1) = bh (coL c) (coR c) := by
  have hs := coL_S hc
  have h0 : srN (nodT c j) 0 (coR c + 1) = srN (fun x => (ch (tsum (clL (coT c) (coV c) 0 j)) x : Int) * (ch (tsum (clL (coT c) (coV c) j (c.length - j))) (coR c - x) : Int)) 0 (coR c + 1) := srN_congr (fun i hi => by
    rw [nodT_ch hj (by omega)])
  rw [h0, vd_eq, ← ts_all (coT c) (coV c) hj, bh_ch _ _ hs.2.2.1]
  rfl
theorem thr_00 {c : List Co} (hc : cok c) : thr (coT c) (coV c) c.length (coR c) 0 0 := ⟨Nat.zero_le _, Nat.zero_le _, Nat.zero_le _, (coL_S hc).2.2.1⟩
theorem thr_nR {c : List Co} (hc : cok c) : thr (coT c) (coV c) c.length (coR c) c.length (coR c) := ⟨Nat.le_refl _, Nat.le_refl _, (coL_S hc).2.2.1, by rw [Nat.sub_self]; exact Nat.zero_le _⟩
theorem nod_00 {c : List Co} (hc : cok c) {w : Nat} (h1 : 0 < w) (h2 : w ≤ 3) : aNod c 0 0 ((w : Nat) : Int) = nvF w (coL c) (coR c) := by
  have h := nod_in (w := w) (Nat.zero_le _) (Nat.zero_le _) h2 (thr_00 hc)
  rw [NV_in (thr_00 hc) h1] at h
  exact h
theorem nod_nR {c : List Co} (hc : cok c) : aNod c ((c.length : Nat) : Int) ((coR c : Nat) : Int) 0 = bh (coL c) (coR c) := by
  have h := nod_in (w := 0) (Nat.le_refl _) (Nat.le_refl _) (by omega) (thr_nR hc)
  rw [NV_in0 (thr_nR hc), ah_ch, ts_R] at h
  rw [show ((0 : Nat) : Int) = 0 from rfl] at h
  rw [h, bh_ch _ _ (coL_S hc).2.2.1]
  rfl
theorem nod_rg {c : List Co} (hc : cok c) {j a : Nat} (hj : j ≤ c.length) (ha : a ≤ coR c) (w : Nat) (hw : w ≤ 3) : -4 ≤ aNod c ((j : Nat) : Int) ((a : Nat) : Int) ((w : Nat) : Int) ∧ aNod c ((j : Nat) : Int) ((a : Nat) : Int) ((w : Nat) : Int) ≤ 1152921504606846976 := by
  obtain ⟨hs1, hs2, hs3, hs4⟩ := coL_S hc
  by_cases ht : thr (coT c) (coV c) c.length (coR c) j a
  · have e : tsum (coL c) = tsum (clL (coT c) (coV c) 0 j) + tsum (clL (coT c) (coV c) j (c.length - j)) := ts_all (coT c) (coV c) hj
    rw [nod_in hj ha hw ht]
    rcases (show w = 0 ∨ w = 1 ∨ w = 2 ∨ w = 3 by omega) with rfl | rfl | rfl | rfl
    · rw [NV_in0 ht, ah_ch, ts_R]
      have h1 := ch_le (tsum (clL (coT c) (coV c) 0 j)) a
      have h2 := pow_60 (k := tsum (clL (coT c) (coV c) 0 j)) (by omega)
      have h3 : ((ch (tsum (clL (coT c) (coV c) 0 j)) a : Nat) : Int) ≤ 2 ^ tsum (clL (coT c) (coV c) 0 j) := by exact_mod_cast h1
      omega
    · rw [NV_in ht (by omega)]
      have h1 := bh_le (cs := clL (coT c) (coV c) j (c.length - j)) (r := coR c - a)
      have h2 := pow_60 (k := tsum (clL (coT c) (coV c) j (c.length - j))) (by omega)
      show -4 ≤ bh _ _ ∧ bh _ _ ≤ _
      omega
    · rw [NV_in ht (by omega)]
      have h1 := lg_bh (cs := clL (coT c) (coV c) j (c.length - j)) (r := coR c - a)
      have h2 := pow_60 (k := tsum (clL (coT c) (coV c) j (c.length - j))) (by omega)
      show -4 ≤ lg _ _ ∧ lg _ _ ≤ _
      omega
    · rw [NV_in ht (by omega)]
      have h1 := sh_le (cs := clL (coT c) (coV c) j (c.length - j)) (r := coR c - a) ht.2.2.2
      have h2 := pow_60 (k := tsum (clL (coT c) (coV c) j (c.length - j))) (by omega)
      show -4 ≤ sh _ _ ∧ sh _ _ ≤ _
      omega
  · rw [nod_out hj ha hw ht]
    omega
/-! turned -/
theorem srN_rev {f g : Nat → Int} {a : Nat} : ∀ {k b : Nat}, (∀ i, i < k → f (a + i) = g (b + (k - 1 - i))) → srN f a k = srN g b k
  | 0, _, _ => rfl
  | k + 1, b, h => by
    have h0 := h k (by omega)
    have ih := srN_rev (f := f) (g := g) (a := a) (k := k) (b := b + 1) (fun i hi => by
      rw [h i (by omega), show b + (k + 1 - 1 - i) = b + 1 + (k - 1 - i) by omega])
    rw [srN, srN_lf, ih, h0, show b + (k + 1 - 1 - k) = b by omega]
    omega
theorem turn_sum : ∀ (cs : List (Nat × Nat)) (r : Nat) (φ : Int → Int), r ≤ tsum cs → sumL (fun u => φ (wt cs u)) (tb cs r) = sumL (fun u => φ (wt cs u)) (tb cs (tsum cs - r))
  | [], r, φ, h => rfl
  | c :: cs, r, φ, h => by
    rw [tsum] at h
    rw [sumL_tb, sumL_tb]
    have en : nn c cs (tsum (c :: cs) - r) = nn c cs r := by
      rw [tsum]
      unfold nn
      omega
    rw [en]
    refine srN_rev (fun i hi => ?_)
    obtain ⟨h1, h2, h3⟩ := nn_x hi
    have ex : lo cs (tsum (c :: cs) - r) + (nn c cs r - 1 - i) = c.1 - (lo cs r + i) := by
      rw [tsum]
      unfold nn lo at *
      omega
    rw [ex]
    have ih := turn_sum cs (r - (lo cs r + i)) (fun v => φ ((ch c.1 (lo cs r + i) : Int) * v)) h3
    show sumL (fun u => φ ((ch c.1 (lo cs r + i) : Int) * wt cs u)) _ = sumL (fun u => φ ((ch c.1 (c.1 - (lo cs r + i)) : Int) * wt cs u)) _
    rw [ch_sym h1, show tsum (c :: cs) - r - (c.1 - (lo cs r + i)) = tsum cs - (r - (lo cs r + i)) by rw [tsum]; omega]
    exact ih
