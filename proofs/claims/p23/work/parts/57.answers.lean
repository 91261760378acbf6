/-! ===== the answers, told over a stratum's columns ===== -/
theorem coL_S {c : List Co} (hc : cok c) : okS (coL c) ∧ tsum (coL c) ≤ 60 ∧ coR c ≤ tsum (coL c) ∧ (coL c).length = c.length := by
  have h0 := hc.1
  have h1 := co_okT hc
  have h2 := okT_ts h1 (m := c.length) (j := 0) (by omega)
  have h3 := (co_bd hc c.length (Nat.le_refl _)).2.1
  have h4 := (co_bd hc c.length (Nat.le_refl _)).1
  have e : clL (coT c) (coV c) 0 c.length = coL c := rfl
  rw [e] at h2 h3
  refine ⟨okT_S h1 (j := 0) (m := c.length) (by omega), by omega, ?_, clL_len _ _ _ _⟩
  unfold coR
  omega
theorem coL_cons {c : List Co} (h : 2 ≤ c.length) : ∃ d ds, coL c = d :: ds := by
  unfold coL
  obtain ⟨m, hm⟩ : ∃ m, c.length = m + 1 := ⟨c.length - 1, by omega⟩
  rw [hm]
  exact ⟨_, _, rfl⟩
def isS (c : List Co) (law : Int) (u : List Nat) : Bool := if law = 0 then decide (wt (coL c) u ≤ coP c) else if law = 1 then decide (coS c ≤ sc (coL c) u) else decide (sc (coL c) u ≤ coS c)
def stW (c : List Co) (law : Int) : Int := sumL (fun u => if isS c law u = true then wt (coL c) u else 0) (tb (coL c) (coR c))
def stT (c : List Co) (law : Int) : Int := sumL (fun u => if isS c law u = true then 1 else 0) (tb (coL c) (coR c))
theorem isS_b (c : List Co) {law : Int} (h : ¬ law = 0) (u : List Nat) (v : Int) : (if (law = 1 ∧ coS c ≤ sc (coL c) u) ∨ (¬ law = 1 ∧ sc (coL c) u ≤ coS c) then v else 0) = if isS c law u = true then v else 0 := by
  unfold isS
  rw [if_neg h]
  by_cases h1 : law = 1
  · rw [if_pos h1]
    by_cases h2 : coS c ≤ sc (coL c) u
    · rw [if_pos (Or.inl ⟨h1, h2⟩), if_pos (by simpa using h2)]
    · rw [if_neg (fun q => by rcases q with q | q; exact h2 q.2; exact q.1 h1), if_neg (by simpa using h2)]
  · rw [if_neg h1]
    by_cases h2 : sc (coL c) u ≤ coS c
    · rw [if_pos (Or.inr ⟨h1, h2⟩), if_pos (by simpa using h2)]
    · rw [if_neg (fun q => by rcases q with q | q; exact h1 q.1; exact h2 q.2), if_neg (by simpa using h2)]
theorem sc_540 {c : List Co} (hc : cok c) {u : List Nat} (hu : u ∈ tb (coL c) (coR c)) : 0 ≤ sc (coL c) u ∧ sc (coL c) u ≤ 540 := by
  obtain ⟨h1, h2, h3, h4⟩ := coL_S hc
  have h5 := sc_les hu
  have h6 := les_rg (cs := coL c) (r := coR c)
  have h7 := grs_rg (r := coR c) h1
  omega
theorem stW_eq {c : List Co} (hc : cok c) (h2 : 2 ≤ c.length) (law : Int) : (if law = 0 then rk 0 (coP c) (coL c) (coR c) 1 else sm (bw (swF (coL c) (coR c)) law (coS c)) 541) = stW c law := by
  by_cases hl : law = 0
  · rw [if_pos hl]
    obtain ⟨d, ds, e⟩ := coL_cons h2
    unfold stW isS
    rw [e, rk_tb.1]
    refine sumL_congr (fun u _ => ?_)
    rw [if_pos hl]
    by_cases h : wt (d :: ds) u ≤ coP c
    · rw [if_pos h, if_pos (by simpa using h)]
    · rw [if_neg h, if_neg (by simpa using h)]
  · rw [if_neg hl]
    have e : swF (coL c) (coR c) = fun y => sumL (fun u => if sc (coL c) u = y then wt (coL c) u else 0) (tb (coL c) (coR c)) := by
      funext y
      unfold swF
      rw [sW_tb]
      exact sumL_congr (fun u _ => by rw [Int.zero_add, Int.one_mul])
    rw [e, bw_tb (fun u hu => sc_540 hc hu)]
    exact sumL_congr (fun u _ => isS_b c hl u _)
theorem stT_eq {c : List Co} (hc : cok c) (h2 : 2 ≤ c.length) (law : Int) : (if law = 0 then rk 1 (coP c) (coL c) (coR c) 1 else sm (bw (stF (coL c) (coR c)) law (coS c)) 541) = stT c law := by
  by_cases hl : law = 0
  · rw [if_pos hl]
    obtain ⟨d, ds, e⟩ := coL_cons h2
    unfold stT isS
    rw [e, rk_tb.2]
    refine sumL_congr (fun u _ => ?_)
    rw [if_pos hl]
    by_cases h : wt (d :: ds) u ≤ coP c
    · rw [if_pos h, if_pos (by simpa using h)]
    · rw [if_neg h, if_neg (by simpa using h)]
  · rw [if_neg hl]
    have e : stF (coL c) (coR c) = fun y => sumL (fun u => if sc (coL c) u = y then 1 else 0) (tb (coL c) (coR c)) := by
      funext y
      unfold stF
      rw [sT_tb]
      exact sumL_congr (fun u _ => by rw [Int.zero_add])
    rw [e, bw_tb (fun u hu => sc_540 hc hu)]
    exact sumL_congr (fun u _ => isS_b c hl u _)
theorem stW_bd {c : List Co} (hc : cok c) (law : Int) : 0 ≤ stW c law ∧ stW c law ≤ bh (coL c) (coR c) ∧ 0 < bh (coL c) (coR c) ∧ bh (coL c) (coR c) ≤ 1152921504606846976 := by
  obtain ⟨h1, h2, h3, h4⟩ := coL_S hc
  have h5 := bh_le (cs := coL c) (r := coR c)
  have h6 := pow_60 (k := tsum (coL c)) h2
  refine ⟨?_, ?_, bh_pos h3, by omega⟩
  · unfold stW
    refine sumL_nn (fun u hu => ?_)
    have := wt_pos hu
    split <;> omega
  · unfold stW
    rw [bh_tb]
    refine sumL_le (fun u hu => ?_)
    have := wt_pos hu
    split <;> omega
theorem lk_rg : ∀ {cs : List (Nat × Nat)} {r : Nat}, okS cs → 0 ≤ lk cs r ∧ lk cs r + 2 ≤ 2 * 13 ^ cs.length
  | [], _, _ => by simp [lk]
  | c :: cs, r, h => by
    have hc := h c List.mem_cons_self
    have ih : ∀ x, 0 ≤ lk cs (r - x) ∧ lk cs (r - x) + 2 ≤ 2 * 13 ^ cs.length := fun x => lk_rg (fun d hd => h d (List.mem_cons_of_mem _ hd))
    have hp : (0 : Int) < 13 ^ cs.length := Int.pow_pos (by omega)
    rw [lk, List.length_cons, Int.pow_succ]
    generalize (13 : Int) ^ cs.length = q at ih hp ⊢
    have key : ∀ k : Nat, 0 ≤ srN (fun x => 1 + lk cs (r - x)) (lo cs r) k ∧ srN (fun x => 1 + lk cs (r - x)) (lo cs r) k ≤ (k : Int) * (2 * q - 1) := by
      intro k
      induction k with
      | zero => rw [srN]; omega
      | succ k ihk =>
        have h1 := ih (lo cs r + k)
        rw [srN]
        have h2 : ((k + 1 : Nat) : Int) * (2 * q - 1) = (k : Int) * (2 * q - 1) + (2 * q - 1) := by
          rw [Int.natCast_add, Int.add_mul]
          simp
        show 0 ≤ _ + (1 + lk cs (r - (lo cs r + k))) ∧ _ + (1 + lk cs (r - (lo cs r + k))) ≤ _
        omega
    have hk := key (nn c cs r)
    have h3 : ((nn c cs r : Nat) : Int) * (2 * q - 1) ≤ 13 * (2 * q - 1) := Int.mul_le_mul_of_nonneg_right (by unfold nn; omega) (by omega)
    omega
theorem lk_small {c : List Co} (hc : cok c) : 0 ≤ lk (coL c) (coR c) ∧ lk (coL c) (coR c) < 2147483648 := by
  obtain ⟨h1, h2, h3, h4⟩ := coL_S hc
  have h5 := lk_rg (r := coR c) h1
  rw [h4] at h5
  have h6 : (13 : Int) ^ c.length ≤ 371293 := by
    have := hc.1
    rcases (show c.length = 0 ∨ c.length = 1 ∨ c.length = 2 ∨ c.length = 3 ∨ c.length = 4 ∨ c.length = 5 by omega) with e | e | e | e | e | e <;> rw [e] <;> decide
  omega
theorem tc_small {c : List Co} (hc : cok c) : 0 ≤ tc (coL c) (coR c) ∧ tc (coL c) (coR c) < 2147483648 := by
  have h := tc_rg (r := coR c) (co_okT hc) (show 0 + c.length ≤ c.length by omega)
  have e : clL (coT c) (coV c) 0 c.length = coL c := rfl
  rw [e] at h
  omega
/-! lowest terms -/
def fb : Nat → Nat
  | 0 => 0
  | 1 => 1
  | n + 2 => fb (n + 1) + fb n
theorem fb_s (n : Nat) : fb (n + 2) = fb (n + 1) + fb n := rfl
theorem fb_101 : 9223372036854775808 ≤ fb 101 := by simp [fb]
theorem fb_step {i p q : Nat} (hi : i < 100) (hq : 0 < q) (hq2 : q < 9223372036854775808) (h : i = 0 ∨ (q < p ∧ (p < fb (102 - i) ∨ q < fb (101 - i)))) : i + 1 = 0 ∨ (p % q < q ∧ (q < fb (102 - (i + 1)) ∨ p % q < fb (101 - (i + 1)))) := by
  refine Or.inr ⟨Nat.mod_lt _ hq, ?_⟩
  have e1 : 102 - (i + 1) = 101 - i := by omega
  have e2 : 101 - (i + 1) = 100 - i := by omega
  rw [e1, e2]
  rcases h with h | ⟨h1, h2 | h2⟩
  · subst h
    have := fb_101
    exact Or.inl (by show q < fb 101; omega)
  · by_cases h3 : q < fb (101 - i)
    · exact Or.inl h3
    · refine Or.inr ?_
      have h4 : fb (102 - i) = fb (101 - i) + fb (100 - i) := by
        rw [show 102 - i = (100 - i) + 2 by omega, fb_s, show 100 - i + 1 = 101 - i by omega]
      have h5 : p % q ≤ p - q := by
        rw [Nat.mod_eq_sub_mod (by omega)]
        exact Nat.mod_le _ _
      omega
  · exact Or.inl h2
theorem fb_end {p q : Nat} {i : Nat} (hi : 100 ≤ i ∧ i ≤ 100) (h : i = 0 ∨ (q < p ∧ (p < fb (102 - i) ∨ q < fb (101 - i)))) : q = 0 := by
  have e : i = 100 := by omega
  subst e
  have e1 : fb (102 - 100) = 1 := rfl
  have e2 : fb (101 - 100) = 1 := rfl
  rw [e1, e2] at h
  omega
def lowT (a b part : Int) : Int := if part = 0 then (((a.toNat / Nat.gcd a.toNat b.toNat) : Nat) : Int) else (((b.toNat / Nat.gcd a.toNat b.toNat) : Nat) : Int)
/-! answers -/
def aCol (c : List Co) (j what : Int) : Int := if 0 ≤ j ∧ j < c.length then (if what = 0 then coT c j else if what = 1 then coX c j else if what = 2 then coV c j else -1) else -1
def aStr (c : List Co) (what : Int) : Int := if what = 0 then ((c.length : Nat) : Int) else if what = 1 then sm (coT c) c.length else if what = 2 then ((coR c : Nat) : Int) else if what = 3 then coS c else if what = 4 then tc (coL c) (coR c) else if what = 5 then les (coL c) (coR c) else if what = 6 then grs (coL c) (coR c) else -1
def aWay (c : List Co) (what : Int) : Int := if what = 0 then coP c else if what = 1 then bh (coL c) (coR c) else if what = 2 then lg (coL c) (coR c) else if what = 3 then sh (coL c) (coR c) else -1
def aCha (c : List Co) (law part : Int) : Int := if 0 ≤ law ∧ law ≤ 2 ∧ 0 ≤ part ∧ part ≤ 1 then lowT (stW c law) (bh (coL c) (coR c)) part else -1
def aSta (c : List Co) (law : Int) : Int := if 0 ≤ law ∧ law ≤ 2 then stT c law else -1
noncomputable def aNod (c : List Co) (j a what : Int) : Int := if 0 ≤ what ∧ what ≤ 3 ∧ 0 ≤ j ∧ j ≤ c.length ∧ 0 ≤ a ∧ a ≤ coR c then (if 0 < NV (coT c) (coV c) c.length (coR c) 1 j.toNat a.toNat then NV (coT c) (coV c) c.length (coR c) what.toNat j.toNat a.toNat else -4) else -1
def aLoo (c : List Co) (what : Int) : Int := if what = 0 then rk 2 (coP c) (coL c) (coR c) 1 else if what = 1 then lk (coL c) (coR c) else -1
noncomputable def aTab (c : List Co) (t j : Int) : Int := if 0 ≤ j ∧ j < c.length ∧ 0 ≤ t ∧ t < tc (coL c) (coR c) then ((((un (coT c) (coV c) c.length (coR c) t (min (j.toNat + 1) c.length)).2.2 : Nat)) : Int) else -1
noncomputable def aRan (c : List Co) : Int := sm (rp (coT c) (coV c) (coX c) c.length (coR c)) c.length
noncomputable def aLik (c : List Co) (j : Int) : Int := if 0 ≤ j ∧ j < c.length then ((((lz (coT c) (coV c) c.length (coR c) (min (j.toNat + 1) c.length)).2 : Nat)) : Int) else -1
