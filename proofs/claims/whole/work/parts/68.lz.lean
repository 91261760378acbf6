/-! ===== the likeliest table, column by column ===== -/
theorem pl_congr {f f' : Nat → Int} {v v' : Int} (hv : v = v') : ∀ {k x : Nat}, (∀ i, i < k → f (x + i) = f' (x + i)) → pl f v k x = pl f' v' k x
  | 0, _, _ => rfl
  | k + 1, x, h => by
    have h0 := h 0 (by omega)
    rw [Nat.add_zero] at h0
    rw [pl, pl, h0, hv, pl_congr (f := f) (f' := f') (v := v') (v' := v') rfl (fun i hi => by rw [show x + 1 + i = x + (i + 1) by omega]; exact h (i + 1) (by omega))]
theorem lz_bst {c : List Co} : ∀ {j : Nat}, j ≤ c.length → coR c ≤ tsum (coL c) → thr (coT c) (coV c) c.length (coR c) j (lz (coT c) (coV c) c.length (coR c) j).1 ∧ (bst (coL c) (coR c)).drop j = bst (clL (coT c) (coV c) j (c.length - j)) (coR c - (lz (coT c) (coV c) c.length (coR c) j).1) ∧ (0 < j → (lz (coT c) (coV c) c.length (coR c) j).2 = (bst (coL c) (coR c)).getD (j - 1) 0)
  | 0, _, h => ⟨⟨Nat.zero_le _, Nat.zero_le _, Nat.zero_le _, h⟩, rfl, fun q => absurd q (Nat.lt_irrefl 0)⟩
  | j + 1, hj, h => by
    obtain ⟨h1, h2, -⟩ := lz_bst (c := c) (j := j) (by omega) h
    generalize hs : lz (coT c) (coV c) c.length (coR c) j = s at h1 h2
    have e : lz (coT c) (coV c) c.length (coR c) (j + 1) = (s.1 + pl (fun x => (ch (coT c ((j : Nat) : Int)).toNat x : Int) * NV (coT c) (coV c) c.length (coR c) 2 (j + 1) (s.1 + x)) (NV (coT c) (coV c) c.length (coR c) 2 j s.1) (min (coT c ((j : Nat) : Int)).toNat (coR c - s.1) - lo (clL (coT c) (coV c) (j + 1) (c.length - (j + 1))) (coR c - s.1)) (lo (clL (coT c) (coV c) (j + 1) (c.length - (j + 1))) (coR c - s.1)), pl (fun x => (ch (coT c ((j : Nat) : Int)).toNat x : Int) * NV (coT c) (coV c) c.length (coR c) 2 (j + 1) (s.1 + x)) (NV (coT c) (coV c) c.length (coR c) 2 j s.1) (min (coT c ((j : Nat) : Int)).toNat (coR c - s.1) - lo (clL (coT c) (coV c) (j + 1) (c.length - (j + 1))) (coR c - s.1)) (lo (clL (coT c) (coV c) (j + 1) (c.length - (j + 1))) (coR c - s.1))) := by
      rw [lz, hs]
    have hlm := thr_lo h1 (show j < c.length by omega)
    have e9 : ∀ x, coR c - (s.1 + x) = coR c - s.1 - x := fun x => Nat.sub_add_eq _ _ _
    have hp : pl (fun x => (ch (coT c ((j : Nat) : Int)).toNat x : Int) * NV (coT c) (coV c) c.length (coR c) 2 (j + 1) (s.1 + x)) (NV (coT c) (coV c) c.length (coR c) 2 j s.1) (min (coT c ((j : Nat) : Int)).toNat (coR c - s.1) - lo (clL (coT c) (coV c) (j + 1) (c.length - (j + 1))) (coR c - s.1)) (lo (clL (coT c) (coV c) (j + 1) (c.length - (j + 1))) (coR c - s.1)) = pl (fun x => (ch (coT c ((j : Nat) : Int)).toNat x : Int) * lg (clL (coT c) (coV c) (j + 1) (c.length - (j + 1))) (coR c - s.1 - x)) (lg (((coT c ((j : Nat) : Int)).toNat, (coV c ((j : Nat) : Int)).toNat) :: clL (coT c) (coV c) (j + 1) (c.length - (j + 1))) (coR c - s.1)) (nn ((coT c ((j : Nat) : Int)).toNat, (coV c ((j : Nat) : Int)).toNat) (clL (coT c) (coV c) (j + 1) (c.length - (j + 1))) (coR c - s.1) - 1) (lo (clL (coT c) (coV c) (j + 1) (c.length - (j + 1))) (coR c - s.1)) := by
      have ek : min (coT c ((j : Nat) : Int)).toNat (coR c - s.1) - lo (clL (coT c) (coV c) (j + 1) (c.length - (j + 1))) (coR c - s.1) = nn ((coT c ((j : Nat) : Int)).toNat, (coV c ((j : Nat) : Int)).toNat) (clL (coT c) (coV c) (j + 1) (c.length - (j + 1))) (coR c - s.1) - 1 := by
        unfold nn lo
        omega
      rw [← ek]
      refine pl_congr ?_ (fun i hi => ?_)
      · rw [NV_in h1 (by omega), ← clL_c (show j < c.length by omega)]
        rfl
      · have ht := thr_next' h1 (show j < c.length by omega) (x := lo (clL (coT c) (coV c) (j + 1) (c.length - (j + 1))) (coR c - s.1) + i) (by omega) (by omega)
        show _ * NV _ _ _ _ 2 (j + 1) (s.1 + _) = _ * lg _ (coR c - s.1 - _)
        rw [NV_in ht (by omega), e9]
        rfl
    have hd := h2
    rw [clL_c (show j < c.length by omega), bst, ← hp] at hd
    have hlen : j < (bst (coL c) (coR c)).length := by
      rcases Nat.lt_or_ge j (bst (coL c) (coR c)).length with q | q
      · exact q
      · rw [List.drop_eq_nil_iff.mpr q] at hd
        exact absurd hd (by simp)
    rw [drop_c hlen] at hd
    obtain ⟨d1, d2⟩ := List.cons.inj hd
    have hpr := pl_rg (fun x => (ch (coT c ((j : Nat) : Int)).toNat x : Int) * NV (coT c) (coV c) c.length (coR c) 2 (j + 1) (s.1 + x)) (NV (coT c) (coV c) c.length (coR c) 2 j s.1) (min (coT c ((j : Nat) : Int)).toNat (coR c - s.1) - lo (clL (coT c) (coV c) (j + 1) (c.length - (j + 1))) (coR c - s.1)) (lo (clL (coT c) (coV c) (j + 1) (c.length - (j + 1))) (coR c - s.1))
    rw [e]
    refine ⟨thr_next' h1 (by omega) hpr.1 (by omega), ?_, fun _ => by rw [Nat.add_sub_cancel]; exact d1.symm⟩
    rw [d2, e9]
theorem aLik_at {c : List Co} (hc : cok c) {j : Nat} (hj : j < c.length) : aLik c ((j : Nat) : Int) = (((bst (coL c) (coR c)).getD j 0 : Nat) : Int) := by
  unfold aLik
  rw [if_pos (by omega), Int.toNat_natCast, show min (j + 1) c.length = j + 1 by omega, (lz_bst (c := c) (j := j + 1) (by omega) (coL_S hc).2.2.1).2.2 (by omega), Nat.add_sub_cancel]
def rgM (mw fw ls gs : Int) : Prop := (-9223372036854775808 ≤ mw ∧ mw < 9223372036854775808) ∧ (-9223372036854775808 ≤ fw ∧ fw < 9223372036854775808) ∧ (-2147483648 ≤ ls ∧ ls < 2147483648) ∧ (-2147483648 ≤ gs ∧ gs < 2147483648)
theorem GTrg {c : List Co} (hc : cok c) : rgM (lg (coL c) (coR c)) (sh (coL c) (coR c)) (les (coL c) (coR c)) (grs (coL c) (coR c)) := by
  obtain ⟨s1, s2, s3, s4⟩ := coL_S hc
  have h1 := lg_bh (cs := coL c) (r := coR c)
  have h2 := sh_le s3
  have h3 := grs_540 hc
  have h4 := pow_60 (k := tsum (coL c)) s2
  unfold rgM
  omega
theorem cnt_jS (cs : Nat → List Co) : ∀ k : Nat, cntS cs 4 k = jS cs k
  | 0 => rfl
  | k + 1 => by
    rw [cntS, jS, cnt_jS cs k]
    rfl
