/-! ===== tables by number and back, one behind the other; chances in lowest terms; looks ===== -/
theorem pk_len {α : Type} {F : Nat → List α} {f : Nat → Int} : ∀ (k a : Nat) (t : Int), (∀ i, i ≤ k → f (a + i) = (((F (a + i)).length : Nat) : Int)) → 0 ≤ t → t < ((((List.range' a (k + 1)).flatMap F).length : Nat) : Int) → ((List.range' a (k + 1)).flatMap F)[t.toNat]? = (F (pk f k a t).1)[(pk f k a t).2.toNat]? ∧ 0 ≤ (pk f k a t).2 ∧ (pk f k a t).2 < (((F (pk f k a t).1).length : Nat) : Int)
  | 0, a, t, h, h1, h2 => by
    rw [pk]
    have e : (List.range' a (0 + 1)).flatMap F = F a := by simp
    rw [e] at h2 ⊢
    exact ⟨rfl, h1, h2⟩
  | k + 1, a, t, h, h1, h2 => by
    have e : (List.range' a (k + 1 + 1)).flatMap F = F a ++ (List.range' (a + 1) (k + 1)).flatMap F := by
      rw [List.range'_succ, List.flatMap_cons]
    have h0 := h 0 (by omega)
    rw [Nat.add_zero] at h0
    rw [e, List.length_append] at h2
    rw [e, pk]
    by_cases hq : t < f a
    · rw [if_pos hq, List.getElem?_append_left (by omega)]
      exact ⟨rfl, h1, by show t < (((F a).length : Nat) : Int); omega⟩
    · rw [if_neg hq, List.getElem?_append_right (by omega)]
      have ih := pk_len (F := F) (f := f) k (a + 1) (t - f a) (fun i hi => by rw [show a + 1 + i = a + (i + 1) by omega]; exact h (i + 1) (by omega)) (by omega) (by omega)
      rw [show (t - f a).toNat = t.toNat - (F a).length by omega] at ih
      exact ih
theorem tb_num {c : List Co} (hc : cok c) {t : Nat} {u : List Nat} (hu : (tb (coL c) (coR c))[t]? = some u) : ∀ k : Nat, k ≤ c.length → thr (coT c) (coV c) c.length (coR c) k (un (coT c) (coV c) c.length (coR c) ((t : Nat) : Int) k).1 ∧ 0 ≤ (un (coT c) (coV c) c.length (coR c) ((t : Nat) : Int) k).2.1 ∧ (tb (clL (coT c) (coV c) k (c.length - k)) (coR c - (un (coT c) (coV c) c.length (coR c) ((t : Nat) : Int) k).1))[(un (coT c) (coV c) c.length (coR c) ((t : Nat) : Int) k).2.1.toNat]? = some (u.drop k) ∧ (0 < k → (un (coT c) (coV c) c.length (coR c) ((t : Nat) : Int) k).2.2 = u.getD (k - 1) 0)
  | 0, _ => ⟨thr_00 hc, Int.natCast_nonneg t, by
      show (tb (coL c) (coR c - 0))[(((t : Nat) : Int)).toNat]? = some u
      rw [Nat.sub_zero, Int.toNat_natCast]
      exact hu, fun h => absurd h (Nat.lt_irrefl 0)⟩
  | k + 1, hk => by
    obtain ⟨ht, hl, hd, -⟩ := tb_num hc hu k (by omega)
    rw [un]
    generalize un (coT c) (coV c) c.length (coR c) ((t : Nat) : Int) k = s at ht hl hd ⊢
    obtain ⟨a, l, x0⟩ := s
    have hd' : (tb (clL (coT c) (coV c) k (c.length - k)) (coR c - a))[l.toNat]? = some (u.drop k) := hd
    have ht' : thr (coT c) (coV c) c.length (coR c) k a := ht
    have hl' : 0 ≤ l := hl
    have hlm := thr_lo ht' (show k < c.length by omega)
    show thr _ _ _ _ (k + 1) (a + (pk (fun x => NV (coT c) (coV c) c.length (coR c) 4 (k + 1) (a + x)) (min (coT c ((k : Nat) : Int)).toNat (coR c - a) - lo (clL (coT c) (coV c) (k + 1) (c.length - (k + 1))) (coR c - a)) (lo (clL (coT c) (coV c) (k + 1) (c.length - (k + 1))) (coR c - a)) l).1) ∧ 0 ≤ (pk (fun x => NV (coT c) (coV c) c.length (coR c) 4 (k + 1) (a + x)) (min (coT c ((k : Nat) : Int)).toNat (coR c - a) - lo (clL (coT c) (coV c) (k + 1) (c.length - (k + 1))) (coR c - a)) (lo (clL (coT c) (coV c) (k + 1) (c.length - (k + 1))) (coR c - a)) l).2 ∧ (tb (clL (coT c) (coV c) (k + 1) (c.length - (k + 1))) (coR c - (a + (pk (fun x => NV (coT c) (coV c) c.length (coR c) 4 (k + 1) (a + x)) (min (coT c ((k : Nat) : Int)).toNat (coR c - a) - lo (clL (coT c) (coV c) (k + 1) (c.length - (k + 1))) (coR c - a)) (lo (clL (coT c) (coV c) (k + 1) (c.length - (k + 1))) (coR c - a)) l).1)))[(pk (fun x => NV (coT c) (coV c) c.length (coR c) 4 (k + 1) (a + x)) (min (coT c ((k : Nat) : Int)).toNat (coR c - a) - lo (clL (coT c) (coV c) (k + 1) (c.length - (k + 1))) (coR c - a)) (lo (clL (coT c) (coV c) (k + 1) (c.length - (k + 1))) (coR c - a)) l).2.toNat]? = some (u.drop (k + 1)) ∧ (0 < k + 1 → (pk (fun x => NV (coT c) (coV c) c.length (coR c) 4 (k + 1) (a + x)) (min (coT c ((k : Nat) : Int)).toNat (coR c - a) - lo (clL (coT c) (coV c) (k + 1) (c.length - (k + 1))) (coR c - a)) (lo (clL (coT c) (coV c) (k + 1) (c.length - (k + 1))) (coR c - a)) l).1 = u.getD (k + 1 - 1) 0)
    rw [clL_c (show k < c.length by omega)] at hd'
    generalize hcs : clL (coT c) (coV c) (k + 1) (c.length - (k + 1)) = cs at hd' hlm ⊢
    generalize hm : min (coT c ((k : Nat) : Int)).toNat (coR c - a) - lo cs (coR c - a) = m
    have hnn : nn ((coT c ((k : Nat) : Int)).toNat, (coV c ((k : Nat) : Int)).toNat) cs (coR c - a) = m + 1 := by
      rw [← hm]
      unfold nn lo at *
      show min (coT c ((k : Nat) : Int)).toNat (coR c - a) + 1 - (coR c - a - tsum cs) = _
      omega
    have hf : ∀ i, i ≤ m → NV (coT c) (coV c) c.length (coR c) 4 (k + 1) (a + (lo cs (coR c - a) + i)) = ((((tb cs (coR c - a - (lo cs (coR c - a) + i))).map (fun v => (lo cs (coR c - a) + i) :: v)).length : Nat) : Int) := fun i hi => by
      have hn : thr (coT c) (coV c) c.length (coR c) (k + 1) (a + (lo cs (coR c - a) + i)) := thr_next' ht' (by omega) (by rw [hcs]; omega) (by omega)
      rw [NV_in hn (by omega), List.length_map, ← tc_len, hcs, Nat.sub_add_eq]
      rfl
    rw [tb, hnn] at hd'
    have hlt : l < (((((List.range' (lo cs (coR c - a)) (m + 1)).flatMap (fun x => (tb cs (coR c - a - x)).map (fun u => x :: u))).length : Nat)) : Int) := by
      have h9 := (List.getElem?_eq_some_iff.mp hd').1
      omega
    obtain ⟨p1, p2, p3⟩ := pk_len (F := fun x => (tb cs (coR c - a - x)).map (fun u => x :: u)) (f := fun x => NV (coT c) (coV c) c.length (coR c) 4 (k + 1) (a + x)) m (lo cs (coR c - a)) l hf hl' hlt
    have hrg := pk_rg (fun x => NV (coT c) (coV c) c.length (coR c) 4 (k + 1) (a + x)) m (lo cs (coR c - a)) l
    generalize pk (fun x => NV (coT c) (coV c) c.length (coR c) 4 (k + 1) (a + x)) m (lo cs (coR c - a)) l = p at p1 p2 p3 hrg ⊢
    rw [hd'] at p1
    have p1' : some (u.drop k) = ((tb cs (coR c - a - p.1)).map (fun v => p.1 :: v))[p.2.toNat]? := p1
    rw [List.getElem?_map] at p1'
    obtain ⟨v, hv, hvu⟩ := Option.map_eq_some_iff.mp p1'.symm
    have hkl : k < u.length := by
      rcases Nat.lt_or_ge k u.length with q | q
      · exact q
      · rw [List.drop_eq_nil_iff.mpr q] at hvu
        exact absurd hvu (List.cons_ne_nil _ _)
    rw [drop_c hkl] at hvu
    obtain ⟨q1, q2⟩ := List.cons.inj hvu
    refine ⟨thr_next' ht' (by omega) (by rw [hcs]; exact hrg.1) (by omega), p2, ?_, fun _ => q1⟩
    rw [Nat.sub_add_eq, ← q2]
    exact hv
theorem tab_at {c : List Co} (hc : cok c) {t : Nat} {u : List Nat} (hu : (tb (coL c) (coR c))[t]? = some u) {j : Nat} (hj : j < c.length) : aTab c ((t : Nat) : Int) ((j : Nat) : Int) = ((u.getD j 0 : Nat) : Int) := by
  have h1 := tb_num hc hu (j + 1) (by omega)
  have h2 := h1.2.2.2 (by omega)
  have hlt := (List.getElem?_eq_some_iff.mp hu).1
  have htc := tc_len (coL c) (coR c)
  unfold aTab
  rw [if_pos (by omega), Int.toNat_natCast, show min (j + 1) c.length = j + 1 by omega, h2, Nat.add_sub_cancel]
theorem nxt_lex : ∀ {cs : List (Nat × Nat)} {u w : List Nat}, nxt cs u = some w → ∃ j, j < u.length ∧ (∀ i, i < j → u.getD i 0 = w.getD i 0) ∧ u.getD j 0 < w.getD j 0
  | [], u, w, h => by
    rw [nxt_nil] at h
    cases h
  | c :: cs, [], w, h => by
    have h9 : (none : Option (List Nat)) = some w := h
    cases h9
  | c :: cs, x :: u, w, h => by
    have h1 : (match nxt cs u with | some v => some (x :: v) | none => if x < c.1 ∧ 0 < lsum u then some ((x + 1) :: least cs (lsum u - 1)) else none) = some w := h
    cases hn : nxt cs u with
    | some v =>
      rw [hn] at h1
      obtain rfl : x :: v = w := Option.some.inj h1
      obtain ⟨j, j1, j2, j3⟩ := nxt_lex hn
      refine ⟨j + 1, Nat.succ_lt_succ j1, fun i hi => ?_, ?_⟩
      · cases i with
        | zero => rfl
        | succ i =>
          have := j2 i (by omega)
          simpa [List.getD_eq_getElem?_getD] using this
      · simpa [List.getD_eq_getElem?_getD] using j3
    | none =>
      rw [hn] at h1
      by_cases hq : x < c.1 ∧ 0 < lsum u
      · rw [if_pos hq] at h1
        obtain rfl : (x + 1) :: least cs (lsum u - 1) = w := Option.some.inj h1
        exact ⟨0, Nat.succ_pos _, fun i hi => absurd hi (Nat.not_lt_zero i), Nat.lt_succ_self x⟩
      · rw [if_neg hq] at h1
        cases h1
theorem tb_lex {c : List Co} (hc : cok c) {t : Nat} {u w : List Nat} (hu : (tb (coL c) (coR c))[t]? = some u) (hw : (tb (coL c) (coR c))[t + 1]? = some w) : ∃ j, j < c.length ∧ (∀ i, i < j → u.getD i 0 = w.getD i 0) ∧ u.getD j 0 < w.getD j 0 := by
  obtain ⟨hl, he⟩ := List.getElem?_eq_some_iff.mp hu
  have e : tb (coL c) (coR c) = (tb (coL c) (coR c)).take t ++ u :: (tb (coL c) (coR c)).drop (t + 1) := by
    rw [← he, ← List.drop_eq_getElem_cons hl, List.take_append_drop]
  have hn := nxt_tb (coL_S hc).2.2.1 e
  have hh : hdE ((tb (coL c) (coR c)).drop (t + 1)) none = some w := by
    have h9 : ((tb (coL c) (coR c)).drop (t + 1))[0]? = some w := by
      rw [List.getElem?_drop]
      exact hw
    cases hdr : (tb (coL c) (coR c)).drop (t + 1) with
    | nil => rw [hdr] at h9; cases h9
    | cons v l =>
      rw [hdr] at h9
      exact h9
  rw [hh] at hn
  obtain ⟨j, j1, j2, j3⟩ := nxt_lex hn
  have hul := (tb_tbc (List.mem_of_getElem? hu)).1
  exact ⟨j, by omega, j2, j3⟩
theorem seen_at {c : List Co} (hc : cok c) : 0 ≤ aRan c ∧ aRan c < tc (coL c) (coR c) ∧ (tb (coL c) (coR c))[(aRan c).toNat]? = some (xsL c) := by
  obtain ⟨pre, post, e, hl, -, -⟩ := rkI_tb (seen_in hc)
  rw [aRan_at hc] at hl
  have htc := tc_len (coL c) (coR c)
  rw [e, List.length_append, List.length_cons] at htc
  refine ⟨by omega, by omega, ?_⟩
  rw [e, ← hl, Int.toNat_natCast, List.getElem?_append_right (Nat.le_refl _), Nat.sub_self]
  rfl
theorem tab_seen {c : List Co} (hc : cok c) {j : Nat} (hj : j < c.length) : aTab c (aRan c) ((j : Nat) : Int) = coX c ((j : Nat) : Int) := by
  obtain ⟨h1, h2, h3⟩ := seen_at hc
  have h4 := tab_at hc h3 hj
  rw [Int.toNat_of_nonneg h1, xsL_get hj] at h4
  have h5 := (hc.2 ((j : Nat) : Int) (by omega) (by omega)).2.1
  rw [h4]
  omega
theorem tab_rg {c : List Co} (hc : cok c) (t j : Int) : -1 ≤ aTab c t j ∧ aTab c t j ≤ 12 := by
  by_cases h : 0 ≤ j ∧ j < c.length ∧ 0 ≤ t ∧ t < tc (coL c) (coR c)
  · obtain ⟨k, rfl⟩ := Int.eq_ofNat_of_zero_le h.1
    obtain ⟨i, rfl⟩ := Int.eq_ofNat_of_zero_le h.2.2.1
    have htc := tc_len (coL c) (coR c)
    have hi : i < (tb (coL c) (coR c)).length := by omega
    have hu := List.getElem?_eq_getElem hi
    rw [tab_at hc hu (by omega)]
    have hb := (tb_tbc (List.mem_of_getElem? hu)).2 k (by omega)
    have hT := (hc.2 ((k : Nat) : Int) (by omega) (by omega)).1
    omega
  · unfold aTab
    rw [if_neg h]
    omega
/-- table t of a stratum -/
def tbl (c : List Co) (t : Nat) : List Nat := (tb (coL c) (coR c)).getD t []
theorem tbl_in {c : List Co} {t : Nat} (h : ((t : Nat) : Int) < tc (coL c) (coR c)) : (tb (coL c) (coR c))[t]? = some (tbl c t) := by
  have htc := tc_len (coL c) (coR c)
  have hi : t < (tb (coL c) (coR c)).length := by omega
  unfold tbl
  rw [List.getD_eq_getElem?_getD, List.getElem?_eq_getElem hi]
  rfl
theorem lsum_sm {u : List Nat} : ∀ {n : Nat}, u.length = n → ((lsum u : Nat) : Int) = sm (fun j => ((u.getD j.toNat 0 : Nat) : Int)) n := by
  have key : ∀ k : Nat, k ≤ u.length → ((lsum u : Nat) : Int) = sm (fun j => ((u.getD j.toNat 0 : Nat) : Int)) k + ((lsum (u.drop k) : Nat) : Int) := by
    intro k
    induction k with
    | zero => intro _; simp [sm]
    | succ k ih =>
      intro hk
      rw [ih (by omega), lsum_c (show k < u.length by omega), sm_1, Int.toNat_natCast]
      omega
  intro n hn
  subst hn
  rw [key u.length (Nat.le_refl _), List.drop_length]
  show _ + ((0 : Nat) : Int) = _
  omega
/-! sums over all tables -/
theorem sumL_plus {α : Type} (f g : α → Int) : ∀ l : List α, sumL (fun u => f u + g u) l = sumL f l + sumL g l
  | [] => rfl
  | u :: l => by
    show f u + g u + sumL _ l = (f u + sumL f l) + (g u + sumL g l)
    rw [sumL_plus f g l]
    omega
theorem sumL_extra {α : Type} {f g : α → Int} {d : Int} {x : α} : ∀ {l : List α}, (∀ u ∈ l, f u ≤ g u) → x ∈ l → f x + d ≤ g x → sumL f l + d ≤ sumL g l
  | [], _, hx, _ => absurd hx List.not_mem_nil
  | u :: l, h, hx, hd => by
    show f u + sumL f l + d ≤ g u + sumL g l
    have h1 := h u List.mem_cons_self
    have h2 : ∀ v ∈ l, f v ≤ g v := fun v hv => h v (List.mem_cons_of_mem _ hv)
    rcases List.mem_cons.mp hx with q | q
    · subst q
      have h3 := sumL_le h2
      omega
    · have h3 := sumL_extra h2 q hd
      omega
theorem wt_xs {c : List Co} : ∀ {m j : Nat}, j + m = c.length → pr (coW c) j * wt (clL (coT c) (coV c) j m) ((xsL c).drop j) = pr (coW c) c.length
  | 0, j, h => by
    have e : (xsL c).drop j = [] := drop_len (by rw [xsL_len]; omega)
    rw [e, show j = c.length by omega]
    show _ * wt [] [] = _
    rw [wt_nil, Int.mul_one]
  | m + 1, j, h => by
    rw [drop_c (by rw [xsL_len]; omega), xsL_get (by omega)]
    have ih := wt_xs (c := c) (m := m) (j := j + 1) (by omega)
    rw [pr_1] at ih
    show pr (coW c) j * ((ch (coT c ((j : Nat) : Int)).toNat (coX c ((j : Nat) : Int)).toNat : Int) * wt (clL (coT c) (coV c) (j + 1) m) ((xsL c).drop (j + 1))) = _
    rw [← Int.mul_assoc]
    exact ih
theorem wt_seen (c : List Co) : wt (coL c) (xsL c) = coP c := by
  have h := wt_xs (c := c) (m := c.length) (j := 0) (by omega)
  rw [show pr (coW c) 0 = 1 from rfl, Int.one_mul] at h
  exact h
theorem sc_xs {c : List Co} (hc : cok c) : ∀ {m j : Nat}, j + m = c.length → sm (xv (coX c) (coV c)) j + sc (clL (coT c) (coV c) j m) ((xsL c).drop j) = sm (xv (coX c) (coV c)) c.length
  | 0, j, h => by
    have e : (xsL c).drop j = [] := drop_len (by rw [xsL_len]; omega)
    rw [e, show j = c.length by omega]
    show _ + sc [] [] = _
    rw [sc_nil, Int.add_zero]
  | m + 1, j, h => by
    rw [drop_c (by rw [xsL_len]; omega), xsL_get (by omega)]
    have ih := sc_xs hc (m := m) (j := j + 1) (by omega)
    rw [sm_1] at ih
    have hq := hc.2 ((j : Nat) : Int) (by omega) (by omega)
    have e1 : (((coX c ((j : Nat) : Int)).toNat : Nat) : Int) = coX c ((j : Nat) : Int) := Int.toNat_of_nonneg hq.2.1.1
    have e2 : (((coV c ((j : Nat) : Int)).toNat : Nat) : Int) = coV c ((j : Nat) : Int) := Int.toNat_of_nonneg hq.2.2.1
    show sm (xv (coX c) (coV c)) j + ((((coX c ((j : Nat) : Int)).toNat : Nat) : Int) * (((coV c ((j : Nat) : Int)).toNat : Nat) : Int) + sc (clL (coT c) (coV c) (j + 1) m) ((xsL c).drop (j + 1))) = _
    rw [e1, e2, ← Int.add_assoc]
    exact ih
theorem sc_seen {c : List Co} (hc : cok c) : sc (coL c) (xsL c) = coS c := by
  have h := sc_xs hc (m := c.length) (j := 0) (by omega)
  rw [show sm (xv (coX c) (coV c)) 0 = 0 from rfl, Int.zero_add] at h
  exact h
theorem isS_seen {c : List Co} (hc : cok c) (law : Int) : isS c law (xsL c) = true := by
  unfold isS
  rw [wt_seen, sc_seen hc]
  split
  · simp
  · split <;> simp
theorem coP_rg {c : List Co} (hc : cok c) : 1 ≤ coP c ∧ coP c ≤ bh (coL c) (coR c) := by
  have h1 := wt_pos (seen_in hc)
  rw [wt_seen] at h1
  refine ⟨by omega, ?_⟩
  have h2 := sumL_extra (f := fun _ => (0 : Int)) (g := wt (coL c)) (d := coP c) (fun u hu => Int.le_of_lt (wt_pos hu)) (seen_in hc) (by rw [wt_seen]; omega)
  rw [← bh_tb, sumL_zero (fun _ _ => rfl)] at h2
  omega
theorem stW_ps {c : List Co} (hc : cok c) (law : Int) : 1 ≤ stW c law ∧ stW c law ≤ bh (coL c) (coR c) := by
  refine ⟨?_, (stW_bd hc law).2.1⟩
  have h1 := wt_pos (seen_in hc)
  have h2 := sumL_extra (f := fun _ => (0 : Int)) (g := fun u => if isS c law u = true then wt (coL c) u else 0) (d := 1) (fun u hu => by
    have := wt_pos hu
    show 0 ≤ if isS c law u = true then wt (coL c) u else 0
    split <;> omega) (seen_in hc) (by
    show 0 + 1 ≤ if isS c law (xsL c) = true then wt (coL c) (xsL c) else 0
    rw [if_pos (isS_seen hc law)]
    omega)
  rw [sumL_zero (fun _ _ => rfl)] at h2
  unfold stW
  omega
theorem stT_ps {c : List Co} (hc : cok c) (law : Int) : 1 ≤ stT c law ∧ stT c law ≤ tc (coL c) (coR c) := by
  constructor
  · have h2 := sumL_extra (f := fun _ => (0 : Int)) (g := fun u => if isS c law u = true then 1 else 0) (d := 1) (fun u hu => by
      show (0 : Int) ≤ if isS c law u = true then 1 else 0
      split <;> omega) (seen_in hc) (by
      show (0 : Int) + 1 ≤ if isS c law (xsL c) = true then 1 else 0
      rw [if_pos (isS_seen hc law)]
      omega)
    rw [sumL_zero (fun _ _ => rfl)] at h2
    unfold stT
    omega
  · unfold stT
    rw [tc_tb]
    refine sumL_le (fun u _ => ?_)
    show (if isS c law u = true then (1 : Int) else 0) ≤ 1
    split <;> omega
theorem isS_or (c : List Co) (u : List Nat) : isS c 1 u = true ∨ isS c 2 u = true := by
  unfold isS
  rw [if_neg (by omega), if_pos rfl, if_neg (by omega), if_neg (by omega)]
  rcases Int.le_total (coS c) (sc (coL c) u) with q | q
  · exact Or.inl (by simpa using q)
  · exact Or.inr (by simpa using q)
theorem both_W {c : List Co} (hc : cok c) : bh (coL c) (coR c) + coP c ≤ stW c 1 + stW c 2 := by
  unfold stW
  rw [← sumL_plus, bh_tb]
  refine sumL_extra (fun u hu => ?_) (seen_in hc) ?_
  · have h1 := wt_pos hu
    rcases isS_or c u with q | q
    · show _ ≤ (if isS c 1 u = true then wt (coL c) u else 0) + _
      rw [if_pos q]
      split <;> omega
    · show _ ≤ _ + (if isS c 2 u = true then wt (coL c) u else 0)
      rw [if_pos q]
      split <;> omega
  · show _ ≤ (if isS c 1 (xsL c) = true then wt (coL c) (xsL c) else 0) + (if isS c 2 (xsL c) = true then wt (coL c) (xsL c) else 0)
    rw [if_pos (isS_seen hc 1), if_pos (isS_seen hc 2), wt_seen]
    exact Int.le_refl _
theorem both_T {c : List Co} (hc : cok c) : tc (coL c) (coR c) + 1 ≤ stT c 1 + stT c 2 := by
  unfold stT
  rw [← sumL_plus, tc_tb]
  refine sumL_extra (fun u hu => ?_) (seen_in hc) ?_
  · rcases isS_or c u with q | q
    · show (1 : Int) ≤ (if isS c 1 u = true then 1 else 0) + _
      rw [if_pos q]
      split <;> omega
    · show (1 : Int) ≤ _ + (if isS c 2 u = true then 1 else 0)
      rw [if_pos q]
      split <;> omega
  · show (1 : Int) + 1 ≤ (if isS c 1 (xsL c) = true then 1 else 0) + (if isS c 2 (xsL c) = true then 1 else 0)
    rw [if_pos (isS_seen hc 1), if_pos (isS_seen hc 2)]
    exact Int.le_refl _
/-! lowest terms -/
theorem low_ok {a b : Int} (ha : 1 ≤ a) (hab : a ≤ b) : (1 ≤ lowT a b 0 ∧ lowT a b 0 ≤ lowT a b 1 ∧ lowT a b 1 ≤ b) ∧ b % lowT a b 1 = 0 ∧ lowT a b 0 * (b / lowT a b 1) = a := by
  obtain ⟨x, rfl⟩ := Int.eq_ofNat_of_zero_le (show 0 ≤ a by omega)
  obtain ⟨y, rfl⟩ := Int.eq_ofNat_of_zero_le (show 0 ≤ b by omega)
  have e0 : lowT ((x : Nat) : Int) ((y : Nat) : Int) 0 = ((x / Nat.gcd x y : Nat) : Int) := by
    unfold lowT
    rw [if_pos rfl, Int.toNat_natCast, Int.toNat_natCast]
  have e1 : lowT ((x : Nat) : Int) ((y : Nat) : Int) 1 = ((y / Nat.gcd x y : Nat) : Int) := by
    unfold lowT
    rw [if_neg (by omega), Int.toNat_natCast, Int.toNat_natCast]
  rw [e0, e1]
  have hg : 0 < Nat.gcd x y := Nat.gcd_pos_of_pos_left _ (by omega)
  obtain ⟨p, hp⟩ := Nat.gcd_dvd_left x y
  obtain ⟨q, hq⟩ := Nat.gcd_dvd_right x y
  generalize Nat.gcd x y = g at hg hp hq ⊢
  subst hp
  subst hq
  rw [Nat.mul_div_cancel_left _ hg, Nat.mul_div_cancel_left _ hg]
  have hp1 : 1 ≤ p := by
    rcases Nat.eq_zero_or_pos p with z | z
    · subst z
      rw [Nat.mul_zero] at ha
      omega
    · exact z
  have hpq : p ≤ q := by
    have h9 : g * p ≤ g * q := by omega
    exact Nat.le_of_mul_le_mul_left h9 hg
  have hqg : q ≤ g * q := Nat.le_mul_of_pos_left q hg
  have e2 : ((g * q : Nat) : Int) / ((q : Nat) : Int) = ((g : Nat) : Int) := by
    rw [← Int.natCast_ediv, Nat.mul_div_cancel _ (by omega)]
  refine ⟨⟨by omega, by omega, by omega⟩, ?_, ?_⟩
  · rw [← Int.natCast_emod, Nat.mul_mod_left]
    rfl
  · rw [e2, ← Int.natCast_mul, Nat.mul_comm]
theorem cha_at {c : List Co} {law part : Int} (h1 : 0 ≤ law ∧ law ≤ 2) (h2 : 0 ≤ part ∧ part ≤ 1) : aCha c law part = lowT (stW c law) (bh (coL c) (coR c)) part := if_pos ⟨h1.1, h1.2, h2.1, h2.2⟩
theorem cha_ok {c : List Co} (hc : cok c) {law : Int} (h : 0 ≤ law ∧ law ≤ 2) : (1 ≤ aCha c law 0 ∧ aCha c law 0 ≤ aCha c law 1 ∧ aCha c law 1 ≤ bh (coL c) (coR c)) ∧ bh (coL c) (coR c) % aCha c law 1 = 0 ∧ aCha c law 0 * (bh (coL c) (coR c) / aCha c law 1) = stW c law := by
  rw [cha_at h (by omega), cha_at h (by omega)]
  exact low_ok (stW_ps hc law).1 (stW_ps hc law).2
theorem bh_rg {c : List Co} (hc : cok c) : 1 ≤ bh (coL c) (coR c) ∧ bh (coL c) (coR c) ≤ 1152921504606846976 := by
  have h := stW_bd hc 0
  omega
/-! looks -/
theorem lk_nn : ∀ (cs : List (Nat × Nat)) (r : Nat), 0 ≤ lk cs r
  | [], _ => Int.le_refl 0
  | c :: cs, r => by
    rw [lk]
    refine srN_nn (fun i _ => ?_)
    have := lk_nn cs (r - (lo cs r + i))
    show 0 ≤ 1 + lk cs (r - (lo cs r + i))
    omega
theorem rk_lk {s : Int} : ∀ (cs : List (Nat × Nat)) (r : Nat) (w : Int), rk 2 s cs r w ≤ lk cs r
  | [], _, _ => by rw [rk, lk]; exact Int.le_refl 0
  | c :: cs, r, w => by
    rw [rk_c, lk]
    have key : ∀ k : Nat, srN (rf 2 s c cs r w) (lo cs r) k ≤ srN (fun x => 1 + lk cs (r - x)) (lo cs r) k := by
      intro k
      induction k with
      | zero => exact Int.le_refl 0
      | succ k ih =>
        rw [srN, srN]
        have h1 : rf 2 s c cs r w (lo cs r + k) ≤ 1 + lk cs (r - (lo cs r + k)) := by
          have h2 := rk_lk (s := s) cs (r - (lo cs r + k)) (w * (ch c.1 (lo cs r + k) : Int))
          have h3 := lk_nn cs (r - (lo cs r + k))
          show la 2 s cs _ _ ≤ _
          unfold la rq
          rw [if_pos rfl]
          split
          · show 1 + (if (2 : Nat) = 0 then _ else if (2 : Nat) = 1 then _ else (0 : Int)) ≤ _
            rw [if_neg (by omega), if_neg (by omega)]
            omega
          · split <;> omega
        show _ + rf 2 s c cs r w (lo cs r + k) ≤ _ + (1 + lk cs (r - (lo cs r + k)))
        omega
    exact key _
theorem la_nn {s : Int} : ∀ (cs : List (Nat × Nat)) (r : Nat) (w : Int), 0 ≤ rk 2 s cs r w ∧ 1 ≤ la 2 s cs r w
  | [], r, w => by
    refine ⟨by rw [rk]; exact Int.le_refl 0, ?_⟩
    unfold la rq
    rw [if_pos rfl]
    split
    · rw [if_neg (by omega), if_neg (by omega)]
      omega
    · split
      · rw [rk]
        omega
      · omega
  | c :: cs, r, w => by
    have h0 : 0 ≤ rk 2 s (c :: cs) r w := by
      rw [rk_c]
      refine srN_nn (fun i _ => ?_)
      have h9 := (la_nn (s := s) cs (r - (lo cs r + i)) (w * (ch c.1 (lo cs r + i) : Int))).2
      show 0 ≤ la 2 s cs (r - (lo cs r + i)) (w * (ch c.1 (lo cs r + i) : Int))
      omega
    refine ⟨h0, ?_⟩
    unfold la rq
    rw [if_pos rfl]
    split
    · rw [if_neg (by omega), if_neg (by omega)]
      omega
    · split <;> omega
theorem rk_1 {s : Int} {c : Nat × Nat} {cs : List (Nat × Nat)} {r : Nat} {w : Int} (h : r ≤ tsum (c :: cs)) : 1 ≤ rk 2 s (c :: cs) r w := by
  rw [rk_c]
  have h0 := nn_pos h
  have h1 := pos_srN (f := rf 2 s c cs r w) (a := lo cs r) (k := nn c cs r) (fun i _ => by
    have h9 := (la_nn (s := s) cs (r - (lo cs r + i)) (w * (ch c.1 (lo cs r + i) : Int))).2
    show 0 ≤ la 2 s cs (r - (lo cs r + i)) (w * (ch c.1 (lo cs r + i) : Int))
    omega) h0
  have h2 := (la_nn (s := s) cs (r - (lo cs r + 0)) (w * (ch c.1 (lo cs r + 0) : Int))).2
  have h3 : 1 ≤ rf 2 s c cs r w (lo cs r + 0) := h2
  omega
theorem loo_ok {c : List Co} (hc : cok c) (h2 : 2 ≤ c.length) : 1 ≤ aLoo c 0 ∧ aLoo c 0 ≤ aLoo c 1 ∧ aLoo c 1 < 2147483648 := by
  have e0 : aLoo c 0 = rk 2 (coP c) (coL c) (coR c) 1 := if_pos rfl
  have e1 : aLoo c 1 = lk (coL c) (coR c) := by
    unfold aLoo
    rw [if_neg (by omega), if_pos rfl]
  rw [e0, e1]
  refine ⟨?_, rk_lk _ _ _, (lk_small hc).2⟩
  obtain ⟨d, ds, e⟩ := coL_cons h2
  have h3 := (coL_S hc).2.2.1
  rw [e] at h3 ⊢
  exact rk_1 h3
/-! none above, all above -/
theorem tc_0 : ∀ cs : List (Nat × Nat), tc cs 0 = 1
  | [] => rfl
  | c :: cs => by
    rw [tc, show nn c cs 0 = 1 by unfold nn; omega]
    show 0 + tc cs (0 - _) = 1
    rw [Nat.zero_sub, tc_0 cs]
    rfl
theorem tc_ts : ∀ cs : List (Nat × Nat), tc cs (tsum cs) = 1
  | [] => rfl
  | c :: cs => by
    rw [tc, tsum, show nn c cs (c.1 + tsum cs) = 1 by unfold nn; omega]
    show 0 + tc cs (c.1 + tsum cs - (lo cs (c.1 + tsum cs) + 0)) = 1
    rw [show c.1 + tsum cs - (lo cs (c.1 + tsum cs) + 0) = tsum cs by unfold lo; omega, tc_ts cs]
    rfl
theorem sm_ts {c : List Co} (hc : cok c) : sm (coT c) c.length = ((tsum (coL c) : Nat) : Int) := by
  have key : ∀ k : Nat, k ≤ c.length → sm (coT c) k = ((tsum (clL (coT c) (coV c) 0 k) : Nat) : Int) := by
    intro k
    induction k with
    | zero => intro _; rfl
    | succ k ih =>
      intro hk
      have h9 := (hc.2 ((k : Nat) : Int) (by omega) (by omega)).1
      rw [sm_1, ih (by omega), ts_pre, Nat.zero_add]
      omega
  exact key _ (Nat.le_refl _)
theorem one_tb {c : List Co} (hc : cok c) (h : ((coR c : Nat) : Int) = 0 ∨ ((coR c : Nat) : Int) = sm (coT c) c.length) : tc (coL c) (coR c) = 1 := by
  rw [sm_ts hc] at h
  rcases h with q | q
  · rw [show coR c = 0 by omega, tc_0]
  · rw [show coR c = tsum (coL c) by omega, tc_ts]
/-! a stratum turned -/
theorem trn_T {c : List Co} : coL (trn c c.length) = coL c := by
  unfold coL
  rw [trn_len]
  refine clL_congr (fun i _ hi => ?_)
  obtain ⟨a1, a2, a3⟩ := trn_at (c := c) (Nat.le_refl _) ((i : Nat) : Int) (by omega)
  exact ⟨a1, a3⟩
theorem trn_R {c : List Co} (hc : cok c) : coR (trn c c.length) = tsum (coL c) - coR c := by
  have h1 := coR_z (trn_cok hc (Nat.le_refl _))
  have h2 := coR_z hc
  have h3 := sm_ts hc
  have h4 := (coL_S hc).2.2.1
  have key : ∀ k : Nat, k ≤ c.length → sm (coX (trn c c.length)) k = sm (coT c) k - sm (coX c) k := by
    intro k
    induction k with
    | zero => intro _; rfl
    | succ k ih =>
      intro hk
      obtain ⟨a1, a2, a3⟩ := trn_at (c := c) (Nat.le_refl _) ((k : Nat) : Int) (by omega)
      rw [if_pos (by omega)] at a2
      rw [sm_1, sm_1, sm_1, ih (by omega), a2]
      omega
  rw [trn_len] at h1
  have h5 := key c.length (Nat.le_refl _)
  omega
theorem trn_P {c : List Co} (hc : cok c) : coP (trn c c.length) = coP c := by
  unfold coP
  rw [trn_len]
  refine pr_congr (fun i h1 h2 => ?_)
  obtain ⟨a1, a2, a3⟩ := trn_at (c := c) (Nat.le_refl _) i h1
  rw [if_pos (by omega)] at a2
  have h9 := hc.2 i h1 (by omega)
  unfold coW
  rw [a1, a2, show (coT c i - coX c i).toNat = (coT c i).toNat - (coX c i).toNat by omega, ch_sym (by omega)]
theorem trn_W {c : List Co} (hc : cok c) : stW (trn c c.length) 0 = stW c 0 ∧ stT (trn c c.length) 0 = stT c 0 ∧ bh (coL (trn c c.length)) (coR (trn c c.length)) = bh (coL c) (coR c) := by
  have h4 := (coL_S hc).2.2.1
  have e : ∀ d : List Co, stW d 0 = sumL (fun u => (fun v => if v ≤ coP d then v else 0) (wt (coL d) u)) (tb (coL d) (coR d)) := fun d => by
    unfold stW
    refine sumL_congr (fun u _ => ?_)
    unfold isS
    rw [if_pos rfl]
    by_cases q : wt (coL d) u ≤ coP d
    · simp [q]
    · simp [q]
  have e2 : ∀ d : List Co, stT d 0 = sumL (fun u => (fun v => if v ≤ coP d then (1 : Int) else 0) (wt (coL d) u)) (tb (coL d) (coR d)) := fun d => by
    unfold stT
    refine sumL_congr (fun u _ => ?_)
    unfold isS
    rw [if_pos rfl]
    by_cases q : wt (coL d) u ≤ coP d
    · simp [q]
    · simp [q]
  refine ⟨?_, ?_, ?_⟩
  · rw [e, e, trn_T, trn_R hc, trn_P hc]
    exact (turn_sum (coL c) (coR c) (fun v => if v ≤ coP c then v else 0) h4).symm
  · rw [e2, e2, trn_T, trn_R hc, trn_P hc]
    exact (turn_sum (coL c) (coR c) (fun v => if v ≤ coP c then (1 : Int) else 0) h4).symm
  · rw [trn_T, trn_R hc, bh_ch _ _ (by omega), bh_ch _ _ h4, ch_sym h4]
theorem trn_cha {c : List Co} (hc : cok c) {part : Int} (h : 0 ≤ part ∧ part ≤ 1) : aCha (trn c c.length) 0 part = aCha c 0 part := by
  obtain ⟨h1, h2, h3⟩ := trn_W hc
  rw [cha_at (by omega) h, cha_at (by omega) h, h1, h3]
