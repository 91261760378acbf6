/-! ===== the model goes through all tables ===== -/
theorem coR_z {c : List Co} (hc : cok c) : sm (coX c) c.length = ((coR c : Nat) : Int) := by
  have h := (co_bd hc c.length (Nat.le_refl _)).1
  unfold coR
  omega
theorem ts_c {T V : Int → Int} {j n : Nat} (h : j < n) : tsum (clL T V j (n - j)) = (T ((j : Nat) : Int)).toNat + tsum (clL T V (j + 1) (n - (j + 1))) := by
  rw [clL_c h, tsum]
theorem ts_end {T V : Int → Int} {j n : Nat} (h : j = n) : tsum (clL T V j (n - j)) = 0 := by
  subst h
  rw [clL_end]
  rfl
theorem fin_up {c : List Co} {u : List Nat} {f left : Nat} {Tb : Int → Int} (hul : u.length = c.length) (hf : f ≤ c.length) (hTu : ∀ i : Nat, i < f → Tb ((i : Nat) : Int) = ((u.getD i 0 : Nat) : Int)) : ∀ i : Nat, i < f → Tb ((i : Nat) : Int) = (((fin c u f left).getD i 0 : Nat) : Int) := fun i hi => by
  rw [(fin_0 hul hf).2 i hi]
  exact hTu i hi
theorem fin_st {F : List Nat} {Tb : Int → Int} {j : Nat} {v : Int} (hp : ∀ i : Nat, i < j → Tb ((i : Nat) : Int) = ((F.getD i 0 : Nat) : Int)) (hv : v = ((F.getD j 0 : Nat) : Int)) : ∀ i : Nat, i < j + 1 → uZ Tb ((j : Nat) : Int) v ((i : Nat) : Int) = ((F.getD i 0 : Nat) : Int) := fun i hi => by
  by_cases h : i = j
  · subst h
    rw [uZ_same, hv]
  · rw [uZ_ne (by omega)]
    exact hp i (by omega)
theorem nx_ok {c : List Co} {u : List Nat} {j : Nat} (hb : tbc c u) (hj : j < c.length) (h : nxt (clL (coT c) (coV c) (j + 1) (c.length - (j + 1))) (u.drop (j + 1)) = none) (h1 : u.getD j 0 < (coT c ((j : Nat) : Int)).toNat) (h2 : 0 < lsum (u.drop (j + 1))) : nxt (coL c) u = some (fin c (u.set j (u.getD j 0 + 1)) (j + 1) (lsum (u.drop (j + 1)) - 1)) := by
  have h3 := nxt_down hb.1 hj h
  rw [if_pos ⟨h1, h2⟩] at h3
  have h4 := nxt_up hb.1 (Nat.le_of_lt hj) h3
  rw [h4]
  unfold fin
  have hl : (u.set j (u.getD j 0 + 1)).length = u.length := List.length_set
  have hbl := hb.1
  have e1 : (u.set j (u.getD j 0 + 1)).take (j + 1) = u.take j ++ [u.getD j 0 + 1] := by
    rw [take_c (by omega), setD_at (by omega), if_pos rfl]
    congr 1
    rw [List.take_set_of_le (Nat.le_refl j)]
  rw [e1, List.append_assoc]
  rfl
theorem nx_no {c : List Co} {u : List Nat} {j : Nat} (hb : tbc c u) (hj : j < c.length) (h : nxt (clL (coT c) (coV c) (j + 1) (c.length - (j + 1))) (u.drop (j + 1)) = none) (h1 : ¬ (u.getD j 0 < (coT c ((j : Nat) : Int)).toNat ∧ 0 < lsum (u.drop (j + 1)))) : nxt (clL (coT c) (coV c) j (c.length - j)) (u.drop j) = none := by
  rw [nxt_down hb.1 hj h, if_neg h1]
theorem nx_0 {c : List Co} {u : List Nat} (hb : tbc c u) {n1 : Nat} (hn : n1 + 1 = c.length) : nxt (clL (coT c) (coV c) n1 (c.length - n1)) (u.drop n1) = none ∧ lsum (u.drop n1) = u.getD n1 0 := by
  have hl := hb.1
  have h0 : u.drop (n1 + 1) = [] := drop_len (by omega)
  have hs : lsum (u.drop (n1 + 1)) = 0 := by rw [h0]; rfl
  refine ⟨nx_no hb (by omega) ?_ (fun q => by omega), by rw [lsum_c (by omega), hs]; rfl⟩
  rw [show c.length - (n1 + 1) = 0 by omega]
  exact nxt_nil _
theorem seen_y {P : Nat → Prop} {j : Nat} (h : ∀ i, i < j → P i) (hj : P j) : ∀ i, i < j + 1 → P i := fun i hi => by
  rcases Nat.lt_or_ge i j with q | q
  · exact h i q
  · rw [show i = j by omega]
    exact hj
theorem isS_0 {c : List Co} {law : Int} {u : List Nat} (h : law = 0) : isS c law u = true ↔ wt (coL c) u ≤ coP c := by
  unfold isS
  rw [if_pos h]
  exact decide_eq_true_iff
theorem isS_1 {c : List Co} {law : Int} {u : List Nat} (h : law = 1) : isS c law u = true ↔ coS c ≤ sc (coL c) u := by
  unfold isS
  rw [if_neg (by omega), if_pos h]
  exact decide_eq_true_iff
theorem isS_2 {c : List Co} {law : Int} {u : List Nat} (h0 : ¬ law = 0) (h : ¬ law = 1) : isS c law u = true ↔ sc (coL c) u ≤ coS c := by
  unfold isS
  rw [if_neg h0, if_neg h]
  exact decide_eq_true_iff
def rgA (A : Acc) : Prop := (-9223372036854775808 ≤ A.2.2.1 ∧ A.2.2.1 < 9223372036854775808) ∧ (-9223372036854775808 ≤ A.2.2.2.2.1 ∧ A.2.2.2.2.1 < 9223372036854775808) ∧ (-2147483648 ≤ A.2.2.2.2.2.1 ∧ A.2.2.2.2.2.1 < 2147483648) ∧ (-2147483648 ≤ A.2.2.2.2.2.2.1 ∧ A.2.2.2.2.2.2.1 < 2147483648)
theorem wt_60 {c : List Co} (hc : cok c) {u : List Nat} (hu : u ∈ tb (coL c) (coR c)) : 0 < wt (coL c) u ∧ wt (coL c) u ≤ 1152921504606846976 := by
  have h1 := wt_lg hu
  have h2 := lg_bh (cs := coL c) (r := coR c)
  have h3 := pow_60 (k := tsum (coL c)) (coL_S hc).2.1
  exact ⟨wt_pos hu, by omega⟩
theorem rgA_step {c : List Co} {law : Int} {A : Acc} {u : List Nat} (hc : cok c) (hu : u ∈ tb (coL c) (coR c)) (h : rgA A) : rgA (stepA c law A u) := by
  have h1 := wt_60 hc hu
  have h2 := sc_540 hc hu
  obtain ⟨a, b, d, e⟩ := h
  have e3 : (stepA c law A u).2.2.1 = if A.1 = 0 ∨ A.2.2.1 < wt (coL c) u then wt (coL c) u else A.2.2.1 := rfl
  have e5 : (stepA c law A u).2.2.2.2.1 = if A.1 = 0 ∨ wt (coL c) u < A.2.2.2.2.1 then wt (coL c) u else A.2.2.2.2.1 := rfl
  have e6 : (stepA c law A u).2.2.2.2.2.1 = if A.1 = 0 ∨ sc (coL c) u < A.2.2.2.2.2.1 then sc (coL c) u else A.2.2.2.2.2.1 := rfl
  have e7 : (stepA c law A u).2.2.2.2.2.2.1 = if A.1 = 0 ∨ A.2.2.2.2.2.2.1 < sc (coL c) u then sc (coL c) u else A.2.2.2.2.2.2.1 := rfl
  unfold rgA
  rw [e3, e5, e6, e7]
  refine ⟨?_, ?_, ?_, ?_⟩ <;> split <;> omega
theorem swF_tb (c : List Co) (y : Int) : swF (coL c) (coR c) y = sumL (fun u => if sc (coL c) u = y then wt (coL c) u else 0) (tb (coL c) (coR c)) := by
  unfold swF
  rw [sW_tb]
  exact sumL_congr (fun u _ => by rw [Int.zero_add, Int.one_mul])
theorem bs_step {c : List Co} {Bs : Int → Int} {u : List Nat} {R : List (List Nat)} {F : Int → Int} (h : ∀ y : Int, 0 ≤ y → y ≤ 540 → Bs y + sumL (fun u => if sc (coL c) u = y then wt (coL c) u else 0) (u :: R) = F y) : ∀ y : Int, 0 ≤ y → y ≤ 540 → uZ Bs (sc (coL c) u) (Bs (sc (coL c) u) + wt (coL c) u) y + sumL (fun u => if sc (coL c) u = y then wt (coL c) u else 0) R = F y := fun y h1 h2 => by
  rw [← h y h1 h2]
  show _ = Bs y + ((if sc (coL c) u = y then wt (coL c) u else 0) + _)
  by_cases hy : y = sc (coL c) u
  · rw [hy, uZ_same, if_pos rfl]
    exact Int.add_assoc _ _ _
  · rw [uZ_ne hy, if_neg (Ne.symm hy), Int.zero_add]
theorem mx_eq {l : List (List Nat)} {f : List Nat → Int} {a b : Int} (h1 : ∀ v ∈ l, f v ≤ a) (h2 : ∃ v ∈ l, f v = a) (h3 : ∀ v ∈ l, f v ≤ b) (h4 : ∃ v ∈ l, f v = b) : a = b := by
  obtain ⟨v, hv, e⟩ := h2
  obtain ⟨w, hw, e'⟩ := h4
  have := h1 w hw
  have := h3 v hv
  omega
theorem mn_eq {l : List (List Nat)} {f : List Nat → Int} {a b : Int} (h1 : ∀ v ∈ l, a ≤ f v) (h2 : ∃ v ∈ l, f v = a) (h3 : ∀ v ∈ l, b ≤ f v) (h4 : ∃ v ∈ l, f v = b) : a = b := by
  obtain ⟨v, hv, e⟩ := h2
  obtain ⟨w, hw, e'⟩ := h4
  have := h1 w hw
  have := h3 v hv
  omega
theorem first_eq {f : List Nat → Int} {M : Int} : ∀ {p1 p2 q1 q2 : List (List Nat)} {a b : List Nat}, p1 ++ a :: q1 = p2 ++ b :: q2 → f a = M → f b = M → (∀ v ∈ p1, f v < M) → (∀ v ∈ p2, f v < M) → a = b
  | [], [], q1, q2, a, b, h, _, _, _, _ => (List.cons.inj h).1
  | [], y :: p2, q1, q2, a, b, h, ha, _, _, h2 => by
    have e : a = y := (List.cons.inj h).1
    have := h2 y List.mem_cons_self
    rw [← e] at this
    omega
  | x :: p1, [], q1, q2, a, b, h, _, hb, h1, _ => by
    have e : x = b := (List.cons.inj h).1
    have := h1 x List.mem_cons_self
    rw [e] at this
    omega
  | x :: p1, y :: p2, q1, q2, a, b, h, ha, hb, h1, h2 => first_eq (List.cons.inj h).2 ha hb (fun v hv => h1 v (List.mem_cons_of_mem _ hv)) (fun v hv => h2 v (List.mem_cons_of_mem _ hv))
/-- SEEN is a table -/
theorem xs_tb {T V X : Int → Int} {n : Nat} (h : ∀ j : Nat, j < n → 0 ≤ X ((j : Nat) : Int) ∧ X ((j : Nat) : Int) ≤ T ((j : Nat) : Int)) : ∀ {m j : Nat} {r : Nat}, j + m = n → r = ((List.range' j m).map (fun i => (X ((i : Nat) : Int)).toNat)).sum → (List.range' j m).map (fun i => (X ((i : Nat) : Int)).toNat) ∈ tb (clL T V j m) r ∧ r ≤ tsum (clL T V j m)
  | 0, j, r, _, hr => by
    subst hr
    simp [tb, clL, tsum]
  | m + 1, j, r, hj, hr => by
    rw [List.range'_succ, List.map_cons, List.sum_cons] at hr
    have hj1 := h j (by omega)
    obtain ⟨h1, h2⟩ := xs_tb h (m := m) (j := j + 1) (r := r - (X ((j : Nat) : Int)).toNat) (by omega) (by omega)
    rw [List.range'_succ, List.map_cons, clL, tsum]
    constructor
    · refine tb_cons.mpr ⟨_, _, rfl, ?_, ?_, ?_, h1⟩
      · omega
      · show (X ((j : Nat) : Int)).toNat ≤ (T ((j : Nat) : Int)).toNat
        omega
      · omega
    · show r ≤ (T ((j : Nat) : Int)).toNat + _
      omega
theorem sum_rg {X : Int → Int} : ∀ {m : Nat}, (∀ j : Nat, j < m → 0 ≤ X ((j : Nat) : Int)) → ((((List.range' 0 m).map (fun i => (X ((i : Nat) : Int)).toNat)).sum : Nat) : Int) = sm X m
  | 0, _ => rfl
  | m + 1, h => by
    have h1 := sum_rg (X := X) (m := m) (fun j hj => h j (by omega))
    have h2 := h m (by omega)
    rw [List.range'_1_concat, List.map_append, List.sum_append, sm_1, ← h1]
    simp only [List.map_cons, List.map_nil, List.sum_cons, List.sum_nil, Nat.zero_add, Nat.add_zero]
    omega
theorem seen_in {c : List Co} (hc : cok c) : xsL c ∈ tb (coL c) (coR c) := by
  have hb : ∀ j : Nat, j < c.length → 0 ≤ coX c ((j : Nat) : Int) ∧ coX c ((j : Nat) : Int) ≤ coT c ((j : Nat) : Int) := fun j hj => (hc.2 ((j : Nat) : Int) (by omega) (by omega)).2.1
  have hs := sum_rg (X := coX c) (m := c.length) (fun j hj => (hb j hj).1)
  have h1 := xs_tb (T := coT c) (V := coV c) (X := coX c) (n := c.length) hb (m := c.length) (j := 0) (r := coR c) (by omega) (by rw [coR_z hc] at hs; omega)
  have e : xsL c = (List.range' 0 c.length).map (fun i => (coX c ((i : Nat) : Int)).toNat) := by
    unfold xsL
    rw [List.range_eq_range']
  rw [e]
  exact h1.1
/-- its place, as the class counts it -/
theorem rkI_rp {c : List Co} (hc : cok c) : ∀ {m j a : Nat}, j + m = c.length → thr (coT c) (coV c) c.length (coR c) j a → ((a : Nat) : Int) = sm (coX c) j → rkI (clL (coT c) (coV c) j m) ((xsL c).drop j) (coR c - a) + sm (rp (coT c) (coV c) (coX c) c.length (coR c)) j = sm (rp (coT c) (coV c) (coX c) c.length (coR c)) c.length
  | 0, j, a, hj, _, _ => by
    rw [show j = c.length by omega, drop_len (xsL_len c), clL, show rkI [] [] (coR c - a) = 0 from rfl, Int.zero_add]
  | m + 1, j, a, hj, ht, ha => by
    have hl := xsL_len c
    have hX := hc.2 ((j : Nat) : Int) (by omega) (by omega)
    have hx : (xsL c).getD j 0 = (coX c ((j : Nat) : Int)).toNat := xsL_get (by omega)
    have hin := seen_in hc
    have hbd := co_bd hc (j + 1) (by omega)
    have hbn := co_bd hc c.length (Nat.le_refl _)
    -- the next node is there
    have hts := ts_all (coT c) (coV c) (n := c.length) (j := j + 1) (by omega)
    have hmono : ∀ k i : Nat, i + k = c.length → sm (coX c) c.length ≤ sm (coX c) i + ((tsum (clL (coT c) (coV c) i (c.length - i)) : Nat) : Int) ∧ sm (coX c) i ≤ sm (coX c) c.length := by
      intro k
      induction k with
      | zero =>
        intro i hi
        rw [show i = c.length by omega]
        omega
      | succ k ih =>
        intro i hi
        obtain ⟨q1, q2⟩ := ih (i + 1) (by omega)
        have q3 := hc.2 ((i : Nat) : Int) (by omega) (by omega)
        rw [sm_1] at q1 q2
        rw [ts_c (show i < c.length by omega)]
        omega
    have hm1 := hmono m (j + 1) (by omega)
    have hRz := coR_z hc
    have e1 := sm_1 (coX c) j
    have hn : thr (coT c) (coV c) c.length (coR c) (j + 1) (a + (coX c ((j : Nat) : Int)).toNat) := by
      obtain ⟨t1, t2, t3, t4⟩ := ht
      have hb3 := hbd.2.1
      refine ⟨by omega, by omega, by omega, by omega⟩
    have ih := rkI_rp hc (m := m) (j := j + 1) (a := a + (coX c ((j : Nat) : Int)).toNat) (by omega) hn (by rw [e1]; omega)
    rw [sm_1] at ih
    have hd : (xsL c).drop j = (coX c ((j : Nat) : Int)).toNat :: (xsL c).drop (j + 1) := by rw [drop_c (by omega), hx]
    rw [hd, clL, rkI, show coR c - a - (coX c ((j : Nat) : Int)).toNat = coR c - (a + (coX c ((j : Nat) : Int)).toNat) by omega]
    have key : rp (coT c) (coV c) (coX c) c.length (coR c) ((j : Nat) : Int) = srN (fun y => tc (clL (coT c) (coV c) (j + 1) m) (coR c - a - y)) (lo (clL (coT c) (coV c) (j + 1) m) (coR c - a)) ((coX c ((j : Nat) : Int)).toNat - lo (clL (coT c) (coV c) (j + 1) m) (coR c - a)) := by
      unfold rp
      rw [Int.toNat_natCast]
      have hlo : lo (clL (coT c) (coV c) (j + 1) m) (coR c - a) ≤ (coX c ((j : Nat) : Int)).toNat := by
        unfold lo
        have := hn.2.2.2
        rw [show c.length - (j + 1) = m by omega] at this
        omega
      have hcut := srN_split (rkf (coT c) (coV c) (coX c) c.length (coR c) j) 0 (lo (clL (coT c) (coV c) (j + 1) m) (coR c - a)) ((coX c ((j : Nat) : Int)).toNat - lo (clL (coT c) (coV c) (j + 1) m) (coR c - a))
      rw [show lo (clL (coT c) (coV c) (j + 1) m) (coR c - a) + ((coX c ((j : Nat) : Int)).toNat - lo (clL (coT c) (coV c) (j + 1) m) (coR c - a)) = (coX c ((j : Nat) : Int)).toNat by omega, Nat.zero_add] at hcut
      rw [hcut]
      have hsa : (sm (coX c) j).toNat = a := by omega
      have z : srN (rkf (coT c) (coV c) (coX c) c.length (coR c) j) 0 (lo (clL (coT c) (coV c) (j + 1) m) (coR c - a)) = 0 := by
        refine srN_zero (fun i hi => ?_)
        show NV _ _ _ _ 4 (j + 1) ((sm (coX c) j).toNat + (0 + i)) = 0
        rw [hsa]
        refine NV_out (fun q => ?_)
        have q4 := q.2.2.2
        rw [show c.length - (j + 1) = m by omega] at q4
        unfold lo at hi
        have := ht.2.1
        omega
      rw [z, Int.zero_add]
      refine srN_congr (fun i hi => ?_)
      show NV _ _ _ _ 4 (j + 1) ((sm (coX c) j).toNat + _) = _
      rw [hsa]
      obtain ⟨t1, t2, t3, t4⟩ := hn
      rw [show c.length - (j + 1) = m by omega] at t4
      rw [NV_in ⟨by omega, by omega, ?_, ?_⟩ (by omega)]
      · show tc (clL (coT c) (coV c) (j + 1) (c.length - (j + 1))) (coR c - (a + _)) = tc _ (coR c - a - _)
        rw [show c.length - (j + 1) = m by omega, Nat.sub_add_eq]
      · have := ts_pre (coT c) (coV c) j 0
        rw [Nat.zero_add] at this
        rw [this]
        have := ht.2.2.1
        omega
      · rw [show c.length - (j + 1) = m by omega]
        unfold lo at hi ⊢
        omega
    rw [key] at ih
    have := ih
    omega
theorem aRan_at {c : List Co} (hc : cok c) : rkI (coL c) (xsL c) (coR c) = aRan c := by
  have h0 : thr (coT c) (coV c) c.length (coR c) 0 0 := ⟨Nat.zero_le _, Nat.zero_le _, Nat.zero_le _, (coL_S hc).2.2.1⟩
  have h := rkI_rp hc (m := c.length) (j := 0) (a := 0) (by omega) h0 rfl
  have e : sm (rp (coT c) (coV c) (coX c) c.length (coR c)) 0 = 0 := rfl
  rw [e, Int.add_zero] at h
  exact h
/-- all that is gathered, at the end -/
theorem GT {c : List Co} (hc : cok c) (law : Int) {A : Acc} (h1 : A.1 = 0) (h2 : A.2.1 = 0) (h3 : A.2.2.2.2.2.2.2.1 = 0) (h4 : A.2.2.2.2.2.2.2.2.1 = 0) : ((tb (coL c) (coR c)).foldl (stepA c law) A) = (tc (coL c) (coR c), bh (coL c) (coR c), lg (coL c) (coR c), bst (coL c) (coR c), sh (coL c) (coR c), les (coL c) (coR c), grs (coL c) (coR c), stT c law, stW c law, aRan c) := by
  obtain ⟨s1, s2, s3, s4⟩ := coL_S hc
  obtain ⟨f1, f2, f3, f4⟩ := fold_add (c := c) (law := law) (l := tb (coL c) (coR c)) (A := A)
  have hne : tb (coL c) (coR c) ≠ [] := by
    obtain ⟨l, e⟩ := tb_head s3
    rw [e]
    exact List.cons_ne_nil _ _
  obtain ⟨⟨a1, pre, post, a2, a3, a4⟩, ⟨b1, b2⟩, ⟨c1, c2⟩, d1, d2⟩ := ext_all (c := c) (law := law) h1 hne
  obtain ⟨p, q, e, r1, r2, r3⟩ := rkI_tb (seen_in hc)
  have hk : ((tb (coL c) (coR c)).foldl (stepA c law) A).2.2.2.2.2.2.2.2.2 = aRan c := by
    rw [e, rank_at r3, h1, r1, aRan_at hc]
    omega
  obtain ⟨p2, q2, e2, g1, g2⟩ := bst_tb s3
  generalize hF : (tb (coL c) (coR c)).foldl (stepA c law) A = F at f1 f2 f3 f4 a1 a2 a3 a4 b1 b2 c1 c2 d1 d2 hk
  obtain ⟨x1, x2, x3, x4, x5, x6, x7, x8, x9, x10⟩ := F
  have e1 : x1 = tc (coL c) (coR c) := by
    rw [tc_len]
    have : x1 = A.1 + ((tb (coL c) (coR c)).length : Nat) := f1
    omega
  have e2' : x2 = bh (coL c) (coR c) := by
    rw [bh_tb]
    have : x2 = A.2.1 + sumL (wt (coL c)) (tb (coL c) (coR c)) := f2
    omega
  have hx4 : x4 ∈ tb (coL c) (coR c) := by
    have a2' : tb (coL c) (coR c) = pre ++ x4 :: post := a2
    rw [a2']
    exact List.mem_append_right _ List.mem_cons_self
  have e3 : x3 = lg (coL c) (coR c) := mx_eq (f := wt (coL c)) a1 ⟨x4, hx4, a3⟩ (fun v hv => wt_lg hv) (lg_at s3)
  have e4 : x4 = bst (coL c) (coR c) := by
    have a2' : tb (coL c) (coR c) = pre ++ x4 :: post := a2
    rw [a2'] at e2
    exact first_eq (f := wt (coL c)) (M := lg (coL c) (coR c)) e2 (by rw [← e3]; exact a3) g1 (fun v hv => by rw [← e3]; exact a4 v hv) g2
  have e5 : x5 = sh (coL c) (coR c) := mn_eq (f := wt (coL c)) b1 b2 (fun v hv => wt_sh hv) (sh_at s3 s2)
  have e6 : x6 = les (coL c) (coR c) := mn_eq (f := sc (coL c)) c1 c2 (fun v hv => (sc_les hv).1) (les_at s1 s3 s2)
  have e7 : x7 = grs (coL c) (coR c) := mx_eq (f := sc (coL c)) d1 d2 (fun v hv => (sc_les hv).2) (grs_at s1 s3)
  have e8 : x8 = stT c law := by
    have : x8 = A.2.2.2.2.2.2.2.1 + sumL (fun u => if isS c law u = true then 1 else 0) (tb (coL c) (coR c)) := f3
    unfold stT
    omega
  have e9 : x9 = stW c law := by
    have : x9 = A.2.2.2.2.2.2.2.2.1 + sumL (fun u => if isS c law u = true then wt (coL c) u else 0) (tb (coL c) (coR c)) := f4
    unfold stW
    omega
  have e10 : x10 = aRan c := hk
  rw [e1, e2', e3, e4, e5, e6, e7, e8, e9, e10]
