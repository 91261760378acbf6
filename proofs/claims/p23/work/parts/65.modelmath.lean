/-! ===== the model's tables ===== -/
/-- what the model's row of numbers says of the strata S; of one stratum -/
def MC (f : Int → Int) (k : Nat) (c : List Co) : Prop := (k < 3 ∧ c.length ≤ 5) ∧ f (1 + ((k : Nat) : Int)) = ((c.length : Nat) : Int) ∧ ∀ j : Nat, j < c.length → f (4 + 15 * ((k : Nat) : Int) + 3 * ((j : Nat) : Int) + 0) = coT c ((j : Nat) : Int) ∧ f (4 + 15 * ((k : Nat) : Int) + 3 * ((j : Nat) : Int) + 1) = coX c ((j : Nat) : Int) ∧ f (4 + 15 * ((k : Nat) : Int) + 3 * ((j : Nat) : Int) + 2) = coV c ((j : Nat) : Int)
def ER (f : Int → Int) (S : St) : Prop := (f 0 = ((S.length : Nat) : Int) ∧ S.length ≤ 3) ∧ ∀ k : Nat, k < S.length → MC f k (S.getD k [])
def SvOK (Sv : Int → Int) : Prop := ∀ t x : Nat, t ≤ 12 → x ≤ 12 → Sv (13 * ((t : Nat) : Int) + ((x : Nat) : Int)) = ((ch t x : Nat) : Int)
/-- the row Tb holds the table u -/
def TR (n : Nat) (Tb : Int → Int) (u : List Nat) : Prop := u.length = n ∧ ∀ j : Nat, j < n → Tb ((j : Nat) : Int) = ((u.getD j 0 : Nat) : Int)
def cof (c : List Co) (j w : Int) : Int := if w = 0 then coT c j else if w = 1 then coX c j else coV c j
theorem MC_i {f : Int → Int} {k : Nat} {c : List Co} (h : MC f k c) {j : Int} (h1 : 0 ≤ j) (h2 : j < c.length) : f (4 + 15 * ((k : Nat) : Int) + 3 * j + 0) = coT c j ∧ f (4 + 15 * ((k : Nat) : Int) + 3 * j + 1) = coX c j ∧ f (4 + 15 * ((k : Nat) : Int) + 3 * j + 2) = coV c j := by
  obtain ⟨i, rfl⟩ := Int.eq_ofNat_of_zero_le h1
  exact h.2.2 i (by omega)
theorem clL_get {T V : Int → Int} : ∀ {m j i : Nat}, i < m → (clL T V j m).getD i (0, 0) = ((T (((j + i : Nat)) : Int)).toNat, (V (((j + i : Nat)) : Int)).toNat)
  | 0, j, i, h => absurd h (Nat.not_lt_zero _)
  | m + 1, j, 0, _ => rfl
  | m + 1, j, i + 1, h => by
    have := clL_get (T := T) (V := V) (m := m) (j := j + 1) (i := i) (by omega)
    rw [show j + 1 + i = j + (i + 1) by omega] at this
    rw [clL]
    exact this
theorem tb_le : ∀ {cs : List (Nat × Nat)} {r : Nat} {u : List Nat}, u ∈ tb cs r → u.length = cs.length ∧ ∀ i, i < cs.length → u.getD i 0 ≤ (cs.getD i (0, 0)).1
  | [], r, u, h => by
    simp [tb] at h
    subst h
    exact ⟨rfl, fun i hi => absurd hi (Nat.not_lt_zero _)⟩
  | c :: cs, r, u, h => by
    obtain ⟨x, v, rfl, h1, h2, h3, hv⟩ := tb_cons.mp h
    obtain ⟨a, b⟩ := tb_le hv
    refine ⟨by rw [List.length_cons, List.length_cons, a], fun i hi => ?_⟩
    cases i with
    | zero => exact h2
    | succ i => exact b i (by rw [List.length_cons] at hi; omega)
theorem drop_c {u : List Nat} {j : Nat} (h : j < u.length) : u.drop j = u.getD j 0 :: u.drop (j + 1) := by
  rw [List.drop_eq_getElem_cons h, List.getD_eq_getElem?_getD, List.getElem?_eq_getElem h]
  rfl
theorem take_c {u : List Nat} {j : Nat} (h : j < u.length) : u.take (j + 1) = u.take j ++ [u.getD j 0] := by
  rw [List.take_succ, List.getD_eq_getElem?_getD, List.getElem?_eq_getElem h]
  rfl
theorem drop_len {u : List Nat} {n : Nat} (h : u.length = n) : u.drop n = [] := List.drop_eq_nil_iff.mpr (by omega)
theorem wt_nil (u : List Nat) : wt [] u = 1 := by cases u <;> rfl
theorem sc_nil (u : List Nat) : sc [] u = 0 := by cases u <;> rfl
/-- a table's columns as told; what is left of it -/
theorem wt_step {c : List Co} {u : List Nat} {j : Nat} {w e : Int} (hu : u.length = c.length) (hj : j < c.length) (h : w * wt (clL (coT c) (coV c) j (c.length - j)) (u.drop j) = e) : (w * ((ch (coT c ((j : Nat) : Int)).toNat (u.getD j 0) : Nat) : Int)) * wt (clL (coT c) (coV c) (j + 1) (c.length - (j + 1))) (u.drop (j + 1)) = e := by
  rw [clL_c hj, drop_c (by omega), wt] at h
  rw [← h, Int.mul_assoc]
theorem sc_step {c : List Co} {u : List Nat} {j : Nat} {w e : Int} (hc : cok c) (hu : u.length = c.length) (hj : j < c.length) (h : w + sc (clL (coT c) (coV c) j (c.length - j)) (u.drop j) = e) : (w + ((u.getD j 0 : Nat) : Int) * coV c ((j : Nat) : Int)) + sc (clL (coT c) (coV c) (j + 1) (c.length - (j + 1))) (u.drop (j + 1)) = e := by
  rw [clL_c hj, drop_c (by omega), sc] at h
  have h1 := hc.2 ((j : Nat) : Int) (by omega) (by omega)
  have h2 : ((coV c ((j : Nat) : Int)).toNat : Int) = coV c ((j : Nat) : Int) := by omega
  rw [show ((coT c ((j : Nat) : Int)).toNat, (coV c ((j : Nat) : Int)).toNat).snd = (coV c ((j : Nat) : Int)).toNat from rfl, h2] at h
  rw [← h, Int.add_assoc]
theorem wt_end {c : List Co} {u : List Nat} {w e : Int} {j : Nat} (hj : j = c.length) (h : w * wt (clL (coT c) (coV c) j (c.length - j)) (u.drop j) = e) : w = e := by
  subst hj
  rw [clL_end, wt_nil, Int.mul_one] at h
  exact h
theorem sc_end {c : List Co} {u : List Nat} {w e : Int} {j : Nat} (hj : j = c.length) (h : w + sc (clL (coT c) (coV c) j (c.length - j)) (u.drop j) = e) : w = e := by
  subst hj
  rw [clL_end, sc_nil, Int.add_zero] at h
  exact h
/-- the least numbers from a column on -/
def fin (c : List Co) (u : List Nat) (f left : Nat) : List Nat := u.take f ++ least (clL (coT c) (coV c) f (c.length - f)) left
theorem least_len : ∀ {cs : List (Nat × Nat)} {r : Nat}, (least cs r).length = cs.length
  | [], _ => rfl
  | c :: cs, r => by rw [least, List.length_cons, List.length_cons, least_len]
theorem fin_len {c : List Co} {u : List Nat} {f left : Nat} (hu : u.length = c.length) (hf : f ≤ c.length) : (fin c u f left).length = c.length := by
  unfold fin
  rw [List.length_append, List.length_take, least_len, clL_len]
  omega
theorem fin_0 {c : List Co} {u : List Nat} {f left : Nat} (hu : u.length = c.length) (hf : f ≤ c.length) : (fin c u f left).drop f = least (clL (coT c) (coV c) f (c.length - f)) left ∧ ∀ i, i < f → (fin c u f left).getD i 0 = u.getD i 0 := by
  unfold fin
  constructor
  · rw [List.drop_append_of_le_length (by rw [List.length_take]; omega), List.drop_eq_nil_iff.mpr (by rw [List.length_take]; omega)]
    rfl
  · intro i hi
    rw [gD_l (by rw [List.length_take]; omega), List.getD_eq_getElem?_getD, List.getElem?_take_of_lt hi, List.getD_eq_getElem?_getD]
theorem fin_step {c : List Co} {F : List Nat} {j r : Nat} (hF : F.length = c.length) (hj : j < c.length) (h : F.drop j = least (clL (coT c) (coV c) j (c.length - j)) r) : F.getD j 0 = lo (clL (coT c) (coV c) (j + 1) (c.length - (j + 1))) r ∧ F.drop (j + 1) = least (clL (coT c) (coV c) (j + 1) (c.length - (j + 1))) (r - lo (clL (coT c) (coV c) (j + 1) (c.length - (j + 1))) r) := by
  rw [drop_c (by omega), clL_c hj, least] at h
  exact List.cons.inj h
theorem tr_up {n : Nat} {Tb : Int → Int} {u : List Nat} {j x : Nat} (h : TR n Tb u) (hj : j < n) : TR n (uZ Tb ((j : Nat) : Int) ((x : Nat) : Int)) (u.set j x) := ⟨by rw [List.length_set]; exact h.1, fun i hi => by
  rw [setD_at (by rw [h.1]; exact hj)]
  by_cases hq : i = j
  · subst hq
    rw [uZ_same, if_pos rfl]
  · rw [uZ_ne (by omega), if_neg hq]
    exact h.2 i hi⟩
theorem TR_of {n : Nat} {Tb : Int → Int} {F : List Nat} (hF : F.length = n) (h : ∀ i : Nat, i < n → Tb ((i : Nat) : Int) = ((F.getD i 0 : Nat) : Int)) : TR n Tb F := ⟨hF, h⟩
theorem nxt_nil (u : List Nat) : nxt [] u = none := by cases u <;> rfl
theorem nxt_up {c : List Co} {u : List Nat} (hu : u.length = c.length) : ∀ {j : Nat}, j ≤ c.length → ∀ {v : List Nat}, nxt (clL (coT c) (coV c) j (c.length - j)) (u.drop j) = some v → nxt (coL c) u = some (u.take j ++ v)
  | 0, _, v, h => h
  | j + 1, hj, v, h => by
    have h1 : nxt (clL (coT c) (coV c) j (c.length - j)) (u.drop j) = some (u.getD j 0 :: v) := by
      rw [clL_c (by omega), drop_c (by omega), nxt, h]
    have h2 := nxt_up hu (j := j) (by omega) h1
    rw [h2, take_c (by omega), List.append_assoc]
    rfl
theorem nxt_down {c : List Co} {u : List Nat} {j : Nat} (hu : u.length = c.length) (hj : j < c.length) (h : nxt (clL (coT c) (coV c) (j + 1) (c.length - (j + 1))) (u.drop (j + 1)) = none) : nxt (clL (coT c) (coV c) j (c.length - j)) (u.drop j) = if u.getD j 0 < (coT c ((j : Nat) : Int)).toNat ∧ 0 < lsum (u.drop (j + 1)) then some ((u.getD j 0 + 1) :: least (clL (coT c) (coV c) (j + 1) (c.length - (j + 1))) (lsum (u.drop (j + 1)) - 1)) else none := by
  rw [clL_c hj, drop_c (by omega), nxt, h]
theorem lsum_c {u : List Nat} {j : Nat} (h : j < u.length) : lsum (u.drop j) = u.getD j 0 + lsum (u.drop (j + 1)) := by
  rw [drop_c h]
  rfl
theorem lsum_ts {c : List Co} {u : List Nat} (hu : u.length = c.length) (hb : ∀ j : Nat, j < c.length → u.getD j 0 ≤ (coT c ((j : Nat) : Int)).toNat) : ∀ {m j : Nat}, j + m = c.length → lsum (u.drop j) ≤ tsum (clL (coT c) (coV c) j m)
  | 0, j, h => by
    rw [drop_len (by omega)]
    exact Nat.zero_le _
  | m + 1, j, h => by
    have := lsum_ts hu hb (m := m) (j := j + 1) (by omega)
    have h2 := hb j (by omega)
    rw [lsum_c (by omega), clL, tsum]
    show _ ≤ (coT c ((j : Nat) : Int)).toNat + _
    omega
/-- a table of the stratum: of its columns, its numbers no more than so many -/
def tbc (c : List Co) (u : List Nat) : Prop := u.length = c.length ∧ ∀ j : Nat, j < c.length → u.getD j 0 ≤ (coT c ((j : Nat) : Int)).toNat
theorem tb_tbc {c : List Co} {r : Nat} {u : List Nat} (h : u ∈ tb (coL c) r) : tbc c u := by
  obtain ⟨a, b⟩ := tb_le h
  have hl : (coL c).length = c.length := clL_len _ _ _ _
  refine ⟨by rw [a, hl], fun j hj => ?_⟩
  have := b j (by omega)
  unfold coL at this
  rw [clL_get hj, Nat.zero_add] at this
  exact this
/-- what is gathered of the tables gone through -/
abbrev Acc := Int × Int × Int × List Nat × Int × Int × Int × Int × Int × Int
def xsL (c : List Co) : List Nat := (List.range c.length).map (fun j => (coX c ((j : Nat) : Int)).toNat)
def stepA (c : List Co) (law : Int) (A : Acc) (u : List Nat) : Acc :=
  (A.1 + 1, A.2.1 + wt (coL c) u, if A.1 = 0 ∨ A.2.2.1 < wt (coL c) u then wt (coL c) u else A.2.2.1, if A.1 = 0 ∨ A.2.2.1 < wt (coL c) u then u else A.2.2.2.1, if A.1 = 0 ∨ wt (coL c) u < A.2.2.2.2.1 then wt (coL c) u else A.2.2.2.2.1, if A.1 = 0 ∨ sc (coL c) u < A.2.2.2.2.2.1 then sc (coL c) u else A.2.2.2.2.2.1, if A.1 = 0 ∨ A.2.2.2.2.2.2.1 < sc (coL c) u then sc (coL c) u else A.2.2.2.2.2.2.1, A.2.2.2.2.2.2.2.1 + (if isS c law u = true then 1 else 0), A.2.2.2.2.2.2.2.2.1 + (if isS c law u = true then wt (coL c) u else 0), if u = xsL c then A.1 else A.2.2.2.2.2.2.2.2.2)
theorem xsL_len (c : List Co) : (xsL c).length = c.length := by
  unfold xsL
  rw [List.length_map, List.length_range]
theorem xsL_get {c : List Co} {j : Nat} (hj : j < c.length) : (xsL c).getD j 0 = (coX c ((j : Nat) : Int)).toNat := by
  unfold xsL
  rw [List.getD_eq_getElem?_getD, List.getElem?_map, List.getElem?_range hj]
  rfl
theorem list_ext0 {u v : List Nat} (hl : u.length = v.length) (h : ∀ j, j < u.length → u.getD j 0 = v.getD j 0) : u = v := by
  apply List.ext_getElem hl
  intro i h1 h2
  have := h i h1
  rw [List.getD_eq_getElem?_getD, List.getD_eq_getElem?_getD, List.getElem?_eq_getElem h1, List.getElem?_eq_getElem h2] at this
  exact this
theorem seen_iff {c : List Co} (hc : cok c) {u : List Nat} (hu : u.length = c.length) : (∀ j : Nat, j < c.length → ((u.getD j 0 : Nat) : Int) = coX c ((j : Nat) : Int)) ↔ u = xsL c := by
  constructor
  · intro h
    refine list_ext0 (by rw [hu, xsL_len]) (fun j hj => ?_)
    have h1 := h j (by omega)
    rw [xsL_get (by omega)]
    omega
  · intro h j hj
    have h1 := hc.2 ((j : Nat) : Int) (by omega) (by omega)
    rw [h, xsL_get hj]
    omega
/-- all of it at the end -/
theorem fold_add {c : List Co} {law : Int} : ∀ {l : List (List Nat)} {A : Acc}, (l.foldl (stepA c law) A).1 = A.1 + ((l.length : Nat) : Int) ∧ (l.foldl (stepA c law) A).2.1 = A.2.1 + sumL (wt (coL c)) l ∧ (l.foldl (stepA c law) A).2.2.2.2.2.2.2.1 = A.2.2.2.2.2.2.2.1 + sumL (fun u => if isS c law u = true then 1 else 0) l ∧ (l.foldl (stepA c law) A).2.2.2.2.2.2.2.2.1 = A.2.2.2.2.2.2.2.2.1 + sumL (fun u => if isS c law u = true then wt (coL c) u else 0) l
  | [], A => by simp [sumL]
  | u :: l, A => by
    obtain ⟨h1, h2, h3, h4⟩ := fold_add (c := c) (law := law) (l := l) (A := stepA c law A u)
    rw [List.foldl_cons, h1, h2, h3, h4]
    refine ⟨?_, ?_, ?_, ?_⟩
    · rw [List.length_cons]
      show A.1 + 1 + _ = _
      omega
    · show A.2.1 + wt (coL c) u + _ = A.2.1 + (wt (coL c) u + _)
      omega
    · exact Int.add_assoc _ _ _
    · exact Int.add_assoc _ _ _
/-- the extremes of tables gone through, one at least -/
def extA (c : List Co) (A : Acc) (l : List (List Nat)) : Prop := ((∀ v ∈ l, wt (coL c) v ≤ A.2.2.1) ∧ ∃ pre post, l = pre ++ A.2.2.2.1 :: post ∧ wt (coL c) A.2.2.2.1 = A.2.2.1 ∧ ∀ v ∈ pre, wt (coL c) v < A.2.2.1) ∧ ((∀ v ∈ l, A.2.2.2.2.1 ≤ wt (coL c) v) ∧ ∃ v ∈ l, wt (coL c) v = A.2.2.2.2.1) ∧ ((∀ v ∈ l, A.2.2.2.2.2.1 ≤ sc (coL c) v) ∧ ∃ v ∈ l, sc (coL c) v = A.2.2.2.2.2.1) ∧ ((∀ v ∈ l, sc (coL c) v ≤ A.2.2.2.2.2.2.1) ∧ ∃ v ∈ l, sc (coL c) v = A.2.2.2.2.2.2.1)
theorem all_snoc {P : List Nat → Prop} {l : List (List Nat)} {u : List Nat} (h : ∀ v ∈ l, P v) (hu : P u) : ∀ v ∈ l ++ [u], P v := fun v hv => by
  rcases List.mem_append.mp hv with q | q
  · exact h v q
  · have : v = u := by simpa using q
    rw [this]
    exact hu
theorem ext_one {c : List Co} {law : Int} {A : Acc} {u : List Nat} (h : A.1 = 0) : extA c (stepA c law A u) [u] := by
  have e3 : (stepA c law A u).2.2.1 = wt (coL c) u := if_pos (Or.inl h)
  have e4 : (stepA c law A u).2.2.2.1 = u := if_pos (Or.inl h)
  have e5 : (stepA c law A u).2.2.2.2.1 = wt (coL c) u := if_pos (Or.inl h)
  have e6 : (stepA c law A u).2.2.2.2.2.1 = sc (coL c) u := if_pos (Or.inl h)
  have e7 : (stepA c law A u).2.2.2.2.2.2.1 = sc (coL c) u := if_pos (Or.inl h)
  have hm : ∀ {P : List Nat → Prop}, P u → ∀ v ∈ [u], P v := fun hp v hv => by
    have : v = u := by simpa using hv
    rw [this]
    exact hp
  unfold extA
  rw [e3, e4, e5, e6, e7]
  exact ⟨⟨hm (Int.le_refl _), [], [], rfl, rfl, fun v hv => absurd hv List.not_mem_nil⟩, ⟨hm (Int.le_refl _), u, List.mem_cons_self, rfl⟩, ⟨hm (Int.le_refl _), u, List.mem_cons_self, rfl⟩, hm (Int.le_refl _), u, List.mem_cons_self, rfl⟩
theorem ext_step {c : List Co} {law : Int} {A : Acc} {u : List Nat} {l : List (List Nat)} (hA : A.1 ≠ 0) (h : extA c A l) : extA c (stepA c law A u) (l ++ [u]) := by
  obtain ⟨⟨a1, pre, post, a2, a3, a4⟩, ⟨b1, v1, b2, b3⟩, ⟨c1, v2, c2, c3⟩, d1, v3, d2, d3⟩ := h
  have hu : u ∈ l ++ [u] := List.mem_append_right _ List.mem_cons_self
  refine ⟨?_, ?_, ?_, ?_⟩
  · by_cases hw : A.2.2.1 < wt (coL c) u
    · have e3 : (stepA c law A u).2.2.1 = wt (coL c) u := if_pos (Or.inr hw)
      have e4 : (stepA c law A u).2.2.2.1 = u := if_pos (Or.inr hw)
      rw [e3, e4]
      exact ⟨all_snoc (fun v hv => by have := a1 v hv; omega) (Int.le_refl _), l, [], rfl, rfl, fun v hv => by have := a1 v hv; omega⟩
    · have e3 : (stepA c law A u).2.2.1 = A.2.2.1 := if_neg (fun q => by rcases q with q | q; exact hA q; exact hw q)
      have e4 : (stepA c law A u).2.2.2.1 = A.2.2.2.1 := if_neg (fun q => by rcases q with q | q; exact hA q; exact hw q)
      rw [e3, e4]
      exact ⟨all_snoc a1 (by omega), pre, post ++ [u], by rw [a2]; simp, a3, a4⟩
  · by_cases hw : wt (coL c) u < A.2.2.2.2.1
    · have e5 : (stepA c law A u).2.2.2.2.1 = wt (coL c) u := if_pos (Or.inr hw)
      rw [e5]
      exact ⟨all_snoc (fun v hv => by have := b1 v hv; omega) (Int.le_refl _), u, hu, rfl⟩
    · have e5 : (stepA c law A u).2.2.2.2.1 = A.2.2.2.2.1 := if_neg (fun q => by rcases q with q | q; exact hA q; exact hw q)
      rw [e5]
      exact ⟨all_snoc b1 (by omega), v1, List.mem_append_left _ b2, b3⟩
  · by_cases hw : sc (coL c) u < A.2.2.2.2.2.1
    · have e6 : (stepA c law A u).2.2.2.2.2.1 = sc (coL c) u := if_pos (Or.inr hw)
      rw [e6]
      exact ⟨all_snoc (fun v hv => by have := c1 v hv; omega) (Int.le_refl _), u, hu, rfl⟩
    · have e6 : (stepA c law A u).2.2.2.2.2.1 = A.2.2.2.2.2.1 := if_neg (fun q => by rcases q with q | q; exact hA q; exact hw q)
      rw [e6]
      exact ⟨all_snoc c1 (by omega), v2, List.mem_append_left _ c2, c3⟩
  · by_cases hw : A.2.2.2.2.2.2.1 < sc (coL c) u
    · have e7 : (stepA c law A u).2.2.2.2.2.2.1 = sc (coL c) u := if_pos (Or.inr hw)
      rw [e7]
      exact ⟨all_snoc (fun v hv => by have := d1 v hv; omega) (Int.le_refl _), u, hu, rfl⟩
    · have e7 : (stepA c law A u).2.2.2.2.2.2.1 = A.2.2.2.2.2.2.1 := if_neg (fun q => by rcases q with q | q; exact hA q; exact hw q)
      rw [e7]
      exact ⟨all_snoc d1 (by omega), v3, List.mem_append_left _ d2, d3⟩
theorem ext_fold {c : List Co} {law : Int} : ∀ {m l : List (List Nat)} {A : Acc}, 0 < A.1 → extA c A l → extA c (m.foldl (stepA c law) A) (l ++ m)
  | [], l, A, _, h => by simpa using h
  | u :: m, l, A, hA, h => by
    have h1 := ext_fold (c := c) (law := law) (m := m) (l := l ++ [u]) (A := stepA c law A u) (by show 0 < A.1 + 1; omega) (ext_step (by omega) h)
    rw [List.append_assoc] at h1
    exact h1
theorem ext_all {c : List Co} {law : Int} {A : Acc} (hA : A.1 = 0) : ∀ {l : List (List Nat)}, l ≠ [] → extA c (l.foldl (stepA c law) A) l
  | [], h => absurd rfl h
  | u :: l, _ => by
    have h1 := ext_fold (c := c) (law := law) (m := l) (l := [u]) (A := stepA c law A u) (by show 0 < A.1 + 1; omega) (ext_one hA)
    exact h1
/-- the place of the table seen -/
theorem rank_no {c : List Co} {law : Int} : ∀ {l : List (List Nat)} {A : Acc}, xsL c ∉ l → (l.foldl (stepA c law) A).2.2.2.2.2.2.2.2.2 = A.2.2.2.2.2.2.2.2.2
  | [], A, _ => rfl
  | u :: l, A, h => by
    have h1 := rank_no (c := c) (law := law) (l := l) (A := stepA c law A u) (fun q => h (List.mem_cons_of_mem _ q))
    rw [List.foldl_cons, h1]
    exact if_neg (fun q => h (by rw [q]; exact List.mem_cons_self))
theorem rank_at {c : List Co} {law : Int} {pre post : List (List Nat)} {A : Acc} (h : xsL c ∉ post) : ((pre ++ xsL c :: post).foldl (stepA c law) A).2.2.2.2.2.2.2.2.2 = A.1 + ((pre.length : Nat) : Int) := by
  rw [List.foldl_append, List.foldl_cons, rank_no h]
  have h1 := (fold_add (c := c) (law := law) (l := pre) (A := A)).1
  rw [← h1]
  exact if_pos rfl
