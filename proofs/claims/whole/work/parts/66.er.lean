/-! ===== the model's rows of numbers told anew ===== -/
theorem MC_of {f : Int → Int} {k : Nat} {c : List Co} (h : MC f k c) {j w : Int} (h1 : 0 ≤ j) (h2 : j < c.length) (hw : 0 ≤ w ∧ w ≤ 2) : f (4 + 15 * ((k : Nat) : Int) + 3 * j + w) = cof c j w := by
  have hq := MC_i h h1 h2
  unfold cof
  rcases (show w = 0 ∨ w = 1 ∨ w = 2 by omega) with e | e | e <;> subst e
  · rw [if_pos rfl]
    exact hq.1
  · rw [if_neg (by omega), if_pos rfl]
    exact hq.2.1
  · rw [if_neg (by omega), if_neg (by omega)]
    exact hq.2.2
theorem Sv_at {Sv : Int → Int} (h : SvOK Sv) {t x : Int} (ht : 0 ≤ t ∧ t ≤ 12) (hx : 0 ≤ x ∧ x ≤ 12) : Sv (13 * t + x) = ((ch t.toNat x.toNat : Nat) : Int) := by
  obtain ⟨a, rfl⟩ := Int.eq_ofNat_of_zero_le ht.1
  obtain ⟨b, rfl⟩ := Int.eq_ofNat_of_zero_le hx.1
  exact h a b (by omega) (by omega)
theorem setD_st {S : St} {k i : Nat} {c : List Co} (hk : k < S.length) : (S.set k c).getD i [] = if i = k then c else S.getD i [] := setD_at hk
theorem ER_put {f f' : Int → Int} {S : St} {k : Nat} {c c' : List Co} (h : ER f S) (hk : k < S.length) (hcS : S.getD k [] = c) (hl : c'.length = c.length) (ho : ∀ y : Int, (∀ j w : Int, 0 ≤ j → j < c.length → 0 ≤ w → w ≤ 2 → y ≠ 4 + 15 * ((k : Nat) : Int) + 3 * j + w) → f' y = f y) (hn : ∀ j : Nat, j < c.length → f' (4 + 15 * ((k : Nat) : Int) + 3 * ((j : Nat) : Int) + 0) = coT c' ((j : Nat) : Int) ∧ f' (4 + 15 * ((k : Nat) : Int) + 3 * ((j : Nat) : Int) + 1) = coX c' ((j : Nat) : Int) ∧ f' (4 + 15 * ((k : Nat) : Int) + 3 * ((j : Nat) : Int) + 2) = coV c' ((j : Nat) : Int)) : ER f' (S.set k c') := by
  have hkk := h.2 k hk
  rw [hcS] at hkk
  refine ⟨⟨by rw [ho 0 (fun j w h1 h2 h3 h4 => by omega), List.length_set]; exact h.1.1, by rw [List.length_set]; exact h.1.2⟩, fun i hi => ?_⟩
  rw [List.length_set] at hi
  rw [setD_st hk]
  by_cases hik : i = k
  · subst hik
    rw [if_pos rfl]
    exact ⟨⟨hkk.1.1, by rw [hl]; exact hkk.1.2⟩, by rw [ho _ (fun j w h1 h2 h3 h4 => by have := hkk.1.1; omega), hl]; exact hkk.2.1, fun j hj => hn j (by omega)⟩
  · rw [if_neg hik]
    have hii := h.2 i hi
    have h5 := hkk.1
    have h6 := hii.1
    refine ⟨hii.1, by rw [ho _ (fun j w h1 h2 h3 h4 => by omega)]; exact hii.2.1, fun j hj => ?_⟩
    have e : ∀ w : Int, 0 ≤ w → w ≤ 2 → f' (4 + 15 * ((i : Nat) : Int) + 3 * ((j : Nat) : Int) + w) = f (4 + 15 * ((i : Nat) : Int) + 3 * ((j : Nat) : Int) + w) := fun w h7 h8 => ho _ (fun j' w' h1 h2 h3 h4 q => hik (by omega))
    rw [e 0 (by omega) (by omega), e 1 (by omega) (by omega), e 2 (by omega) (by omega)]
    exact hii.2.2 j hj
theorem ER_upX {f : Int → Int} {S : St} {k : Nat} {c : List Co} {j v : Int} (h : ER f S) (hk : k < S.length) (hcS : S.getD k [] = c) (hj : 0 ≤ j ∧ j < c.length) : ER (uZ f (4 + 15 * ((k : Nat) : Int) + 3 * j + 1) v) (S.set k (upX c j v)) := by
  have hkk := h.2 k hk
  rw [hcS] at hkk
  refine ER_put h hk hcS (upX_len _ _ _) (fun y hy => uZ_ne (hy j 1 hj.1 hj.2 (by omega) (by omega))) (fun i hi => ?_)
  obtain ⟨e1, e2, e3⟩ := upX_at (x := v) hj ((i : Nat) : Int) (by omega)
  have h5 := hkk.2.2 i hi
  rw [e1, e2, e3]
  refine ⟨by rw [uZ_ne (by omega)]; exact h5.1, ?_, by rw [uZ_ne (by omega)]; exact h5.2.2⟩
  by_cases hij : ((i : Nat) : Int) = j
  · rw [if_pos hij, hij, uZ_same]
  · rw [if_neg hij, uZ_ne (by omega)]
    exact h5.2.1
theorem ER_upV {f : Int → Int} {S : St} {k : Nat} {c : List Co} {j v : Int} (h : ER f S) (hk : k < S.length) (hcS : S.getD k [] = c) (hj : 0 ≤ j ∧ j < c.length) : ER (uZ f (4 + 15 * ((k : Nat) : Int) + 3 * j + 2) v) (S.set k (upV c j v)) := by
  have hkk := h.2 k hk
  rw [hcS] at hkk
  refine ER_put h hk hcS (upV_len _ _ _) (fun y hy => uZ_ne (hy j 2 hj.1 hj.2 (by omega) (by omega))) (fun i hi => ?_)
  obtain ⟨e1, e2, e3⟩ := upV_at (x := v) hj ((i : Nat) : Int) (by omega)
  have h5 := hkk.2.2 i hi
  rw [e1, e2, e3]
  refine ⟨by rw [uZ_ne (by omega)]; exact h5.1, by rw [uZ_ne (by omega)]; exact h5.2.1, ?_⟩
  by_cases hij : ((i : Nat) : Int) = j
  · rw [if_pos hij, hij, uZ_same]
  · rw [if_neg hij, uZ_ne (by omega)]
    exact h5.2.2
theorem ER_congr {f f' : Int → Int} {S : St} (h : ER f S) (he : ∀ y : Int, 0 ≤ y → y < 49 → f' y = f y) : ER f' S := by
  refine ⟨⟨by rw [he 0 (by omega) (by omega)]; exact h.1.1, h.1.2⟩, fun k hk => ?_⟩
  have hkk := h.2 k hk
  have h5 := hkk.1
  refine ⟨hkk.1, by rw [he _ (by omega) (by omega)]; exact hkk.2.1, fun j hj => ?_⟩
  rw [he _ (by omega) (by omega), he _ (by omega) (by omega), he _ (by omega) (by omega)]
  exact hkk.2.2 j hj
/-- a stratum more -/
theorem ER_s {f : Int → Int} {S : St} (h : ER f S) (hS : S.length < 3) (h0 : ∀ y : Int, 1 + ((S.length : Nat) : Int) ≤ y → y < 4 → f y = 0) : ER (uZ f 0 (((S.length : Nat) : Int) + 1)) (S ++ [[]]) := by
  refine ⟨⟨by rw [uZ_same, List.length_append]; rfl, by rw [List.length_append]; exact hS⟩, fun k hk => ?_⟩
  rw [List.length_append] at hk
  have hk' : k < S.length + 1 := hk
  by_cases hq : k = S.length
  · subst hq
    rw [gD_e]
    exact ⟨⟨hS, by decide⟩, by rw [uZ_ne (by omega), h0 _ (by omega) (by omega)]; rfl, fun j hj => absurd hj (Nat.not_lt_zero _)⟩
  · rw [gD_l (by omega)]
    have hkk := h.2 k (by omega)
    refine ⟨hkk.1, by rw [uZ_ne (by omega)]; exact hkk.2.1, fun j hj => ?_⟩
    rw [uZ_ne (by omega), uZ_ne (by omega), uZ_ne (by omega)]
    exact hkk.2.2 j hj
/-- a column more -/
theorem co_app {x : List Co} {c : Co} {i : Int} (hi : 0 ≤ i) : coT (x ++ [c]) i = (if i = x.length then c.1 else coT x i) ∧ coX (x ++ [c]) i = (if i = x.length then c.2.1 else coX x i) ∧ coV (x ++ [c]) i = (if i = x.length then c.2.2 else coV x i) := by
  unfold coT coX coV
  rw [gD_c hi]
  by_cases h : i = x.length
  · rw [if_pos h, if_pos h, if_pos h, if_pos h]
    exact ⟨rfl, rfl, rfl⟩
  · rw [if_neg h, if_neg h, if_neg h, if_neg h]
    exact ⟨rfl, rfl, rfl⟩
theorem ER_c {f : Int → Int} {A : St} {x : List Co} {c : Co} {kk at1 : Int} (h : ER f (A ++ [x])) (hx : x.length < 5) (hk : kk = ((A.length : Nat) : Int)) (ha : at1 = 4 + 15 * kk + 3 * ((x.length : Nat) : Int)) : ER (uZ (uZ (uZ (uZ f at1 c.1) (at1 + 1) c.2.1) (at1 + 2) c.2.2) (1 + kk) (((x.length : Nat) : Int) + 1)) (A ++ [x ++ [c]]) := by
  subst hk
  have hl : ∀ y : List Co, (A ++ [y]).length = A.length + 1 := fun y => by rw [List.length_append]; rfl
  have h3 := h.1.2
  rw [hl] at h3
  have hA := h.2 A.length (by rw [hl]; omega)
  rw [gD_e] at hA
  refine ⟨⟨by rw [uZ_ne (by omega), uZ_ne (by omega), uZ_ne (by omega), uZ_ne (by omega), h.1.1, hl, hl], by rw [hl]; exact h3⟩, fun i hi => ?_⟩
  rw [hl] at hi
  by_cases hq : i = A.length
  · subst hq
    rw [gD_e]
    refine ⟨⟨by omega, by rw [List.length_append]; exact hx⟩, by rw [uZ_same, List.length_append]; rfl, fun j hj => ?_⟩
    rw [List.length_append] at hj
    have hj' : j < x.length + 1 := hj
    obtain ⟨e1, e2, e3⟩ := co_app (x := x) (c := c) (i := ((j : Nat) : Int)) (by omega)
    rw [e1, e2, e3]
    by_cases hj2 : j = x.length
    · subst hj2
      rw [if_pos rfl, if_pos rfl, if_pos rfl]
      refine ⟨?_, ?_, ?_⟩
      · rw [uZ_ne (by omega), uZ_ne (by omega), uZ_ne (by omega), show 4 + 15 * ((A.length : Nat) : Int) + 3 * ((x.length : Nat) : Int) + 0 = at1 by omega, uZ_same]
      · rw [uZ_ne (by omega), uZ_ne (by omega), show 4 + 15 * ((A.length : Nat) : Int) + 3 * ((x.length : Nat) : Int) + 1 = at1 + 1 by omega, uZ_same]
      · rw [uZ_ne (by omega), show 4 + 15 * ((A.length : Nat) : Int) + 3 * ((x.length : Nat) : Int) + 2 = at1 + 2 by omega, uZ_same]
    · rw [if_neg (by omega), if_neg (by omega), if_neg (by omega)]
      have h6 := hA.2.2 j (by omega)
      have e : ∀ w : Int, 0 ≤ w → w ≤ 2 → uZ (uZ (uZ (uZ f at1 c.1) (at1 + 1) c.2.1) (at1 + 2) c.2.2) (1 + ((A.length : Nat) : Int)) (((x.length : Nat) : Int) + 1) (4 + 15 * ((A.length : Nat) : Int) + 3 * ((j : Nat) : Int) + w) = f (4 + 15 * ((A.length : Nat) : Int) + 3 * ((j : Nat) : Int) + w) := fun w h7 h8 => by
        rw [uZ_ne (by omega), uZ_ne (by omega), uZ_ne (by omega), uZ_ne (by omega)]
      rw [e 0 (by omega) (by omega), e 1 (by omega) (by omega), e 2 (by omega) (by omega)]
      exact h6
  · rw [gD_l (by omega)]
    have hii := h.2 i (by rw [hl]; omega)
    rw [gD_l (by omega)] at hii
    have h6 := hii.1
    refine ⟨hii.1, by rw [uZ_ne (by omega), uZ_ne (by omega), uZ_ne (by omega), uZ_ne (by omega)]; exact hii.2.1, fun j hj => ?_⟩
    have e : ∀ w : Int, 0 ≤ w → w ≤ 2 → uZ (uZ (uZ (uZ f at1 c.1) (at1 + 1) c.2.1) (at1 + 2) c.2.2) (1 + ((A.length : Nat) : Int)) (((x.length : Nat) : Int) + 1) (4 + 15 * ((i : Nat) : Int) + 3 * ((j : Nat) : Int) + w) = f (4 + 15 * ((i : Nat) : Int) + 3 * ((j : Nat) : Int) + w) := fun w h7 h8 => by
      rw [uZ_ne (by omega), uZ_ne (by omega), uZ_ne (by omega), uZ_ne (by omega)]
    rw [e 0 (by omega) (by omega), e 1 (by omega) (by omega), e 2 (by omega) (by omega)]
    exact hii.2.2 j hj
/-- the past's rows -/
def PR (Ps : Int → Int) (P : List St) : Prop := P.length ≤ 6 ∧ ∀ i : Nat, i < P.length → ER (fun y => Ps (49 * (((P.length : Nat) : Int) - 1 - ((i : Nat) : Int)) + y)) (P.getD i [])
theorem PR_pop {Ps : Int → Int} {S : St} {P : List St} (h : PR Ps (S :: P)) : PR Ps P ∧ ER (fun y => Ps (49 * ((P.length : Nat) : Int) + y)) S := by
  have hl : (S :: P).length = P.length + 1 := List.length_cons
  constructor
  · refine ⟨by have := h.1; omega, fun i hi => ?_⟩
    have h1 := h.2 (i + 1) (by omega)
    rw [hl] at h1
    refine ER_congr h1 (fun y _ _ => ?_)
    show Ps _ = Ps _
    congr 1
    omega
  · have h1 := h.2 0 (by omega)
    rw [hl] at h1
    refine ER_congr h1 (fun y _ _ => ?_)
    show Ps _ = Ps _
    congr 1
    omega
theorem PR_push {Ps Ps' Nw : Int → Int} {S : St} {P : List St} (h : PR Ps P) (hP : P.length < 6) (hS : ER Nw S) (h1 : ∀ y : Int, 0 ≤ y → y < 49 → Ps' (49 * ((P.length : Nat) : Int) + y) = Nw y) (h2 : ∀ y : Int, 0 ≤ y → y < 49 * ((P.length : Nat) : Int) → Ps' y = Ps y) : PR Ps' ((S :: P).take 6) := by
  have hl : (S :: P).length = P.length + 1 := List.length_cons
  have ht : (S :: P).take 6 = S :: P := List.take_of_length_le (by omega)
  rw [ht]
  refine ⟨by omega, fun i hi => ?_⟩
  rw [hl]
  cases i with
  | zero =>
    refine ER_congr hS (fun y h3 h4 => ?_)
    show Ps' _ = _
    rw [← h1 y h3 h4]
    congr 1
    omega
  | succ i =>
    rw [hl] at hi
    refine ER_congr (h.2 i (by omega)) (fun y h3 h4 => ?_)
    show Ps' _ = Ps _
    rw [h2 _ (by omega) (by omega)]
    congr 1
    omega
theorem PR_shift {Ps Ps' Nw : Int → Int} {S : St} {P : List St} (h : PR Ps P) (hP : P.length = 6) (hS : ER Nw S) (h1 : ∀ y : Int, 0 ≤ y → y < 49 → Ps' (49 * 5 + y) = Nw y) (h2 : ∀ y : Int, 0 ≤ y → y < 245 → Ps' y = Ps (y + 49)) : PR Ps' ((S :: P).take 6) := by
  have hl : ((S :: P).take 6).length = 6 := by rw [List.length_take, List.length_cons]; omega
  refine ⟨by omega, fun i hi => ?_⟩
  rw [hl] at hi ⊢
  have hg : ((S :: P).take 6).getD i [] = (S :: P).getD i [] := by
    rw [List.getD_eq_getElem?_getD, List.getElem?_take_of_lt hi, List.getD_eq_getElem?_getD]
  rw [hg]
  cases i with
  | zero =>
    refine ER_congr hS (fun y h3 h4 => ?_)
    show Ps' _ = _
    rw [← h1 y h3 h4]
    congr 1
  | succ i =>
    have h5 := h.2 i (by omega)
    rw [hP] at h5
    refine ER_congr h5 (fun y h3 h4 => ?_)
    show Ps' _ = Ps _
    rw [h2 _ (by omega) (by omega)]
    congr 1
    omega
