/-! ===== texts told letter by letter, as they are read ===== -/
/-- the letters of a number, a sign behind it; of a column -/
def tno (v s : Int) : List Int := (if 9 < v then [48 + v / 10] else []) ++ [48 + v % 10, s]
def tcol (T X V : Int) : List Int := 99 :: (tno T 44 ++ (tno X 44 ++ tno V 59))
def RDs (n : Nat) (L : Int → Int) (p : Int) (A : List Int) : Prop := ∀ i : Nat, i < A.length → inA n L (p + ((i : Nat) : Int)) = A.getD i 0
theorem RDs_c {n : Nat} {L : Int → Int} {p x : Int} {A : List Int} (h : RDs n L p (x :: A)) : inA n L p = x ∧ RDs n L (p + 1) A := by
  refine ⟨?_, fun i hi => ?_⟩
  · have h0 := h 0 (Nat.succ_pos _)
    rw [show p + ((0 : Nat) : Int) = p by omega] at h0
    exact h0
  · have h0 := h (i + 1) (Nat.succ_lt_succ hi)
    rw [show p + ((i + 1 : Nat) : Int) = p + 1 + ((i : Nat) : Int) by omega] at h0
    rw [h0]
    simp [List.getD_eq_getElem?_getD]
theorem RDs_a {n : Nat} {L : Int → Int} {A Bl : List Int} : ∀ {p : Int}, RDs n L p (A ++ Bl) → RDs n L p A ∧ RDs n L (p + ((A.length : Nat) : Int)) Bl := fun {p} h => by
  refine ⟨fun i hi => ?_, fun i hi => ?_⟩
  · rw [h i (by rw [List.length_append]; omega)]
    simp [List.getD_eq_getElem?_getD, List.getElem?_append_left hi]
  · have h0 := h (A.length + i) (by rw [List.length_append]; omega)
    rw [show p + ((A.length + i : Nat) : Int) = p + ((A.length : Nat) : Int) + ((i : Nat) : Int) by omega] at h0
    rw [h0]
    simp [List.getD_eq_getElem?_getD, List.getElem?_append_right (Nat.le_add_right A.length i)]
theorem RDs_at {W A tl : List Int} : RDs (W ++ A ++ tl).length (lt (W ++ A ++ tl)) ((W.length : Nat) : Int) A := fun i hi => by
  have hl : W.length + i < (W ++ A ++ tl).length := by
    rw [List.length_append, List.length_append]
    omega
  rw [inA_in (by omega)]
  unfold lt
  rw [show (((W.length : Nat) : Int) + ((i : Nat) : Int)).toNat = W.length + i by omega, List.getD_eq_getElem?_getD, List.getD_eq_getElem?_getD, List.append_assoc, List.getElem?_append_right (Nat.le_add_right _ _), Nat.add_sub_cancel_left, List.getElem?_append_left hi]
theorem fig_d {n : Nat} {L : Int → Int} {p d : Int} (h : inA n L p = 48 + d) (hd : 0 ≤ d ∧ d ≤ 9) : figA n L p = d := by
  unfold figA
  rw [h, if_pos (by omega)]
  omega
theorem fig_n {n : Nat} {L : Int → Int} {p s : Int} (h : inA n L p = s) (hs : ¬ (48 ≤ s ∧ s ≤ 57)) : figA n L p = -1 := by
  unfold figA
  rw [h, if_neg hs]
theorem ps_no {n : Nat} {L : Int → Int} {p v s : Int} (hv : 0 ≤ v ∧ v ≤ 99) (hs : ¬ (48 ≤ s ∧ s ≤ 57)) (h : RDs n L p (tno v s)) : numV n L p = v ∧ numP n L p + 1 = p + (((tno v s).length : Nat) : Int) ∧ inA n L (numP n L p) = s := by
  unfold tno at h ⊢
  by_cases h9 : 9 < v
  · rw [if_pos h9] at h ⊢
    obtain ⟨a0, h⟩ := RDs_c h
    obtain ⟨a1, h⟩ := RDs_c h
    obtain ⟨a2, -⟩ := RDs_c h
    have f0 := fig_d a0 (show 0 ≤ v / 10 ∧ v / 10 ≤ 9 by omega)
    have f1 := fig_d a1 (show 0 ≤ v % 10 ∧ v % 10 ≤ 9 by omega)
    have e1 : numV n L p = v := by
      unfold numV
      rw [f0, f1, if_neg (by omega), if_neg (by omega)]
      omega
    have e2 : numP n L p = p + 1 + 1 := by
      unfold numP
      rw [f0, f1, if_neg (by omega), if_neg (by omega)]
    rw [e1, e2]
    refine ⟨rfl, ?_, a2⟩
    show _ = p + ((3 : Nat) : Int)
    omega
  · rw [if_neg h9] at h ⊢
    obtain ⟨a0, h⟩ := RDs_c h
    obtain ⟨a1, -⟩ := RDs_c h
    have f0 := fig_d a0 (show 0 ≤ v % 10 ∧ v % 10 ≤ 9 by omega)
    have f1 := fig_n a1 hs
    have e1 : numV n L p = v := by
      unfold numV
      rw [f0, f1, if_neg (by omega), if_pos (by omega)]
      omega
    have e2 : numP n L p = p + 1 := by
      unfold numP
      rw [f0, f1, if_neg (by omega), if_pos (by omega)]
    rw [e1, e2]
    refine ⟨rfl, ?_, a1⟩
    show _ = p + ((2 : Nat) : Int)
    omega
def cok1 (T X V : Int) : Prop := (1 ≤ T ∧ T ≤ 12) ∧ (0 ≤ X ∧ X ≤ T) ∧ (0 ≤ V ∧ V ≤ 9)
theorem ps_col {n : Nat} {L : Int → Int} {p T X V : Int} (hk : cok1 T X V) (h : RDs n L p (tcol T X V)) : inA n L p = 99 ∧ vcol n L p ∧ (iT n L p = T ∧ iX n L p = X ∧ iV n L p = V) ∧ i7 n L p = p + (((tcol T X V).length : Nat) : Int) := by
  obtain ⟨⟨t1, t2⟩, ⟨x1, x2⟩, v1, v2⟩ := hk
  have hl : (tcol T X V).length = 1 + (tno T 44).length + (tno X 44).length + (tno V 59).length := by
    unfold tcol
    rw [List.length_cons, List.length_append, List.length_append]
    omega
  unfold tcol at h
  obtain ⟨a0, h⟩ := RDs_c h
  obtain ⟨hT, h⟩ := RDs_a h
  obtain ⟨hX, hV⟩ := RDs_a h
  obtain ⟨b1, b2, b3⟩ := ps_no (by omega) (by omega) hT
  have eT : iT n L p = T := b1
  have e2 : i2 n L p + 1 = p + 1 + (((tno T 44).length : Nat) : Int) := b2
  have a2 : inA n L (i2 n L p) = 44 := b3
  have e3 : i3 n L p = i2 n L p + 1 := by
    unfold i3 skp
    rw [if_pos a2]
  rw [← e2, ← e3] at hX
  obtain ⟨c1, c2, c3⟩ := ps_no (by omega) (by omega) hX
  have eX : iX n L p = X := c1
  have e4 : i4 n L p + 1 = i3 n L p + (((tno X 44).length : Nat) : Int) := c2
  have a4 : inA n L (i4 n L p) = 44 := c3
  have e5 : i5 n L p = i4 n L p + 1 := by
    unfold i5 skp
    rw [if_pos a4]
  rw [← e2, ← e3, ← e4, ← e5] at hV
  obtain ⟨d1, d2, d3⟩ := ps_no (by omega) (by omega) hV
  have eV : iV n L p = V := d1
  have e6 : i6 n L p + 1 = i5 n L p + (((tno V 59).length : Nat) : Int) := d2
  have a6 : inA n L (i6 n L p) = 59 := d3
  have e7 : i7 n L p = i6 n L p + 1 := by
    unfold i7 skp
    rw [if_pos a6]
  refine ⟨a0, ⟨⟨a0, a2, a4, a6⟩, ?_⟩, ⟨eT, eX, eV⟩, ?_⟩
  · rw [eT, eX, eV]
    omega
  · rw [hl]
    omega
/-- W is read whole, the strata S come of it -/
def PS (W : List Int) (S : St) : Prop := ∃ k, k ≤ W.length ∧ ∀ (tl : List Int) (f : Nat), psF (W ++ tl).length (lt (W ++ tl)) (f + k) 0 [] = psF (W ++ tl).length (lt (W ++ tl)) f ((W.length : Nat) : Int) S
theorem PS_nil : PS [] [] := ⟨0, Nat.zero_le _, fun _ _ => rfl⟩
theorem PS_item {W A : List Int} {S S' : St} (hA : 0 < A.length) (h : ∀ tl, psI (W ++ A ++ tl).length (lt (W ++ A ++ tl)) ((W.length : Nat) : Int) S = some ((((W ++ A).length : Nat) : Int), S')) (hP : PS W S) : PS (W ++ A) S' := by
  obtain ⟨k, hk, e⟩ := hP
  refine ⟨k + 1, by rw [List.length_append]; omega, fun tl f => ?_⟩
  have e1 := e (A ++ tl) (f + 1)
  rw [← List.append_assoc] at e1
  rw [show f + (k + 1) = f + 1 + k by omega, e1]
  exact psF_go (by rw [List.length_append, List.length_append]; omega) (h tl)
theorem PS_s {W : List Int} {S : St} (h : PS W S) (hS : S.length < 3) : PS (W ++ [115, 59]) (S ++ [[]]) := by
  refine PS_item (by decide) (fun tl => ?_) h
  have hr := RDs_at (W := W) (A := [115, 59]) (tl := tl)
  obtain ⟨a0, hr⟩ := RDs_c hr
  obtain ⟨a1, -⟩ := RDs_c hr
  unfold psI
  rw [if_pos a0, if_pos ⟨a1, hS⟩, List.length_append]
  congr 2
theorem PS_c {W : List Int} {A : St} {x : List Co} {T X V : Int} (h : PS W (A ++ [x])) (hx : x.length < 5) (hk : cok1 T X V) : PS (W ++ tcol T X V) (A ++ [x ++ [(T, X, V)]]) := by
  refine PS_item (by unfold tcol; exact Nat.succ_pos _) (fun tl => ?_) h
  obtain ⟨a0, hv, ⟨eT, eX, eV⟩, e7⟩ := ps_col hk (RDs_at (W := W) (A := tcol T X V) (tl := tl))
  unfold psI
  rw [if_neg (by rw [a0]; omega), if_pos ⟨hv, by rw [List.length_append]; exact Nat.succ_pos _, by rw [List.getLastD_concat]; exact hx⟩, eT, eX, eV, e7, addc_eq, List.length_append]
  congr 2
theorem PS_end {W : List Int} {S : St} (h : PS W S) (hW : W.length ≤ 200) : psW W = (-1, S) := by
  obtain ⟨k, hk, e⟩ := h
  have e1 := e [] (200 - k)
  rw [List.append_nil, show 200 - k + k = 200 by omega] at e1
  unfold psW
  rw [e1]
  cases hf : 200 - k with
  | zero => rfl
  | succ f => exact psF_end (by omega)
theorem tno_len {v s : Int} : 2 ≤ (tno v s).length ∧ (tno v s).length ≤ 3 := by
  unfold tno
  by_cases h : 9 < v
  · rw [if_pos h]
    exact ⟨by simp, by simp⟩
  · rw [if_neg h]
    exact ⟨by simp, by simp⟩
theorem tcol_len {T X V : Int} (hV : V ≤ 9) : (tcol T X V).length ≤ 9 := by
  have h1 := tno_len (v := T) (s := 44)
  have h2 := tno_len (v := X) (s := 44)
  have h3 : (tno V 59).length = 2 := by
    unfold tno
    rw [if_neg (by omega)]
    rfl
  unfold tcol
  rw [List.length_cons, List.length_append, List.length_append]
  omega
