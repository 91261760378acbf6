/-! ===== the text's items as strata ===== -/
abbrev Co := Int × Int × Int
abbrev St := List (List Co)
abbrev vcol (n : Nat) (L : Int → Int) (p : Int) : Prop := (inA n L p = 99 ∧ inA n L (i2 n L p) = 44 ∧ inA n L (i4 n L p) = 44 ∧ inA n L (i6 n L p) = 59) ∧ (1 ≤ iT n L p ∧ iT n L p ≤ 12 ∧ 0 ≤ iX n L p ∧ iX n L p ≤ iT n L p ∧ 0 ≤ iV n L p ∧ iV n L p ≤ 9)
def addc (S : St) (c : Co) : St := S.dropLast ++ [S.getLastD [] ++ [c]]
def psI (n : Nat) (L : Int → Int) (p : Int) (S : St) : Option (Int × St) :=
  if inA n L p = 115 then (if inA n L (p + 1) = 59 ∧ S.length < 3 then some (p + 2, S ++ [[]]) else none)
  else if vcol n L p ∧ 0 < S.length ∧ (S.getLastD []).length < 5 then some (i7 n L p, addc S (iT n L p, iX n L p, iV n L p)) else none
def psF (n : Nat) (L : Int → Int) : Nat → Int → St → Int × St
  | 0, _, S => (-1, S)
  | f + 1, p, S => if p < n then (match psI n L p S with | none => (p, S) | some q => psF n L f q.1 q.2) else (-1, S)
/-- the drafts hold the strata S -/
def RD (S : St) (Cn : Nat → Int → Int) (dn : Nat → Nat) (dT dX dV : Nat → Int → Int) (dW : Nat → Nat → Int → Int) : Prop :=
  ∀ k : Nat, k < S.length → dn k = (S.getD k []).length ∧ (S.getD k []).length ≤ 5 ∧ ∀ j : Nat, j < (S.getD k []).length → dT k ((j : Nat) : Int) = ((S.getD k []).getD j (0, 0, 0)).1 ∧ dX k ((j : Nat) : Int) = ((S.getD k []).getD j (0, 0, 0)).2.1 ∧ dV k ((j : Nat) : Int) = ((S.getD k []).getD j (0, 0, 0)).2.2 ∧ ∀ y : Int, 0 ≤ y → y ≤ 12 → dW k j y = setA Cn (((S.getD k []).getD j (0, 0, 0)).1) y
theorem RD_nil {Cn : Nat → Int → Int} {dn : Nat → Nat} {dT dX dV : Nat → Int → Int} {dW : Nat → Nat → Int → Int} : RD [] Cn dn dT dX dV dW := fun k hk => absurd hk (Nat.not_lt_zero _)
theorem gD_l {α : Type} {l m : List α} {k : Nat} {d : α} (h : k < l.length) : (l ++ m).getD k d = l.getD k d := by
  simp [List.getD_eq_getElem?_getD, List.getElem?_append_left h]
theorem gD_e {α : Type} {l : List α} {x d : α} : (l ++ [x]).getD l.length d = x := by
  simp [List.getD_eq_getElem?_getD]
theorem RD_s {S : St} {Cn : Nat → Int → Int} {dn : Nat → Nat} {dT dX dV : Nat → Int → Int} {dW : Nat → Nat → Int → Int} (h : RD S Cn dn dT dX dV dW) : RD (S ++ [[]]) Cn (uF dn S.length 0) dT dX dV dW := fun k hk => by
  rw [List.length_append] at hk
  simp only [List.length_cons, List.length_nil] at hk
  by_cases hq : k = S.length
  · subst hq
    rw [gD_e, uF_same]
    exact ⟨rfl, by simp, fun j hj => absurd hj (Nat.not_lt_zero _)⟩
  · rw [gD_l (by omega), uF_ne hq]
    exact h k (by omega)
theorem RD_c {A : St} {x : List Co} {c : Co} {W1 : Int → Int} {Cn : Nat → Int → Int} {dn : Nat → Nat} {dT dX dV : Nat → Int → Int} {dW : Nat → Nat → Int → Int} (h : RD (A ++ [x]) Cn dn dT dX dV dW) (hx : x.length < 5) (hW : ∀ y : Int, 0 ≤ y → y ≤ 12 → W1 y = setA Cn c.1 y) : RD (A ++ [x ++ [c]]) Cn (uF dn A.length (dn A.length + 1)) (uF dT A.length (uZ (dT A.length) ((dn A.length : Nat) : Int) c.1)) (uF dX A.length (uZ (dX A.length) ((dn A.length : Nat) : Int) c.2.1)) (uF dV A.length (uZ (dV A.length) ((dn A.length : Nat) : Int) c.2.2)) (uF dW A.length (uF (dW A.length) (dn A.length) W1)) := fun k hk => by
  have hk' : k < (A ++ [x]).length := by simpa using hk
  have h0 := h k hk'
  by_cases hq : k = A.length
  · subst hq
    rw [gD_e] at h0
    obtain ⟨h1, h2, h3⟩ := h0
    simp only [gD_e, uF_same]
    refine ⟨by rw [h1]; simp, by simp; omega, fun j hj => ?_⟩
    rw [h1]
    by_cases hj2 : j = x.length
    · subst hj2
      simp only [gD_e, uZ_same, uF_same]
      exact ⟨trivial, trivial, trivial, hW⟩
    · have hj3 : j < x.length := by simp at hj; omega
      rw [gD_l hj3, uZ_ne (by omega), uZ_ne (by omega), uZ_ne (by omega), uF_ne hj2]
      exact h3 j hj3
  · have hk2 : k < A.length := by simp at hk; omega
    rw [gD_l hk2] at h0
    rw [gD_l hk2, uF_ne hq, uF_ne hq, uF_ne hq, uF_ne hq, uF_ne hq]
    exact h0
theorem addc_eq (A : St) (x : List Co) (c : Co) : addc (A ++ [x]) c = A ++ [x ++ [c]] := by
  unfold addc
  rw [List.dropLast_concat, List.getLastD_concat]
