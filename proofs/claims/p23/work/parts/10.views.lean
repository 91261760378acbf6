/-! ===== what the cells hold: views of the objects ===== -/
def vSets (cy : Nat → ClassId) (B : Nat) (g : Nat → va_E) (b : Nat) (Cn : Nat → Int → Int) : Prop := g b = .inr (6, [.ref (B + (b + 1))]) ∧ g (b + 1) = cR (cy 6) B 13 (b + 2) 1 ∧ (∀ k : Nat, k < 13 → g (b + (k + 2)) = cJ (cy 2) 13 (Cn k))
theorem vSets_fr {cy : Nat → ClassId} {B : Nat} {g g' : Nat → va_E} {b : Nat} {Cn : Nat → Int → Int} (h : vSets cy B g b Cn) (hq : ∀ q, b ≤ q → q < b + 15 → g' q = g q) : vSets cy B g' b Cn := ⟨(hq _ (by omega) (by omega)).trans h.1, (hq _ (by omega) (by omega)).trans h.2.1, fun k hk => (hq _ (by omega) (by omega)).trans (h.2.2 k hk)⟩
def vText (cy : Nat → ClassId) (B : Nat) (g : Nat → va_E) (b : Nat) (n : Nat) (L : Int → Int) : Prop := g b = .inr (9, [.ref (B + (b + 1)), .int (zI ((n : Nat) : Int))]) ∧ g (b + 1) = cI (cy 0) 200 L
theorem vText_fr {cy : Nat → ClassId} {B : Nat} {g g' : Nat → va_E} {b : Nat} {n : Nat} {L : Int → Int} (h : vText cy B g b n L) (hq : ∀ q, b ≤ q → q < b + 2 → g' q = g q) : vText cy B g' b n L := ⟨(hq _ (by omega) (by omega)).trans h.1, (hq _ (by omega) (by omega)).trans h.2⟩
def vCol (cy : Nat → ClassId) (B : Nat) (g : Nat → va_E) (b : Nat) (sets : Nat) (n : Nat) (ver : Int) (T : Int → Int) (X : Int → Int) (V : Int → Int) (Wy : Nat → Int → Int) : Prop := g b = .inr (0, [.ref (B + sets), .ref (B + (b + 1)), .ref (B + (b + 2)), .ref (B + (b + 3)), .ref (B + (b + 4)), .int (zI ((n : Nat) : Int)), .int (zI ver)]) ∧ g (b + 1) = cI (cy 1) 5 T ∧ g (b + 2) = cI (cy 1) 5 X ∧ g (b + 3) = cI (cy 1) 5 V ∧ g (b + 4) = cR (cy 6) B 5 (b + 5) 1 ∧ (∀ k : Nat, k < 5 → g (b + (k + 5)) = cJ (cy 2) 13 (Wy k))
theorem vCol_fr {cy : Nat → ClassId} {B : Nat} {g g' : Nat → va_E} {b : Nat} {sets : Nat} {n : Nat} {ver : Int} {T : Int → Int} {X : Int → Int} {V : Int → Int} {Wy : Nat → Int → Int} (h : vCol cy B g b sets n ver T X V Wy) (hq : ∀ q, b ≤ q → q < b + 10 → g' q = g q) : vCol cy B g' b sets n ver T X V Wy := ⟨(hq _ (by omega) (by omega)).trans h.1, (hq _ (by omega) (by omega)).trans h.2.1, (hq _ (by omega) (by omega)).trans h.2.2.1, (hq _ (by omega) (by omega)).trans h.2.2.2.1, (hq _ (by omega) (by omega)).trans h.2.2.2.2.1, fun k hk => (hq _ (by omega) (by omega)).trans (h.2.2.2.2.2 k hk)⟩
def vNet (cy : Nat → ClassId) (B : Nat) (g : Nat → va_E) (b : Nat) (cb : Nat) (tf : Int → Int) (aa : Int) (ver : Int) (G : Nat → Int → Int) : Prop := g b = .inr (2, [.ref (B + cb), .ref (B + (b + 1)), .ref (B + (b + 10)), .int (zI aa), .int (zI ver)]) ∧ g (b + 1) = cR (cy 6) B 8 (b + 2) 1 ∧ (∀ k : Nat, k < 8 → g (b + (k + 2)) = cJ (cy 2) 366 (G k)) ∧ g (b + 10) = cI (cy 1) 6 tf
theorem vNet_fr {cy : Nat → ClassId} {B : Nat} {g g' : Nat → va_E} {b : Nat} {cb : Nat} {tf : Int → Int} {aa : Int} {ver : Int} {G : Nat → Int → Int} (h : vNet cy B g b cb tf aa ver G) (hq : ∀ q, b ≤ q → q < b + 11 → g' q = g q) : vNet cy B g' b cb tf aa ver G := ⟨(hq _ (by omega) (by omega)).trans h.1, (hq _ (by omega) (by omega)).trans h.2.1, fun k hk => (hq _ (by omega) (by omega)).trans (h.2.2.1 k hk), (hq _ (by omega) (by omega)).trans h.2.2.2⟩
def vPast (cy : Nat → ClassId) (B : Nat) (g : Nat → va_E) (b : Nat) (wh : Int → Int) (Rw : Nat → Int → Int) (nx : Nat) (sz : Nat) : Prop := g b = .inr (3, [.ref (B + (b + 1)), .ref (B + (b + 2)), .int (zI ((nx : Nat) : Int)), .int (zI ((sz : Nat) : Int))]) ∧ g (b + 1) = cI (cy 1) 6 wh ∧ g (b + 2) = cR (cy 5) B 6 (b + 3) 1 ∧ (∀ k : Nat, k < 6 → g (b + (k + 3)) = cI (cy 1) 10 (Rw k))
theorem vPast_fr {cy : Nat → ClassId} {B : Nat} {g g' : Nat → va_E} {b : Nat} {wh : Int → Int} {Rw : Nat → Int → Int} {nx : Nat} {sz : Nat} (h : vPast cy B g b wh Rw nx sz) (hq : ∀ q, b ≤ q → q < b + 9 → g' q = g q) : vPast cy B g' b wh Rw nx sz := ⟨(hq _ (by omega) (by omega)).trans h.1, (hq _ (by omega) (by omega)).trans h.2.1, (hq _ (by omega) (by omega)).trans h.2.2.1, fun k hk => (hq _ (by omega) (by omega)).trans (h.2.2.2 k hk)⟩
def vRare (cy : Nat → ClassId) (B : Nat) (g : Nat → va_E) (b : Nat) (cb : Nat) (nb : Nat) (sw : Int) (rw : Int) (rt : Int) (lc : Int) (ver : Int) : Prop := g b = .inr (4, [.ref (B + cb), .ref (B + nb), .long (zJ sw), .long (zJ rw), .int (zI rt), .int (zI lc), .int (zI ver)])
theorem vRare_fr {cy : Nat → ClassId} {B : Nat} {g g' : Nat → va_E} {b : Nat} {cb : Nat} {nb : Nat} {sw : Int} {rw : Int} {rt : Int} {lc : Int} {ver : Int} (h : vRare cy B g b cb nb sw rw rt lc ver) (hq : ∀ q, b ≤ q → q < b + 1 → g' q = g q) : vRare cy B g' b cb nb sw rw rt lc ver := (hq _ (by omega) (by omega)).trans h
def vSum (cy : Nat → ClassId) (B : Nat) (g : Nat → va_E) (b : Nat) (cb : Nat) (nb : Nat) (W : Int → Int) (Tb : Int → Int) (le : Int) (gr : Int) (ver : Int) : Prop := g b = .inr (8, [.ref (B + cb), .ref (B + nb), .ref (B + (b + 1)), .ref (B + (b + 2)), .int (zI le), .int (zI gr), .int (zI ver)]) ∧ g (b + 1) = cJ (cy 2) 541 W ∧ g (b + 2) = cI (cy 1) 541 Tb
theorem vSum_fr {cy : Nat → ClassId} {B : Nat} {g g' : Nat → va_E} {b : Nat} {cb : Nat} {nb : Nat} {W : Int → Int} {Tb : Int → Int} {le : Int} {gr : Int} {ver : Int} (h : vSum cy B g b cb nb W Tb le gr ver) (hq : ∀ q, b ≤ q → q < b + 3 → g' q = g q) : vSum cy B g' b cb nb W Tb le gr ver := ⟨(hq _ (by omega) (by omega)).trans h.1, (hq _ (by omega) (by omega)).trans h.2.1, (hq _ (by omega) (by omega)).trans h.2.2⟩
def vStr (cy : Nat → ClassId) (B : Nat) (g : Nat → va_E) (b : Nat)  : Prop := g b = .inr (7, [.ref (B + (b + 1)), .ref (B + (b + 11)), .ref (B + (b + 22)), .ref (B + (b + 23))])
theorem vStr_fr {cy : Nat → ClassId} {B : Nat} {g g' : Nat → va_E} {b : Nat}  (h : vStr cy B g b ) (hq : ∀ q, b ≤ q → q < b + 1 → g' q = g q) : vStr cy B g' b  := (hq _ (by omega) (by omega)).trans h
def vJoint (cy : Nat → ClassId) (B : Nat) (g : Nat → va_E) (b : Nat) (W : Int → Int) (Wa : Int → Int) (gr : Int) : Prop := g b = .inr (1, [.ref (B + (b + 1)), .ref (B + (b + 2)), .int (zI gr)]) ∧ g (b + 1) = cJ (cy 2) 1621 W ∧ g (b + 2) = cJ (cy 2) 1621 Wa
theorem vJoint_fr {cy : Nat → ClassId} {B : Nat} {g g' : Nat → va_E} {b : Nat} {W : Int → Int} {Wa : Int → Int} {gr : Int} (h : vJoint cy B g b W Wa gr) (hq : ∀ q, b ≤ q → q < b + 3 → g' q = g q) : vJoint cy B g' b W Wa gr := ⟨(hq _ (by omega) (by omega)).trans h.1, (hq _ (by omega) (by omega)).trans h.2.1, (hq _ (by omega) (by omega)).trans h.2.2⟩
def vReader (cy : Nat → ClassId) (B : Nat) (g : Nat → va_E) (b : Nat) (sr : Nat) (pl : Int) : Prop := g b = .inr (5, [.ref (B + (b + 1)), .int (zI ((sr : Nat) : Int)), .int (zI pl)]) ∧ g (b + 1) = cR (cy 3) B 3 (b + 2) 10
theorem vReader_fr {cy : Nat → ClassId} {B : Nat} {g g' : Nat → va_E} {b : Nat} {sr : Nat} {pl : Int} (h : vReader cy B g b sr pl) (hq : ∀ q, b ≤ q → q < b + 2 → g' q = g q) : vReader cy B g' b sr pl := ⟨(hq _ (by omega) (by omega)).trans h.1, (hq _ (by omega) (by omega)).trans h.2⟩
def vLA (cy : Nat → ClassId) (B : Nat) (g : Nat → va_E) (b : Nat) (n : Nat) (W : Int → Int) : Prop := g b = cJ (cy 2) n W
theorem vLA_fr {cy : Nat → ClassId} {B : Nat} {g g' : Nat → va_E} {b : Nat} {n : Nat} {W : Int → Int} (h : vLA cy B g b n W) (hq : ∀ q, b ≤ q → q < b + 1 → g' q = g q) : vLA cy B g' b n W := (hq _ (by omega) (by omega)).trans h
def vIA (cy : Nat → ClassId) (B : Nat) (g : Nat → va_E) (b : Nat) (n : Nat) (W : Int → Int) : Prop := g b = cI (cy 1) n W
theorem vIA_fr {cy : Nat → ClassId} {B : Nat} {g g' : Nat → va_E} {b : Nat} {n : Nat} {W : Int → Int} (h : vIA cy B g b n W) (hq : ∀ q, b ≤ q → q < b + 1 → g' q = g q) : vIA cy B g' b n W := (hq _ (by omega) (by omega)).trans h
def vDr (cy : Nat → ClassId) (B : Nat) (g : Nat → va_E) (b : Nat) (sets : Nat) (dn : Nat → Nat) (dv : Nat → Int) (dT : Nat → Int → Int) (dX : Nat → Int → Int) (dV : Nat → Int → Int) (dW : Nat → Nat → Int → Int) : Prop := ∀ k : Nat, k < 3 → vCol cy B g (b + 10 * k) sets (dn k) (dv k) (dT k) (dX k) (dV k) (dW k)
theorem vDr_fr {cy : Nat → ClassId} {B : Nat} {g g' : Nat → va_E} {b : Nat} {sets : Nat} {dn : Nat → Nat} {dv : Nat → Int} {dT : Nat → Int → Int} {dX : Nat → Int → Int} {dV : Nat → Int → Int} {dW : Nat → Nat → Int → Int} (h : vDr cy B g b sets dn dv dT dX dV dW) (hq : ∀ q, b ≤ q → q < b + 30 → g' q = g q) : vDr cy B g' b sets dn dv dT dX dV dW := fun k hk => vCol_fr (h k hk) (fun q h1 h2 => hq q (by omega) (by omega))
theorem vDr_set {cy : Nat → ClassId} {B : Nat} {g g' : Nat → va_E} {b : Nat} {sets : Nat} {dn : Nat → Nat} {dv : Nat → Int} {dT : Nat → Int → Int} {dX : Nat → Int → Int} {dV : Nat → Int → Int} {dW : Nat → Nat → Int → Int} (i : Nat) {n1 : Nat} {ver1 : Int} {T1 : Int → Int} {X1 : Int → Int} {V1 : Int → Int} {Wy1 : Nat → Int → Int} (h : vDr cy B g b sets dn dv dT dX dV dW) (hi : i < 3) (h1 : vCol cy B g' (b + 10 * i) sets n1 ver1 T1 X1 V1 Wy1) (hq : ∀ q, (q < b + 10 * i ∨ b + 10 * i + 10 ≤ q) → g' q = g q) : vDr cy B g' b sets (uF dn i n1) (uF dv i ver1) (uF dT i T1) (uF dX i X1) (uF dV i V1) (uF dW i Wy1) := by
  intro k hk
  by_cases hki : k = i
  · subst hki
    simp only [uF_same]
    exact h1
  · simp only [uF_ne hki]
    exact vCol_fr (h k hk) (fun q h2 h3 => hq q (by omega))
theorem fam_put {α : Type} {g g' : Nat → va_E} {P : Nat → α} {F : α → va_E} {b o n i : Nat} {v : α} (h : ∀ k : Nat, k < n → g (b + (k + o)) = F (P k)) (he : g' (b + (i + o)) = F v) (hq : ∀ q, q ≠ b + (i + o) → g' q = g q) : ∀ k : Nat, k < n → g' (b + (k + o)) = F (uF P i v k) := by
  intro k hk
  by_cases hki : k = i
  · subst hki
    rw [uF_same]
    exact he
  · rw [uF_ne hki, hq _ (by omega)]
    exact h k hk
/-- how many sets of k there are of n -/
def ch : Nat → Nat → Nat
  | _, 0 => 1
  | 0, _ + 1 => 0
  | n + 1, k + 1 => ch n k + ch n (k + 1)
def chz (t x : Int) : Int := if 0 ≤ x ∧ x ≤ t then ((ch t.toNat x.toNat : Nat) : Int) else 0
def inA (n : Nat) (T : Int → Int) (j : Int) : Int := if 0 ≤ j ∧ j < n then T j else 0
theorem inA_in {n : Nat} {T : Int → Int} {j : Int} (h : 0 ≤ j ∧ j < n) : inA n T j = T j := if_pos h
theorem inA_out {n : Nat} {T : Int → Int} {j : Int} (h : ¬ (0 ≤ j ∧ j < n)) : inA n T j = 0 := if_neg h
def wyA (n : Nat) (Wy : Nat → Int → Int) (j x : Int) : Int := if 0 ≤ j ∧ j < n ∧ 0 ≤ x ∧ x ≤ 12 then Wy j.toNat x else 0
theorem wyA_in {n : Nat} {Wy : Nat → Int → Int} {j x : Int} (h : 0 ≤ j ∧ j < n ∧ 0 ≤ x ∧ x ≤ 12) : wyA n Wy j x = Wy j.toNat x := if_pos h
theorem wyA_out {n : Nat} {Wy : Nat → Int → Int} {j x : Int} (h : ¬ (0 ≤ j ∧ j < n ∧ 0 ≤ x ∧ x ≤ 12)) : wyA n Wy j x = 0 := if_neg h
def xv (X V : Int → Int) : Int → Int := fun j => X j * V j
def wx (Wy : Nat → Int → Int) (X : Int → Int) : Int → Int := fun j => Wy j.toNat (X j)
