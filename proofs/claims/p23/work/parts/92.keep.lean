/-! ===== both worlds kept: a question, a change of one stratum, an undo ===== -/
def WFS (S : St) : Prop := (1 ≤ S.length ∧ S.length ≤ 3) ∧ ∀ k : Nat, k < S.length → cok (S.getD k []) ∧ 2 ≤ (S.getD k []).length
def WFg (n : Nat) (L : Int → Int) (S : St) (P : List St) : Prop := (n ≤ 200 ∧ ∀ i : Int, 0 ≤ i → i < n → 32 ≤ L i ∧ L i ≤ 126) ∧ WFS S ∧ P.length ≤ 6 ∧ ∀ i : Nat, i < P.length → WFS (P.getD i [])
theorem firstS_ok : WFS firstS := by
  refine ⟨by decide, fun k hk => ?_⟩
  have h2 : k = 0 ∨ k = 1 := by
    have : firstS.length = 2 := rfl
    omega
  rcases h2 with rfl | rfl
  · refine ⟨⟨by decide, fun j h1 h2 => ?_⟩, by decide⟩
    have h3 : ((firstS.getD 0 []).length : Int) = 4 := rfl
    have h4 : j = 0 ∨ j = 1 ∨ j = 2 ∨ j = 3 := by omega
    rcases h4 with rfl | rfl | rfl | rfl <;> decide
  · refine ⟨⟨by decide, fun j h1 h2 => ?_⟩, by decide⟩
    have h3 : ((firstS.getD 1 []).length : Int) = 2 := rfl
    have h4 : j = 0 ∨ j = 1 := by omega
    rcases h4 with rfl | rfl <;> decide
theorem stD {S : St} {k i : Nat} {c : List Co} (hk : k < S.length) : (S.set k c).getD i [] = if i = k then c else S.getD i [] := setD_at hk
theorem WFS_set {S : St} {k : Nat} {c : List Co} (h : WFS S) (hk : k < S.length) (hc : cok c ∧ 2 ≤ c.length) : WFS (S.set k c) := by
  refine ⟨by rw [List.length_set]; exact h.1, fun i hi => ?_⟩
  rw [List.length_set] at hi
  rw [stD hk]
  split
  · exact hc
  · exact h.2 i hi
theorem consD {α : Type} {a d : α} {l : List α} {i : Nat} : (a :: l).getD (i + 1) d = l.getD i d := by
  simp [List.getD_eq_getElem?_getD]
theorem takeD {α : Type} {l : List α} {i n : Nat} {d : α} (h : i < n) : (l.take n).getD i d = l.getD i d := by
  simp [List.getD_eq_getElem?_getD, List.getElem?_take, h]
theorem take6_len {S : St} {P : List St} (h : P.length ≤ 6) : ((S :: P).take 6).length = min (P.length + 1) 6 := by
  rw [List.length_take, List.length_cons, Nat.min_comm]
theorem WFg_push {n : Nat} {L : Int → Int} {S S' : St} {P : List St} (h : WFg n L S P) (hS : WFS S') : WFg n L S' ((S :: P).take 6) := by
  have hl := take6_len (S := S) h.2.2.1
  refine ⟨h.1, hS, by omega, fun i hi => ?_⟩
  rw [takeD (by omega)]
  cases i with
  | zero => exact h.2.1
  | succ i =>
    rw [consD]
    exact h.2.2.2 i (by omega)
theorem put_back {c c' : List Co} {Rn : Int → Int} (hl : c'.length = c.length) (hT : ∀ j : Int, 0 ≤ j → j < c.length → coT c' j = coT c j) (h5 : c.length ≤ 5) (hR : ∀ j : Int, 0 ≤ j → j < 5 → Rn j = inA c.length (coX c) j ∧ Rn (5 + j) = inA c.length (coV c) j) : put c' Rn = c := by
  refine co_ext (by rw [put_len, hl]) (fun i hi => ?_)
  rw [put_len, hl] at hi
  obtain ⟨a1, a2, a3⟩ := put_at (c := c') (r := Rn) (i := ((i : Nat) : Int)) (by omega) (by rw [hl]; omega)
  obtain ⟨b1, b2⟩ := hR ((i : Nat) : Int) (by omega) (by omega)
  rw [a1, a2, a3, b1, b2, inA_in (by omega), inA_in (by omega)]
  exact ⟨hT _ (by omega) (by omega), rfl, rfl⟩
theorem PC_push {wh : Int → Int} {Rw : Nat → Int → Int} {nx k : Nat} {S : St} {P : List St} {c' : List Co} {Rn : Int → Int} (h : PC wh Rw nx S P) (hnx : nx < 6) (hk : k < S.length) (hb : put c' Rn = S.getD k []) : PC (uZ wh ((nx : Nat) : Int) ((k : Nat) : Int)) (uF Rw nx Rn) (if nx + 1 < 6 then nx + 1 else 0) (S.set k c') ((S :: P).take 6) := by
  have hl := take6_len (S := S) h.1
  have h6 := h.1
  refine ⟨by omega, fun i hi => ?_⟩
  have e0 : ((if nx + 1 < 6 then nx + 1 else 0) + 5 - i) % 6 = (nx + 6 - i) % 6 := by split <;> omega
  rw [e0]
  cases i with
  | zero =>
    have e1 : (nx + 6 - 0) % 6 = nx := by omega
    rw [e1, uF_same, uZ_same]
    refine ⟨k, by show k < (S.set k c').length; rw [List.length_set]; exact hk, rfl, ?_⟩
    rw [takeD (by omega)]
    show S = (S.set k c').set k (put ((S.set k c').getD k []) Rn)
    rw [stD hk, if_pos rfl, hb, List.set_set]
    exact (set_self hk rfl).symm
  | succ i =>
    have e1 : (nx + 6 - (i + 1)) % 6 = (nx + 5 - i) % 6 := by
      have : nx + 6 - (i + 1) = nx + 5 - i := by omega
      rw [this]
    have e2 : (nx + 5 - i) % 6 ≠ nx := by omega
    obtain ⟨k1, a1, a2, a3⟩ := h.2 i (by omega)
    have e3 : ((S.set k c') :: (S :: P).take 6).getD (i + 1) [] = (S :: P).getD i [] := by
      rw [consD, takeD (by omega)]
    have e4 : ((S :: P).take 6).getD (i + 1) [] = P.getD i [] := by
      rw [takeD (by omega), consD]
    rw [e1, uF_ne e2, uZ_ne (by omega), e3, e4]
    exact ⟨k1, a1, a2, a3⟩
theorem PC_pop {wh : Int → Int} {Rw : Nat → Int → Int} {nx : Nat} {S T : St} {P : List St} (h : PC wh Rw nx S (T :: P)) (hnx : nx < 6) : (∃ k : Nat, k < S.length ∧ wh ((lrow nx : Nat) : Int) = ((k : Nat) : Int) ∧ T = S.set k (put (S.getD k []) (Rw (lrow nx)))) ∧ PC wh Rw (lrow nx) T P := by
  have hl : (T :: P).length = P.length + 1 := rfl
  have e : (nx + 5) % 6 = lrow nx := by unfold lrow; split <;> omega
  refine ⟨?_, by have := h.1; omega, fun i hi => ?_⟩
  · obtain ⟨k, a1, a2, a3⟩ := h.2 0 (by omega)
    have e0 : (nx + 5 - 0) % 6 = lrow nx := e
    rw [e0] at a2 a3
    exact ⟨k, a1, a2, a3⟩
  · obtain ⟨k, a1, a2, a3⟩ := h.2 (i + 1) (by omega)
    have e0 : (nx + 5 - (i + 1)) % 6 = (lrow nx + 5 - i) % 6 := by
      have h6 := h.1
      rw [← e]
      omega
    rw [e0] at a2 a3
    have e5 : (S :: T :: P).getD (i + 1) [] = (T :: P).getD i [] := consD
    have e6 : (T :: P).getD (i + 1) [] = P.getD i [] := consD
    rw [e5] at a1 a3
    rw [e6] at a3
    exact ⟨k, a1, a2, a3⟩
section CWK
variable {cy : Nat → ClassId} {B : Nat} {g g' : Nat → va_E} {n : Nat} {L : Int → Int} {la : Nat} {Cn : Nat → Int → Int} {sr : Nat} {pl : Int} {dn : Nat → Nat} {dv : Nat → Int} {dT dX dV : Nat → Int → Int} {dW : Nat → Nat → Int → Int} {nx sz : Nat} {wh : Int → Int} {Rw : Nat → Int → Int} {jW jA : Int → Int} {jg : Int} {cs : Nat → List Co} {Ms : Nat → Int} {fs : Nat → Nat} {S : St} {P : List St} {M : Int}
theorem vCW_k (h : vCW cy B g n L la Cn sr pl dn dv dT dX dV dW nx sz wh Rw jW jA jg cs Ms fs) {k : Nat} (hk : k < 3) {c1 : List Co} {M1 : Int} {f1 : Nat} (h1 : vSW cy B g' (63 + 26 * k) c1 M1 f1) (hq : ∀ q, (q < 63 + 26 * k ∨ 63 + 26 * k + 26 ≤ q) → g' q = g q) : vCW cy B g' n L la Cn sr pl dn dv dT dX dV dW nx sz wh Rw jW jA jg (uF cs k c1) (uF Ms k M1) (uF fs k f1) := by
  obtain ⟨ht0, hsa, htx, hr, hd, hst, hp, hj, hss⟩ := h
  exact ⟨vTop_fr ht0 (fun q h1 h2 => hq q (by omega)), vSA_fr hsa (fun q h1 h2 => hq q (by omega)), vText_fr htx (fun q h1 h2 => hq q (by omega)), vReader_fr hr (fun q h1 h2 => hq q (by omega)), vDr_fr hd (fun q h1 h2 => hq q (by omega)), vSets_fr hst (fun q h1 h2 => hq q (by omega)), vPast_fr hp (fun q h1 h2 => hq q (by omega)), vJoint_fr hj (fun q h1 h2 => hq q (by omega)), vSWs_set k hss hk h1 hq⟩
theorem vCW_kp (h : vCW cy B g n L la Cn sr pl dn dv dT dX dV dW nx sz wh Rw jW jA jg cs Ms fs) {k : Nat} (hk : k < 3) {c1 : List Co} {M1 : Int} {f1 : Nat} (h1 : vSW cy B g' (63 + 26 * k) c1 M1 f1) {wh1 : Int → Int} {Rw1 : Nat → Int → Int} {nx1 sz1 : Nat} (h2 : vPast cy B g' 50 wh1 Rw1 nx1 sz1) (hq : ∀ q, ((q < 50 ∨ 59 ≤ q) ∧ (q < (63 + 26 * k) ∨ (63 + 26 * k) + 26 ≤ q)) → g' q = g q) : vCW cy B g' n L la Cn sr pl dn dv dT dX dV dW nx1 sz1 wh1 Rw1 jW jA jg (uF cs k c1) (uF Ms k M1) (uF fs k f1) := by
  obtain ⟨ht0, hsa, htx, hr, hd, hst, hp, hj, hss⟩ := h
  refine ⟨vTop_fr ht0 (fun q h1 h2 => hq q (by omega)), vSA_fr hsa (fun q h1 h2 => hq q (by omega)), vText_fr htx (fun q h1 h2 => hq q (by omega)), vReader_fr hr (fun q h1 h2 => hq q (by omega)), vDr_fr hd (fun q h1 h2 => hq q (by omega)), vSets_fr hst (fun q h1 h2 => hq q (by omega)), h2, vJoint_fr hj (fun q h1 h2 => hq q (by omega)), ?_⟩
  intro i hi
  by_cases hik : i = k
  · subst hik
    simp only [uF_same]
    exact h1
  · simp only [uF_ne hik]
    exact vSW_fr (hss i hi) (fun q h1 h2 => hq q (by omega))
theorem uFM {Ms : Nat → Int} {k : Nat} {M1 M2 : Int} (h : ∀ i, Ms i ≤ M2) (h1 : M1 ≤ M2) : ∀ i, uF Ms k M1 i ≤ M2 := fun i => by
  by_cases hi : i = k
  · subst hi
    rw [uF_same]
    exact h1
  · rw [uF_ne hi]
    exact h i
/-- a question to stratum k -/
theorem CWq (hv : vCW cy B g n L S.length Cn sr pl dn dv dT dX dV dW nx P.length wh Rw jW jA jg cs Ms fs) (hCn : ∀ t x : Nat, t ≤ 12 → x ≤ 12 → setA Cn ((t : Nat) : Int) ((x : Nat) : Int) = ((ch t x : Nat) : Int)) (hnx : nx < 6) (hPC : PC wh Rw nx S P) (hcs : ∀ i : Nat, i < S.length → cs i = S.getD i []) (hMs : ∀ i : Nat, Ms i ≤ M) (hS : S.length ≤ 3) {k : Nat} (hk : k < S.length) {f1 : Nat} (h1 : vSW cy B g' (63 + 26 * k) (S.getD k []) (Ms k) f1) (hq : ∀ q, (q < 63 + 26 * k ∨ 63 + 26 * k + 26 ≤ q) → g' q = g q) : CW cy B g' n L S P (M + 20) ∧ ∀ q, 141 ≤ q → g' q = g q := by
  refine ⟨⟨_, _, _, _, _, _, _, _, _, _, _, _, _, _, _, _, _, _, vCW_k hv (by omega) h1 hq, hCn, hnx, hPC, fun i hi => ?_, uFM (fun i => by have := hMs i; omega) (by have := hMs k; omega)⟩, fun q h => hq q (by omega)⟩
  by_cases hik : i = k
  · subst hik
    rw [uF_same]
  · rw [uF_ne hik]
    exact hcs i hi
/-- a change of stratum k, kept in the past -/
theorem CWs (hv : vCW cy B g n L S.length Cn sr pl dn dv dT dX dV dW nx P.length wh Rw jW jA jg cs Ms fs) (hCn : ∀ t x : Nat, t ≤ 12 → x ≤ 12 → setA Cn ((t : Nat) : Int) ((x : Nat) : Int) = ((ch t x : Nat) : Int)) (hnx : nx < 6) (hPC : PC wh Rw nx S P) (hcs : ∀ i : Nat, i < S.length → cs i = S.getD i []) (hMs : ∀ i : Nat, Ms i ≤ M) (hS : S.length ≤ 3) {k : Nat} (hk : k < S.length) {c' : List Co} {M1 : Int} {f1 : Nat} {Rn : Int → Int} (h1 : vSW cy B g' (63 + 26 * k) c' M1 f1) (hM1 : M1 ≤ Ms k + 10) (h2 : vPast cy B g' 50 (uZ wh ((nx : Nat) : Int) ((k : Nat) : Int)) (uF Rw nx Rn) (if nx + 1 < 6 then nx + 1 else 0) (min (P.length + 1) 6)) (hb : put c' Rn = S.getD k []) (hq : ∀ q, ((q < 50 ∨ 59 ≤ q) ∧ (q < (63 + 26 * k) ∨ (63 + 26 * k) + 26 ≤ q)) → g' q = g q) : CW cy B g' n L (S.set k c') ((S :: P).take 6) (M + 20) ∧ ∀ q, 141 ≤ q → g' q = g q := by
  have h9 := vCW_kp hv (by omega) h1 h2 hq
  have e1 : (S.set k c').length = S.length := List.length_set
  refine ⟨⟨_, _, _, _, _, _, _, _, _, _, _, _, _, _, _, uF cs k c', uF Ms k M1, uF fs k f1, by rw [e1, take6_len hPC.1]; exact h9, hCn, by split <;> omega, PC_push hPC hnx hk hb, fun i hi => ?_, uFM (fun i => by have := hMs i; omega) (by have := hMs k; omega)⟩, fun q h => hq q (by omega)⟩
  rw [e1] at hi
  rw [stD hk]
  by_cases hik : i = k
  · subst hik
    rw [uF_same, if_pos rfl]
  · rw [uF_ne hik, if_neg hik]
    exact hcs i hi
/-- an undo -/
theorem CWu {T : St} (hv : vCW cy B g n L S.length Cn sr pl dn dv dT dX dV dW nx (P.length + 1) wh Rw jW jA jg cs Ms fs) (hCn : ∀ t x : Nat, t ≤ 12 → x ≤ 12 → setA Cn ((t : Nat) : Int) ((x : Nat) : Int) = ((ch t x : Nat) : Int)) (hnx : nx < 6) (hPC : PC wh Rw (lrow nx) T P) (hcs : ∀ i : Nat, i < S.length → cs i = S.getD i []) (hMs : ∀ i : Nat, Ms i ≤ M) (hS : S.length ≤ 3) {k : Nat} (hk : k < S.length) {c' : List Co} {M1 : Int} {f1 : Nat} (h1 : vSW cy B g' (63 + 26 * k) c' M1 f1) (hM1 : M1 ≤ Ms k + 10) (h2 : vPast cy B g' 50 wh Rw (lrow nx) P.length) (hT : T = S.set k c') (hq : ∀ q, ((q < 50 ∨ 59 ≤ q) ∧ (q < (63 + 26 * k) ∨ (63 + 26 * k) + 26 ≤ q)) → g' q = g q) : CW cy B g' n L T P (M + 20) ∧ ∀ q, 141 ≤ q → g' q = g q := by
  have h9 := vCW_kp hv (by omega) h1 h2 hq
  have e1 : T.length = S.length := by rw [hT]; exact List.length_set
  refine ⟨⟨_, _, _, _, _, _, _, _, _, _, _, _, _, _, _, uF cs k c', uF Ms k M1, uF fs k f1, by rw [e1]; exact h9, hCn, lrow_lt hnx, hPC, fun i hi => ?_, uFM (fun i => by have := hMs i; omega) (by have := hMs k; omega)⟩, fun q h => hq q (by omega)⟩
  rw [e1] at hi
  rw [hT, stD hk]
  by_cases hik : i = k
  · subst hik
    rw [uF_same, if_pos rfl]
  · rw [uF_ne hik, if_neg hik]
    exact hcs i hi
theorem CW_id (h : CW cy B g n L S P M) : CW cy B g n L S P (M + 20) ∧ ∀ q, 141 ≤ q → g q = g q := by
  obtain ⟨Cn, sr, pl, dn, dv, dT, dX, dV, dW, nx, wh, Rw, jW, jA, jg, cs, Ms, fs, hv, a1, a2, a3, a4, a5⟩ := h
  exact ⟨⟨Cn, sr, pl, dn, dv, dT, dX, dV, dW, nx, wh, Rw, jW, jA, jg, cs, Ms, fs, hv, a1, a2, a3, a4, fun i => by have := a5 i; omega⟩, fun _ _ => rfl⟩
end CWK
