/-! ===== the class's calls, over one predicate ===== -/
/-- the letters of a text -/
def lt (W : List Int) : Int → Int := fun i => W.getD i.toNat 0
def OW (cy : Nat → ClassId) (B : Nat) (g : Nat → va_E) (b : Nat) (W : List Int) (S : St) (P : List St) (M : Int) : Prop := ∃ L : Int → Int, CW cy B g W.length L S P M ∧ (∀ i : Int, 0 ≤ i → i < W.length → L i = lt W i) ∧ WFg W.length (lt W) S P
theorem CW_fr {cy : Nat → ClassId} {B : Nat} {g g' : Nat → va_E} {n : Nat} {L : Int → Int} {S : St} {P : List St} {M : Int} (h : CW cy B g n L S P M) (hq : ∀ q, q < 141 → g' q = g q) : CW cy B g' n L S P M := by
  obtain ⟨Cn, sr, pl, dn, dv, dT, dX, dV, dW, nx, wh, Rw, jW0, jA0, jg, cs, Ms, fs, ⟨ht0, hsa, htx, hr, hd, hst, hp, hj, hss⟩, hrest⟩ := h
  exact ⟨Cn, sr, pl, dn, dv, dT, dX, dV, dW, nx, wh, Rw, jW0, jA0, jg, cs, Ms, fs, ⟨vTop_fr ht0 (fun q h1 h2 => hq q (by omega)), vSA_fr hsa (fun q h1 h2 => hq q (by omega)), vText_fr htx (fun q h1 h2 => hq q (by omega)), vReader_fr hr (fun q h1 h2 => hq q (by omega)), vDr_fr hd (fun q h1 h2 => hq q (by omega)), vSets_fr hst (fun q h1 h2 => hq q (by omega)), vPast_fr hp (fun q h1 h2 => hq q (by omega)), vJoint_fr hj (fun q h1 h2 => hq q (by omega)), vSWs_fr hss (fun q h1 h2 => hq q (by omega))⟩, hrest⟩
theorem CW_0 {cy : Nat → ClassId} {B : Nat} {g : Nat → va_E} {n : Nat} {L : Int → Int} {S : St} {P : List St} {M : Int} (h : CW cy B g n L S P M) : ∃ fs, g 0 = .inr (10, fs) := by
  obtain ⟨Cn, sr, pl, dn, dv, dT, dX, dV, dW, nx, wh, Rw, jW0, jA0, jg, cs, Ms, fs, ⟨ht0, -⟩, -⟩ := h
  exact ⟨_, ht0⟩
theorem CW_up {cy : Nat → ClassId} {B : Nat} {g : Nat → va_E} {n : Nat} {L : Int → Int} {S : St} {P : List St} {M M' : Int} (h : CW cy B g n L S P M) (hM : M ≤ M') : CW cy B g n L S P M' := by
  obtain ⟨Cn, sr, pl, dn, dv, dT, dX, dV, dW, nx, wh, Rw, jW0, jA0, jg, cs, Ms, fs, hv, a1, a2, a3, a4, a5⟩ := h
  exact ⟨Cn, sr, pl, dn, dv, dT, dX, dV, dW, nx, wh, Rw, jW0, jA0, jg, cs, Ms, fs, hv, a1, a2, a3, a4, fun i => by have := a5 i; omega⟩
theorem OW_fr {cy : Nat → ClassId} {B : Nat} {g g' : Nat → va_E} {b : Nat} {W : List Int} {S : St} {P : List St} {M : Int} (h : OW cy B g b W S P M) (hq : ∀ q, 0 ≤ q → q < 0 + 141 → g' q = g q) : OW cy B g' b W S P M := by
  obtain ⟨L, h1, h2⟩ := h
  exact ⟨L, CW_fr h1 (fun q h => hq q (Nat.zero_le q) (by omega)), h2⟩
theorem OW_0 {cy : Nat → ClassId} {B : Nat} {g : Nat → va_E} {b : Nat} {W : List Int} {S : St} {P : List St} {M : Int} (h : OW cy B g b W S P M) : ∃ fs, g 0 = .inr (10, fs) := by
  obtain ⟨L, h1, h2⟩ := h
  exact CW_0 h1
theorem OW_up {cy : Nat → ClassId} {B : Nat} {g : Nat → va_E} {b : Nat} {W : List Int} {S : St} {P : List St} {M M' : Int} (h : OW cy B g b W S P M) (hM : M ≤ M') : OW cy B g b W S P M' := by
  obtain ⟨L, h1, h2⟩ := h
  exact ⟨L, CW_up h1 hM, h2⟩
/-- what stands of a state -/
def WF (W : List Int) (S : St) (P : List St) : Prop := WFg W.length (lt W) S P
theorem OW_wf {cy : Nat → ClassId} {B : Nat} {g : Nat → va_E} {b : Nat} {W : List Int} {S : St} {P : List St} {M : Int} (h : OW cy B g b W S P M) : WF W S P := by
  obtain ⟨L, h1, h2, h3⟩ := h
  exact h3
theorem lt_eq {W : List Int} {L L' : Int → Int} (h : ∀ i : Int, 0 ≤ i → i < W.length → L i = L' i) (f : Nat) (p : Int) (S : St) : psF W.length L f p S = psF W.length L' f p S := psF_c (inA_of h) f p S
theorem lt_app {W : List Int} {x : Int} {L : Int → Int} (h : ∀ i : Int, 0 ≤ i → i < W.length → L i = lt W i) : ∀ i : Int, 0 ≤ i → i < (W ++ [x]).length → uZ L ((W.length : Nat) : Int) x i = lt (W ++ [x]) i := fun i h1 h2 => by
  rw [List.length_append, List.length_singleton] at h2
  obtain ⟨k, rfl⟩ := Int.eq_ofNat_of_zero_le h1
  unfold uZ lt
  rw [Int.toNat_natCast]
  by_cases hk : k = W.length
  · subst hk
    rw [if_pos rfl]
    simp [List.getD_eq_getElem?_getD]
  · rw [if_neg (by omega), h _ h1 (by omega)]
    unfold lt
    rw [Int.toNat_natCast, List.getD_eq_getElem?_getD, List.getD_eq_getElem?_getD, List.getElem?_append_left (by omega)]
theorem lt_snoc {W : List Int} {x : Int} {P : List St} {S : St} (h : WFg W.length (lt W) S P) (hn : W.length < 200) (hx : 32 ≤ x ∧ x ≤ 126) : WFg (W ++ [x]).length (lt (W ++ [x])) S P := by
  refine ⟨⟨by rw [List.length_append, List.length_singleton]; omega, fun i h1 h2 => ?_⟩, h.2⟩
  rw [← lt_app (fun i _ _ => rfl) i h1 h2]
  rw [List.length_append, List.length_singleton] at h2
  unfold uZ
  split
  · exact hx
  · exact h.1.2 i h1 (by omega)
theorem CWq0 {cy : Nat → ClassId} {B : Nat} {g g' : Nat → va_E} {n : Nat} {L : Int → Int} {Cn : Nat → Int → Int} {sr : Nat} {pl : Int} {dn : Nat → Nat} {dv : Nat → Int} {dT dX dV : Nat → Int → Int} {dW : Nat → Nat → Int → Int} {nx : Nat} {wh : Int → Int} {Rw : Nat → Int → Int} {jW jA : Int → Int} {jg : Int} {cs : Nat → List Co} {Ms : Nat → Int} {fs : Nat → Nat} {S : St} {P : List St} {M : Int} (hv : vCW cy B g n L S.length Cn sr pl dn dv dT dX dV dW nx P.length wh Rw jW jA jg cs Ms fs) (hCn : ∀ t x : Nat, t ≤ 12 → x ≤ 12 → setA Cn ((t : Nat) : Int) ((x : Nat) : Int) = ((ch t x : Nat) : Int)) (hnx : nx < 6) (hPC : PC wh Rw nx S P) (hcs : ∀ i : Nat, i < S.length → cs i = S.getD i []) (hMs : ∀ i : Nat, Ms i ≤ M) (hS : S.length ≤ 3) {k : Nat} (hk : k < S.length) {f1 : Nat} (h1 : vSW cy B g' (63 + 26 * k) (S.getD k []) (Ms k) f1) (hq : ∀ q, (q < 63 + 26 * k ∨ 63 + 26 * k + 26 ≤ q) → g' q = g q) : CW cy B g' n L S P M ∧ ∀ q, 141 ≤ q → g' q = g q := by
  refine ⟨⟨_, _, _, _, _, _, _, _, _, _, _, _, _, _, _, _, _, _, vCW_k hv (by omega) h1 hq, hCn, hnx, hPC, fun i hi => ?_, uFM hMs (hMs k)⟩, fun q h => hq q (by omega)⟩
  by_cases hik : i = k
  · subst hik
    rw [uF_same]
  · rw [uF_ne hik]
    exact hcs i hi
/-! the answers as they are told of a stratum's number -/
def eCol (S : St) (s j what : Int) : Int := if 0 ≤ s ∧ s < S.length then aCol (S.getD s.toNat []) j what else -1
def eStr (S : St) (s what : Int) : Int := if 0 ≤ s ∧ s < S.length then aStr (S.getD s.toNat []) what else -1
def eWay (S : St) (s what : Int) : Int := if 0 ≤ s ∧ s < S.length then aWay (S.getD s.toNat []) what else -1
def eCha (S : St) (s law part : Int) : Int := if 0 ≤ s ∧ s < S.length then aCha (S.getD s.toNat []) law part else -1
def eSta (S : St) (s law : Int) : Int := if 0 ≤ s ∧ s < S.length then aSta (S.getD s.toNat []) law else -1
noncomputable def eNod (S : St) (s j a what : Int) : Int := if 0 ≤ s ∧ s < S.length then aNod (S.getD s.toNat []) j a what else -1
def eLoo (S : St) (s what : Int) : Int := if 0 ≤ s ∧ s < S.length then aLoo (S.getD s.toNat []) what else -1
noncomputable def eTab (S : St) (s t j : Int) : Int := if 0 ≤ s ∧ s < S.length then aTab (S.getD s.toNat []) t j else -1
noncomputable def eRan (S : St) (s : Int) : Int := if 0 ≤ s ∧ s < S.length then aRan (S.getD s.toNat []) else -1
noncomputable def eLik (S : St) (s j : Int) : Int := if 0 ≤ s ∧ s < S.length then aLik (S.getD s.toNat []) j else -1
def eCnt (W : List Int) (S : St) (P : List St) (what : Int) : Int := if what = 0 then ((S.length : Nat) : Int) else if what = 5 then ((P.length : Nat) : Int) else if what = 6 then ((W.length : Nat) : Int) else if what < 0 ∨ 4 < what then -1 else cntS (fun i => S.getD i []) what S.length
noncomputable def eJoi (S : St) (law part : Int) : Int := aJoi (fun i => S.getD i []) S.length law part
def psW (W : List Int) : Int × St := psF W.length (lt W) 200 0 []
def eFau (W : List Int) : Int := if (psW W).1 < 0 then -4 else (psW W).1
theorem e_at {S : St} {k : Nat} {x d : Int} (h : k < S.length) : (if 0 ≤ ((k : Nat) : Int) ∧ ((k : Nat) : Int) < S.length then x else d) = x := if_pos (by omega)
/-- a change: what is answered, the strata behind it -/
def stSet (S : St) (s j what x : Int) : Int × St :=
  if ¬ (0 ≤ s ∧ s < S.length) then (-1, S) else
  if ¬ (0 ≤ j ∧ j < (S.getD s.toNat []).length) ∨ ¬ (0 ≤ what ∧ what ≤ 1) ∨ x < 0 ∨ (what = 0 ∧ coT (S.getD s.toNat []) j < x) ∨ (what = 1 ∧ 9 < x) then (-1, S) else
  if what = 0 then (if coX (S.getD s.toNat []) j = x then (-2, S) else (coX (S.getD s.toNat []) j, S.set s.toNat (upX (S.getD s.toNat []) j x)))
  else (if coV (S.getD s.toNat []) j = x then (-2, S) else (coV (S.getD s.toNat []) j, S.set s.toNat (upV (S.getD s.toNat []) j x)))
def stMove (S : St) (s a b : Int) : Int × St :=
  if ¬ (0 ≤ s ∧ s < S.length) then (-1, S) else
  if a = b ∨ ¬ (0 ≤ a ∧ a < (S.getD s.toNat []).length) ∨ ¬ (0 ≤ b ∧ b < (S.getD s.toNat []).length) then (-1, S) else
  if coX (S.getD s.toNat []) a = 0 ∨ coX (S.getD s.toNat []) b = coT (S.getD s.toNat []) b then (-2, S) else
  (coX (S.getD s.toNat []) b + 1, S.set s.toNat (upX (upX (S.getD s.toNat []) a (coX (S.getD s.toNat []) a - 1)) b (coX (S.getD s.toNat []) b + 1)))
def stTurn (S : St) (s : Int) : Int × St :=
  if ¬ (0 ≤ s ∧ s < S.length) then (-1, S) else
  (((coR (trn (S.getD s.toNat []) (S.getD s.toNat []).length) : Nat) : Int), S.set s.toNat (trn (S.getD s.toNat []) (S.getD s.toNat []).length))
def past (E : Int) (S : St) (P : List St) : List St := if E < 0 then P else (S :: P).take 6
def eUnd : List St → Int
  | [] => -2
  | _ :: P => ((P.length : Nat) : Int)
theorem past_no {E : Int} {S : St} {P : List St} (h : E < 0) : past E S P = P := if_pos h
theorem past_ok {E : Int} {S : St} {P : List St} (h : 0 ≤ E) : past E S P = (S :: P).take 6 := if_neg (by omega)
theorem cok_setX {c : List Co} {j x : Int} (hc : cok c) (hj : 0 ≤ j ∧ j < c.length) (hx : 0 ≤ x ∧ x ≤ coT c j) : cok (upX c j x) := ⟨by rw [upX_len]; exact hc.1, fun i h1 h2 => by
  rw [upX_len] at h2
  obtain ⟨e1, e2, e3⟩ := upX_at (x := x) hj i h1
  have h := hc.2 i h1 h2
  rw [e1, e2, e3]
  refine ⟨h.1, ?_, h.2.2⟩
  split
  · next h9 =>
    subst h9
    exact hx
  · exact h.2.1⟩
theorem cok_setV {c : List Co} {j x : Int} (hc : cok c) (hj : 0 ≤ j ∧ j < c.length) (hx : 0 ≤ x ∧ x ≤ 9) : cok (upV c j x) := ⟨by rw [upV_len]; exact hc.1, fun i h1 h2 => by
  rw [upV_len] at h2
  obtain ⟨e1, e2, e3⟩ := upV_at (x := x) hj i h1
  have h := hc.2 i h1 h2
  rw [e1, e2, e3]
  refine ⟨h.1, h.2.1, ?_⟩
  split
  · next h9 =>
    subst h9
    exact hx
  · exact h.2.2⟩
theorem cok_mv {c : List Co} {a b : Int} (hc : cok c) (ha : 0 ≤ a ∧ a < c.length) (hb : 0 ≤ b ∧ b < c.length) (hab : ¬ a = b) (hz : ¬ coX c a = 0 ∧ ¬ coX c b = coT c b) : cok (upX (upX c a (coX c a - 1)) b (coX c b + 1)) := by
  have h1 := hc.2 a ha.1 ha.2
  have h2 := hc.2 b hb.1 hb.2
  refine cok_setX (cok_setX hc ha (by omega)) (by rw [upX_len]; exact hb) ?_
  rw [(upX_at ha b hb.1).1]
  omega
theorem cntS_c {cs cs' : Nat → List Co} {what : Int} : ∀ {m : Nat}, (∀ i, i < m → cs i = cs' i) → cntS cs what m = cntS cs' what m
  | 0, _ => rfl
  | m + 1, h => by rw [cntS, cntS, cntS_c (m := m) (fun i hi => h i (by omega)), h m (by omega)]
theorem jA_c {cs cs' : Nat → List Co} : ∀ {m : Nat}, (∀ i, i < m → cs i = cs' i) → jA cs m = jA cs' m
  | 0, _ => rfl
  | m + 1, h => by rw [jA, jA, jA_c (m := m) (fun i hi => h i (by omega)), h m (by omega)]
theorem jS_c {cs cs' : Nat → List Co} : ∀ {m : Nat}, (∀ i, i < m → cs i = cs' i) → jS cs m = jS cs' m
  | 0, _ => rfl
  | m + 1, h => by rw [jS, jS, jS_c (m := m) (fun i hi => h i (by omega)), h m (by omega)]
theorem jW_c {cs cs' : Nat → List Co} : ∀ {m : Nat}, (∀ i, i < m → cs i = cs' i) → jW cs m = jW cs' m
  | 0, _ => funext fun y => by rw [jW, jW]
  | m + 1, h => funext fun y => by rw [jW, jW, jW_c (m := m) (fun i hi => h i (by omega)), h m (by omega)]
theorem aJoi_c {cs cs' : Nat → List Co} {m : Nat} {law part : Int} (h : ∀ i, i < m → cs i = cs' i) : aJoi cs m law part = aJoi cs' m law part := by
  unfold aJoi
  rw [jA_c h, jS_c h, jW_c h]
theorem WFS_ps {n : Nat} {L : Int → Int} (h : lyd (psF n L 200 0 []).2) : WFS (psF n L 200 0 []).2 := by
  have h1 := psF_S (n := n) (L := L) (f := 200) (p := 0) (S := []) (by omega) (by decide)
  refine ⟨⟨h.2, h1.1⟩, fun k hk => ⟨psF_cok (n := n) (L := L) (f := 200) (p := 0) (S := []) (fun x hx => absurd hx (List.not_mem_nil)) _ ?_, h.1 k hk⟩⟩
  rw [List.getD_eq_getElem?_getD, List.getElem?_eq_getElem hk]
  exact List.getElem_mem hk
theorem hL_C {n : Nat} {L : Int → Int} {S : St} {P : List St} (h : WFg n L S P) : ∀ i : Int, 0 ≤ i → i < n → 0 ≤ L i ∧ L i < 65536 := fun i h1 h2 => by
  have := h.1.2 i h1 h2
  omega
theorem hL_O {n : Nat} {L L' : Int → Int} {S : St} {P : List St} (h : WFg n L S P) (hL : ∀ i : Int, 0 ≤ i → i < n → L' i = L i) : ∀ i : Int, 0 ≤ i → i < n → 0 ≤ L' i ∧ L' i < 65536 := fun i h1 h2 => by
  rw [hL i h1 h2]
  exact hL_C h i h1 h2
theorem WFg_pop {n : Nat} {L : Int → Int} {S T : St} {P : List St} (h : WFg n L S (T :: P)) : WFg n L T P := by
  have hl : (T :: P).length = P.length + 1 := rfl
  have h6 := h.2.2.1
  refine ⟨h.1, h.2.2.2 0 (by omega), by omega, fun i hi => ?_⟩
  have h9 := h.2.2.2 (i + 1) (by omega)
  rw [consD] at h9
  exact h9
set_option maxHeartbeats 4000000 in
theorem a_column {l : Launch} {D : va_G} {cy : Nat → ClassId} {B N : Nat} {g : Nat → va_E} {W : List Int} {S : St} {P : List St} {M : Int} {s j what : Int} (ho : OW cy B g 0 W S P M) (hN : 141 ≤ N) (hM : M < 2147480000) (h_s : -2147483648 ≤ s ∧ s < 2147483648) (h_j : -2147483648 ≤ j ∧ j < 2147483648) (h_what : -2147483648 ≤ what ∧ what < 2147483648) : CTi l yX10_column wsX10_column (rmo 1 21) D cy B N g [.ref (B + 0), .int (zI s), .int (zI j), .int (zI what)] (eCol S s j what) (fun g' => OW cy B g' 0 W S P M ∧ (∀ q, 141 ≤ q → g' q = g q)) := by
  obtain ⟨L, hcw, hL, hwf⟩ := id ho
  obtain ⟨Cn, sr, pl, dn, dv, dT, dX, dV, dW, nx, wh, Rw, jW0, jA0, jg, cs, Ms, fs, hv, hCn, hnx, hPC, hcs, hMs⟩ := id hcw
  obtain ⟨ht0, hsa, htx, hr, hd, hst, hp, hj, hss⟩ := id hv
  by_cases hs : 0 ≤ s ∧ s < S.length
  · obtain ⟨k, rfl⟩ : ∃ k : Nat, s = ((k : Nat) : Int) := ⟨s.toNat, by omega⟩
    have hkS : k < S.length := by omega
    have hck := hwf.2.1.2 k hkS
    have hE : eCol S ((k : Nat) : Int) j what = aCol (S.getD k []) j what := e_at hkS
    have hw := hss k (by have := hwf.2.1.1.2; omega)
    rw [hcs k hkS] at hw
    exact CTi_mono (y_X10_column ht0 hsa hw (by omega) ⟨hkS, hwf.2.1.1.2⟩ (by have := hMs k; omega) hck.1 hck.2 h_j h_what) (hE.symm) (fun g' hp => by subst hp; exact ⟨ho, fun _ _ => rfl⟩)
  · exact CTi_mono (n_X10_column ht0 hsa (by omega) hwf.2.1.1.2 h_s hs h_j h_what) (by unfold eCol; rw [if_neg hs]) (fun g' hp => by subst hp; exact ⟨ho, fun _ _ => rfl⟩)
set_option maxHeartbeats 4000000 in
theorem a_stratum {l : Launch} {D : va_G} {cy : Nat → ClassId} {B N : Nat} {g : Nat → va_E} {W : List Int} {S : St} {P : List St} {M : Int} {s what : Int} (ho : OW cy B g 0 W S P M) (hN : 141 ≤ N) (hM : M < 2147480000) (h_s : -2147483648 ≤ s ∧ s < 2147483648) (h_what : -2147483648 ≤ what ∧ what < 2147483648) : CTi l yX10_stratum wsX10_stratum (rmo 6 161) D cy B N g [.ref (B + 0), .int (zI s), .int (zI what)] (eStr S s what) (fun g' => OW cy B g' 0 W S P M ∧ (∀ q, 141 ≤ q → g' q = g q)) := by
  obtain ⟨L, hcw, hL, hwf⟩ := id ho
  obtain ⟨Cn, sr, pl, dn, dv, dT, dX, dV, dW, nx, wh, Rw, jW0, jA0, jg, cs, Ms, fs, hv, hCn, hnx, hPC, hcs, hMs⟩ := id hcw
  obtain ⟨ht0, hsa, htx, hr, hd, hst, hp, hj, hss⟩ := id hv
  by_cases hs : 0 ≤ s ∧ s < S.length
  · obtain ⟨k, rfl⟩ : ∃ k : Nat, s = ((k : Nat) : Int) := ⟨s.toNat, by omega⟩
    have hkS : k < S.length := by omega
    have hck := hwf.2.1.2 k hkS
    have hE : eStr S ((k : Nat) : Int) what = aStr (S.getD k []) what := e_at hkS
    have hw := hss k (by have := hwf.2.1.1.2; omega)
    rw [hcs k hkS] at hw
    refine CTi_mono (y_X10_stratum ht0 hsa hw (by omega) ⟨hkS, hwf.2.1.1.2⟩ (by have := hMs k; omega) hck.1 hck.2 h_what) (hE.symm) (fun g' hp => ?_)
    obtain ⟨z1, z2⟩ := CWq0 hv hCn hnx hPC hcs hMs hwf.2.1.1.2 hkS hp.1 hp.2
    exact ⟨⟨L, z1, hL, hwf⟩, z2⟩
  · exact CTi_mono (n_X10_stratum ht0 hsa (by omega) hwf.2.1.1.2 h_s hs h_what) (by unfold eStr; rw [if_neg hs]) (fun g' hp => by subst hp; exact ⟨ho, fun _ _ => rfl⟩)
set_option maxHeartbeats 4000000 in
theorem a_ways {l : Launch} {D : va_G} {cy : Nat → ClassId} {B N : Nat} {g : Nat → va_E} {W : List Int} {S : St} {P : List St} {M : Int} {s what : Int} (ho : OW cy B g 0 W S P M) (hN : 141 ≤ N) (hM : M < 2147480000) (h_s : -2147483648 ≤ s ∧ s < 2147483648) (h_what : -2147483648 ≤ what ∧ what < 2147483648) : CTl l yX10_ways wsX10_ways (rmo 6 161) D cy B N g [.ref (B + 0), .int (zI s), .int (zI what)] (eWay S s what) (fun g' => OW cy B g' 0 W S P M ∧ (∀ q, 141 ≤ q → g' q = g q)) := by
  obtain ⟨L, hcw, hL, hwf⟩ := id ho
  obtain ⟨Cn, sr, pl, dn, dv, dT, dX, dV, dW, nx, wh, Rw, jW0, jA0, jg, cs, Ms, fs, hv, hCn, hnx, hPC, hcs, hMs⟩ := id hcw
  obtain ⟨ht0, hsa, htx, hr, hd, hst, hp, hj, hss⟩ := id hv
  by_cases hs : 0 ≤ s ∧ s < S.length
  · obtain ⟨k, rfl⟩ : ∃ k : Nat, s = ((k : Nat) : Int) := ⟨s.toNat, by omega⟩
    have hkS : k < S.length := by omega
    have hck := hwf.2.1.2 k hkS
    have hE : eWay S ((k : Nat) : Int) what = aWay (S.getD k []) what := e_at hkS
    have hw := hss k (by have := hwf.2.1.1.2; omega)
    rw [hcs k hkS] at hw
    refine CTl_mono (y_X10_ways ht0 hsa hw (by omega) ⟨hkS, hwf.2.1.1.2⟩ (by have := hMs k; omega) hck.1 hck.2 h_what) (hE.symm) (fun g' hp => ?_)
    obtain ⟨z1, z2⟩ := CWq0 hv hCn hnx hPC hcs hMs hwf.2.1.1.2 hkS hp.1 hp.2
    exact ⟨⟨L, z1, hL, hwf⟩, z2⟩
  · exact CTl_mono (n_X10_ways ht0 hsa (by omega) hwf.2.1.1.2 h_s hs h_what) (by unfold eWay; rw [if_neg hs]) (fun g' hp => by subst hp; exact ⟨ho, fun _ _ => rfl⟩)
set_option maxHeartbeats 4000000 in
theorem a_chance {l : Launch} {D : va_G} {cy : Nat → ClassId} {B N : Nat} {g : Nat → va_E} {W : List Int} {S : St} {P : List St} {M : Int} {s law part : Int} (ho : OW cy B g 0 W S P M) (hN : 141 ≤ N) (hM : M < 2147480000) (h_s : -2147483648 ≤ s ∧ s < 2147483648) (h_law : -2147483648 ≤ law ∧ law < 2147483648) (h_part : -2147483648 ≤ part ∧ part < 2147483648) : CTl l yX10_chance wsX10_chance (rmo 14 363) D cy B N g [.ref (B + 0), .int (zI s), .int (zI law), .int (zI part)] (eCha S s law part) (fun g' => OW cy B g' 0 W S P M ∧ (∀ q, 141 ≤ q → g' q = g q)) := by
  obtain ⟨L, hcw, hL, hwf⟩ := id ho
  obtain ⟨Cn, sr, pl, dn, dv, dT, dX, dV, dW, nx, wh, Rw, jW0, jA0, jg, cs, Ms, fs, hv, hCn, hnx, hPC, hcs, hMs⟩ := id hcw
  obtain ⟨ht0, hsa, htx, hr, hd, hst, hp, hj, hss⟩ := id hv
  by_cases hs : 0 ≤ s ∧ s < S.length
  · obtain ⟨k, rfl⟩ : ∃ k : Nat, s = ((k : Nat) : Int) := ⟨s.toNat, by omega⟩
    have hkS : k < S.length := by omega
    have hck := hwf.2.1.2 k hkS
    have hE : eCha S ((k : Nat) : Int) law part = aCha (S.getD k []) law part := e_at hkS
    have hw := hss k (by have := hwf.2.1.1.2; omega)
    rw [hcs k hkS] at hw
    refine CTl_mono (y_X10_chance ht0 hsa hw (by omega) ⟨hkS, hwf.2.1.1.2⟩ (by have := hMs k; omega) hck.1 hck.2 h_law h_part) (hE.symm) (fun g' hp => ?_)
    obtain ⟨z1, z2⟩ := CWq0 hv hCn hnx hPC hcs hMs hwf.2.1.1.2 hkS hp.1 hp.2
    exact ⟨⟨L, z1, hL, hwf⟩, z2⟩
  · exact CTl_mono (n_X10_chance ht0 hsa (by omega) hwf.2.1.1.2 h_s hs h_law h_part) (by unfold eCha; rw [if_neg hs]) (fun g' hp => by subst hp; exact ⟨ho, fun _ _ => rfl⟩)
set_option maxHeartbeats 4000000 in
theorem a_strange {l : Launch} {D : va_G} {cy : Nat → ClassId} {B N : Nat} {g : Nat → va_E} {W : List Int} {S : St} {P : List St} {M : Int} {s law : Int} (ho : OW cy B g 0 W S P M) (hN : 141 ≤ N) (hM : M < 2147480000) (h_s : -2147483648 ≤ s ∧ s < 2147483648) (h_law : -2147483648 ≤ law ∧ law < 2147483648) : CTi l yX10_strange wsX10_strange (rmo 14 363) D cy B N g [.ref (B + 0), .int (zI s), .int (zI law)] (eSta S s law) (fun g' => OW cy B g' 0 W S P M ∧ (∀ q, 141 ≤ q → g' q = g q)) := by
  obtain ⟨L, hcw, hL, hwf⟩ := id ho
  obtain ⟨Cn, sr, pl, dn, dv, dT, dX, dV, dW, nx, wh, Rw, jW0, jA0, jg, cs, Ms, fs, hv, hCn, hnx, hPC, hcs, hMs⟩ := id hcw
  obtain ⟨ht0, hsa, htx, hr, hd, hst, hp, hj, hss⟩ := id hv
  by_cases hs : 0 ≤ s ∧ s < S.length
  · obtain ⟨k, rfl⟩ : ∃ k : Nat, s = ((k : Nat) : Int) := ⟨s.toNat, by omega⟩
    have hkS : k < S.length := by omega
    have hck := hwf.2.1.2 k hkS
    have hE : eSta S ((k : Nat) : Int) law = aSta (S.getD k []) law := e_at hkS
    have hw := hss k (by have := hwf.2.1.1.2; omega)
    rw [hcs k hkS] at hw
    refine CTi_mono (y_X10_strange ht0 hsa hw (by omega) ⟨hkS, hwf.2.1.1.2⟩ (by have := hMs k; omega) hck.1 hck.2 h_law) (hE.symm) (fun g' hp => ?_)
    obtain ⟨z1, z2⟩ := CWq0 hv hCn hnx hPC hcs hMs hwf.2.1.1.2 hkS hp.1 hp.2
    exact ⟨⟨L, z1, hL, hwf⟩, z2⟩
  · exact CTi_mono (n_X10_strange ht0 hsa (by omega) hwf.2.1.1.2 h_s hs h_law) (by unfold eSta; rw [if_neg hs]) (fun g' hp => by subst hp; exact ⟨ho, fun _ _ => rfl⟩)
set_option maxHeartbeats 4000000 in
theorem a_rank {l : Launch} {D : va_G} {cy : Nat → ClassId} {B N : Nat} {g : Nat → va_E} {W : List Int} {S : St} {P : List St} {M : Int} {s : Int} (ho : OW cy B g 0 W S P M) (hN : 141 ≤ N) (hM : M < 2147480000) (h_s : -2147483648 ≤ s ∧ s < 2147483648) : CTi l yX10_rank wsX10_rank (rmo 6 161) D cy B N g [.ref (B + 0), .int (zI s)] (eRan S s) (fun g' => OW cy B g' 0 W S P M ∧ (∀ q, 141 ≤ q → g' q = g q)) := by
  obtain ⟨L, hcw, hL, hwf⟩ := id ho
  obtain ⟨Cn, sr, pl, dn, dv, dT, dX, dV, dW, nx, wh, Rw, jW0, jA0, jg, cs, Ms, fs, hv, hCn, hnx, hPC, hcs, hMs⟩ := id hcw
  obtain ⟨ht0, hsa, htx, hr, hd, hst, hp, hj, hss⟩ := id hv
  by_cases hs : 0 ≤ s ∧ s < S.length
  · obtain ⟨k, rfl⟩ : ∃ k : Nat, s = ((k : Nat) : Int) := ⟨s.toNat, by omega⟩
    have hkS : k < S.length := by omega
    have hck := hwf.2.1.2 k hkS
    have hE : eRan S ((k : Nat) : Int)  = aRan (S.getD k [])  := e_at hkS
    have hw := hss k (by have := hwf.2.1.1.2; omega)
    rw [hcs k hkS] at hw
    refine CTi_mono (y_X10_rank ht0 hsa hw (by omega) ⟨hkS, hwf.2.1.1.2⟩ (by have := hMs k; omega) hck.1 hck.2) (hE.symm) (fun g' hp => ?_)
    obtain ⟨z1, z2⟩ := CWq0 hv hCn hnx hPC hcs hMs hwf.2.1.1.2 hkS hp.1 hp.2
    exact ⟨⟨L, z1, hL, hwf⟩, z2⟩
  · exact CTi_mono (n_X10_rank ht0 hsa (by omega) hwf.2.1.1.2 h_s hs) (by unfold eRan; rw [if_neg hs]) (fun g' hp => by subst hp; exact ⟨ho, fun _ _ => rfl⟩)
set_option maxHeartbeats 4000000 in
theorem a_looks {l : Launch} {D : va_G} {cy : Nat → ClassId} {B N : Nat} {g : Nat → va_E} {W : List Int} {S : St} {P : List St} {M : Int} {s what : Int} (ho : OW cy B g 0 W S P M) (hN : 141 ≤ N) (hM : M < 2147480000) (h_s : -2147483648 ≤ s ∧ s < 2147483648) (h_what : -2147483648 ≤ what ∧ what < 2147483648) : CTi l yX10_looks wsX10_looks (rmo 13 328) D cy B N g [.ref (B + 0), .int (zI s), .int (zI what)] (eLoo S s what) (fun g' => OW cy B g' 0 W S P M ∧ (∀ q, 141 ≤ q → g' q = g q)) := by
  obtain ⟨L, hcw, hL, hwf⟩ := id ho
  obtain ⟨Cn, sr, pl, dn, dv, dT, dX, dV, dW, nx, wh, Rw, jW0, jA0, jg, cs, Ms, fs, hv, hCn, hnx, hPC, hcs, hMs⟩ := id hcw
  obtain ⟨ht0, hsa, htx, hr, hd, hst, hp, hj, hss⟩ := id hv
  by_cases hs : 0 ≤ s ∧ s < S.length
  · obtain ⟨k, rfl⟩ : ∃ k : Nat, s = ((k : Nat) : Int) := ⟨s.toNat, by omega⟩
    have hkS : k < S.length := by omega
    have hck := hwf.2.1.2 k hkS
    have hE : eLoo S ((k : Nat) : Int) what = aLoo (S.getD k []) what := e_at hkS
    have hw := hss k (by have := hwf.2.1.1.2; omega)
    rw [hcs k hkS] at hw
    refine CTi_mono (y_X10_looks ht0 hsa hw (by omega) ⟨hkS, hwf.2.1.1.2⟩ (by have := hMs k; omega) hck.1 hck.2 h_what) (hE.symm) (fun g' hp => ?_)
    obtain ⟨z1, z2⟩ := CWq0 hv hCn hnx hPC hcs hMs hwf.2.1.1.2 hkS hp.1 hp.2
    exact ⟨⟨L, z1, hL, hwf⟩, z2⟩
  · exact CTi_mono (n_X10_looks ht0 hsa (by omega) hwf.2.1.1.2 h_s hs h_what) (by unfold eLoo; rw [if_neg hs]) (fun g' hp => by subst hp; exact ⟨ho, fun _ _ => rfl⟩)
set_option maxHeartbeats 4000000 in
theorem a_node {l : Launch} {D : va_G} {cy : Nat → ClassId} {B N : Nat} {g : Nat → va_E} {W : List Int} {S : St} {P : List St} {M : Int} {s j a what : Int} (ho : OW cy B g 0 W S P M) (hN : 141 ≤ N) (hM : M < 2147480000) (h_s : -2147483648 ≤ s ∧ s < 2147483648) (h_j : -2147483648 ≤ j ∧ j < 2147483648) (h_a : -2147483648 ≤ a ∧ a < 2147483648) (h_what : -2147483648 ≤ what ∧ what < 2147483648) : CTl l yX10_node wsX10_node (rmo 6 161) D cy B N g [.ref (B + 0), .int (zI s), .int (zI j), .int (zI a), .int (zI what)] (eNod S s j a what) (fun g' => OW cy B g' 0 W S P M ∧ (∀ q, 141 ≤ q → g' q = g q)) := by
  obtain ⟨L, hcw, hL, hwf⟩ := id ho
  obtain ⟨Cn, sr, pl, dn, dv, dT, dX, dV, dW, nx, wh, Rw, jW0, jA0, jg, cs, Ms, fs, hv, hCn, hnx, hPC, hcs, hMs⟩ := id hcw
  obtain ⟨ht0, hsa, htx, hr, hd, hst, hp, hj, hss⟩ := id hv
  by_cases hs : 0 ≤ s ∧ s < S.length
  · obtain ⟨k, rfl⟩ : ∃ k : Nat, s = ((k : Nat) : Int) := ⟨s.toNat, by omega⟩
    have hkS : k < S.length := by omega
    have hck := hwf.2.1.2 k hkS
    have hE : eNod S ((k : Nat) : Int) j a what = aNod (S.getD k []) j a what := e_at hkS
    have hw := hss k (by have := hwf.2.1.1.2; omega)
    rw [hcs k hkS] at hw
    refine CTl_mono (y_X10_node ht0 hsa hw (by omega) ⟨hkS, hwf.2.1.1.2⟩ (by have := hMs k; omega) hck.1 hck.2 h_j h_a h_what) (hE.symm) (fun g' hp => ?_)
    obtain ⟨z1, z2⟩ := CWq0 hv hCn hnx hPC hcs hMs hwf.2.1.1.2 hkS hp.1 hp.2
    exact ⟨⟨L, z1, hL, hwf⟩, z2⟩
  · exact CTl_mono (n_X10_node ht0 hsa (by omega) hwf.2.1.1.2 h_s hs h_j h_a h_what) (by unfold eNod; rw [if_neg hs]) (fun g' hp => by subst hp; exact ⟨ho, fun _ _ => rfl⟩)
set_option maxHeartbeats 4000000 in
theorem a_table {l : Launch} {D : va_G} {cy : Nat → ClassId} {B N : Nat} {g : Nat → va_E} {W : List Int} {S : St} {P : List St} {M : Int} {s t j : Int} (ho : OW cy B g 0 W S P M) (hN : 141 ≤ N) (hM : M < 2147480000) (h_s : -2147483648 ≤ s ∧ s < 2147483648) (h_t : -2147483648 ≤ t ∧ t < 2147483648) (h_j : -2147483648 ≤ j ∧ j < 2147483648) : CTi l yX10_table wsX10_table (rmo 6 161) D cy B N g [.ref (B + 0), .int (zI s), .int (zI t), .int (zI j)] (eTab S s t j) (fun g' => OW cy B g' 0 W S P M ∧ (∀ q, 141 ≤ q → g' q = g q)) := by
  obtain ⟨L, hcw, hL, hwf⟩ := id ho
  obtain ⟨Cn, sr, pl, dn, dv, dT, dX, dV, dW, nx, wh, Rw, jW0, jA0, jg, cs, Ms, fs, hv, hCn, hnx, hPC, hcs, hMs⟩ := id hcw
  obtain ⟨ht0, hsa, htx, hr, hd, hst, hp, hj, hss⟩ := id hv
  by_cases hs : 0 ≤ s ∧ s < S.length
  · obtain ⟨k, rfl⟩ : ∃ k : Nat, s = ((k : Nat) : Int) := ⟨s.toNat, by omega⟩
    have hkS : k < S.length := by omega
    have hck := hwf.2.1.2 k hkS
    have hE : eTab S ((k : Nat) : Int) t j = aTab (S.getD k []) t j := e_at hkS
    have hw := hss k (by have := hwf.2.1.1.2; omega)
    rw [hcs k hkS] at hw
    refine CTi_mono (y_X10_table ht0 hsa hw (by omega) ⟨hkS, hwf.2.1.1.2⟩ (by have := hMs k; omega) hck.1 hck.2 h_t h_j) (hE.symm) (fun g' hp => ?_)
    obtain ⟨z1, z2⟩ := CWq0 hv hCn hnx hPC hcs hMs hwf.2.1.1.2 hkS hp.1 hp.2
    exact ⟨⟨L, z1, hL, hwf⟩, z2⟩
  · exact CTi_mono (n_X10_table ht0 hsa (by omega) hwf.2.1.1.2 h_s hs h_t h_j) (by unfold eTab; rw [if_neg hs]) (fun g' hp => by subst hp; exact ⟨ho, fun _ _ => rfl⟩)
set_option maxHeartbeats 4000000 in
theorem a_likeliest {l : Launch} {D : va_G} {cy : Nat → ClassId} {B N : Nat} {g : Nat → va_E} {W : List Int} {S : St} {P : List St} {M : Int} {s j : Int} (ho : OW cy B g 0 W S P M) (hN : 141 ≤ N) (hM : M < 2147480000) (h_s : -2147483648 ≤ s ∧ s < 2147483648) (h_j : -2147483648 ≤ j ∧ j < 2147483648) : CTi l yX10_likeliest wsX10_likeliest (rmo 6 161) D cy B N g [.ref (B + 0), .int (zI s), .int (zI j)] (eLik S s j) (fun g' => OW cy B g' 0 W S P M ∧ (∀ q, 141 ≤ q → g' q = g q)) := by
  obtain ⟨L, hcw, hL, hwf⟩ := id ho
  obtain ⟨Cn, sr, pl, dn, dv, dT, dX, dV, dW, nx, wh, Rw, jW0, jA0, jg, cs, Ms, fs, hv, hCn, hnx, hPC, hcs, hMs⟩ := id hcw
  obtain ⟨ht0, hsa, htx, hr, hd, hst, hp, hj, hss⟩ := id hv
  by_cases hs : 0 ≤ s ∧ s < S.length
  · obtain ⟨k, rfl⟩ : ∃ k : Nat, s = ((k : Nat) : Int) := ⟨s.toNat, by omega⟩
    have hkS : k < S.length := by omega
    have hck := hwf.2.1.2 k hkS
    have hE : eLik S ((k : Nat) : Int) j = aLik (S.getD k []) j := e_at hkS
    have hw := hss k (by have := hwf.2.1.1.2; omega)
    rw [hcs k hkS] at hw
    refine CTi_mono (y_X10_likeliest ht0 hsa hw (by omega) ⟨hkS, hwf.2.1.1.2⟩ (by have := hMs k; omega) hck.1 hck.2 h_j) (hE.symm) (fun g' hp => ?_)
    obtain ⟨z1, z2⟩ := CWq0 hv hCn hnx hPC hcs hMs hwf.2.1.1.2 hkS hp.1 hp.2
    exact ⟨⟨L, z1, hL, hwf⟩, z2⟩
  · exact CTi_mono (n_X10_likeliest ht0 hsa (by omega) hwf.2.1.1.2 h_s hs h_j) (by unfold eLik; rw [if_neg hs]) (fun g' hp => by subst hp; exact ⟨ho, fun _ _ => rfl⟩)
set_option maxHeartbeats 4000000 in
theorem a_joined {l : Launch} {D : va_G} {cy : Nat → ClassId} {B N : Nat} {g : Nat → va_E} {W : List Int} {S : St} {P : List St} {M : Int} {law part : Int} (ho : OW cy B g 0 W S P M) (hN : 141 ≤ N) (hM : M < 2147480000) (h_law : -2147483648 ≤ law ∧ law < 2147483648) (h_part : -2147483648 ≤ part ∧ part < 2147483648) : CTl l yX10_joined wsX10_joined (rmo 13 342) D cy B N g [.ref (B + 0), .int (zI law), .int (zI part)] (eJoi S law part) (fun g' => OW cy B g' 0 W S P M ∧ (∀ q, 141 ≤ q → g' q = g q)) := by
  obtain ⟨L, hcw, hL, hwf⟩ := id ho
  obtain ⟨Cn, sr, pl, dn, dv, dT, dX, dV, dW, nx, wh, Rw, jW0, jA0, jg, cs, Ms, fs, hv, hCn, hnx, hPC, hcs, hMs⟩ := id hcw
  obtain ⟨ht0, hsa, htx, hr, hd, hst, hp, hj, hss⟩ := id hv
  by_cases hvd : 1 ≤ law ∧ law ≤ 2 ∧ 0 ≤ part ∧ part ≤ 1
  · have hp9 := hp
    refine CTl_mono (y_X10_joined ht0 hsa hj hss (by omega) hwf.2.1.1.2 (fun i hi => by rw [hcs i hi]; exact hwf.2.1.2 i hi) (fun i => by have := hMs i; omega) h_law h_part hvd) (aJoi_c hcs) (fun g' hp => ?_)
    obtain ⟨jW1, jA1, jg1, fs1, hj1, hss1, hf⟩ := hp
    exact ⟨⟨L, ⟨_, _, _, _, _, _, _, _, _, _, _, _, _, _, _, _, _, _, ⟨vTop_fr ht0 (fun q h1 h2 => hf q (by omega)), vSA_fr hsa (fun q h1 h2 => hf q (by omega)), vText_fr htx (fun q h1 h2 => hf q (by omega)), vReader_fr hr (fun q h1 h2 => hf q (by omega)), vDr_fr hd (fun q h1 h2 => hf q (by omega)), vSets_fr hst (fun q h1 h2 => hf q (by omega)), vPast_fr hp9 (fun q h1 h2 => hf q (by omega)), hj1, hss1⟩, hCn, hnx, hPC, hcs, hMs⟩, hL, hwf⟩, fun q h => hf q (by omega)⟩
  · exact CTl_mono (n_X10_joined ht0 hsa hj hss (by omega) hwf.2.1.1.2 (fun i hi => by rw [hcs i hi]; exact hwf.2.1.2 i hi) (fun i => by have := hMs i; omega) h_law h_part hvd) (by unfold eJoi aJoi; rw [if_neg hvd]) (fun g' hp => by subst hp; exact ⟨ho, fun _ _ => rfl⟩)
set_option maxHeartbeats 4000000 in
theorem a_count {l : Launch} {D : va_G} {cy : Nat → ClassId} {B N : Nat} {g : Nat → va_E} {W : List Int} {S : St} {P : List St} {M : Int} {what : Int} (ho : OW cy B g 0 W S P M) (hN : 141 ≤ N) (hM : M < 2147480000) (h_what : -2147483648 ≤ what ∧ what < 2147483648) : CTi l yX10_count wsX10_count (rmo 4 88) D cy B N g [.ref (B + 0), .int (zI what)] (eCnt W S P what) (fun g' => OW cy B g' 0 W S P M ∧ (∀ q, 141 ≤ q → g' q = g q)) := by
  obtain ⟨L, hcw, hL, hwf⟩ := id ho
  obtain ⟨Cn, sr, pl, dn, dv, dT, dX, dV, dW, nx, wh, Rw, jW0, jA0, jg, cs, Ms, fs, hv, hCn, hnx, hPC, hcs, hMs⟩ := id hcw
  obtain ⟨ht0, hsa, htx, hr, hd, hst, hp, hj, hss⟩ := id hv
  exact CTi_mono (c_X10_count ht0 hsa hss hp htx (by omega) hwf.2.1.1.2 (fun i hi => by rw [hcs i hi]; exact (hwf.2.1.2 i hi).1) h_what) (by rw [cntS_c hcs]; rfl) (fun g' hp => by subst hp; exact ⟨ho, fun _ _ => rfl⟩)
set_option maxHeartbeats 4000000 in
theorem a_write {l : Launch} {D : va_G} {cy : Nat → ClassId} {B N : Nat} {g : Nat → va_E} {W : List Int} {S : St} {P : List St} {M : Int} {x : Int} (ho : OW cy B g 0 W S P M) (hN : 141 ≤ N) (hM : M < 2147480000) (h_x : -2147483648 ≤ x ∧ x < 2147483648) (hb : 32 ≤ x ∧ x ≤ 126) (hf : W.length < 200) : CTi l yX10_write wsX10_write (rmo 1 21) D cy B N g [.ref (B + 0), .int (zI x)] (((W.length + 1 : Nat)) : Int) (fun g' => OW cy B g' 0 (W ++ [x]) S P M ∧ (∀ q, 141 ≤ q → g' q = g q)) := by
  obtain ⟨L, hcw, hL, hwf⟩ := id ho
  obtain ⟨Cn, sr, pl, dn, dv, dT, dX, dV, dW, nx, wh, Rw, jW0, jA0, jg, cs, Ms, fs, hv, hCn, hnx, hPC, hcs, hMs⟩ := id hcw
  obtain ⟨ht0, hsa, htx, hr, hd, hst, hp, hj, hss⟩ := id hv
  have hp9 := hp
  refine CTi_mono (y_X10_write ht0 htx (by omega) hwf.1.1 h_x hb hf) (rfl) (fun g' hp => ?_)
  exact ⟨⟨_, ⟨_, _, _, _, _, _, _, _, _, _, _, _, _, _, _, _, _, _, ⟨vTop_fr ht0 (fun q h1 h2 => hp.2 q (by omega)), vSA_fr hsa (fun q h1 h2 => hp.2 q (by omega)), (by rw [List.length_append, List.length_singleton]; exact hp.1), vReader_fr hr (fun q h1 h2 => hp.2 q (by omega)), vDr_fr hd (fun q h1 h2 => hp.2 q (by omega)), vSets_fr hst (fun q h1 h2 => hp.2 q (by omega)), vPast_fr hp9 (fun q h1 h2 => hp.2 q (by omega)), vJoint_fr hj (fun q h1 h2 => hp.2 q (by omega)), vSWs_fr hss (fun q h1 h2 => hp.2 q (by omega))⟩, hCn, hnx, hPC, hcs, hMs⟩, lt_app hL, lt_snoc hwf hf hb⟩, fun q h => hp.2 q (by omega)⟩
set_option maxHeartbeats 4000000 in
theorem f_write {l : Launch} {D : va_G} {cy : Nat → ClassId} {B N : Nat} {g : Nat → va_E} {W : List Int} {S : St} {P : List St} {M : Int} {x : Int} (ho : OW cy B g 0 W S P M) (hN : 141 ≤ N) (hM : M < 2147480000) (h_x : -2147483648 ≤ x ∧ x < 2147483648) (hb : 32 ≤ x ∧ x ≤ 126) (hf : W.length = 200) : CTi l yX10_write wsX10_write (rmo 1 21) D cy B N g [.ref (B + 0), .int (zI x)] (-3) (fun g' => OW cy B g' 0 W S P M ∧ (∀ q, 141 ≤ q → g' q = g q)) := by
  obtain ⟨L, hcw, hL, hwf⟩ := id ho
  obtain ⟨Cn, sr, pl, dn, dv, dT, dX, dV, dW, nx, wh, Rw, jW0, jA0, jg, cs, Ms, fs, hv, hCn, hnx, hPC, hcs, hMs⟩ := id hcw
  obtain ⟨ht0, hsa, htx, hr, hd, hst, hp, hj, hss⟩ := id hv
  exact CTi_mono (f_X10_write ht0 htx (by omega) hwf.1.1 h_x hb hf) (rfl) (fun g' hp => by subst hp; exact ⟨ho, fun _ _ => rfl⟩)
set_option maxHeartbeats 4000000 in
theorem n_write {l : Launch} {D : va_G} {cy : Nat → ClassId} {B N : Nat} {g : Nat → va_E} {W : List Int} {S : St} {P : List St} {M : Int} {x : Int} (ho : OW cy B g 0 W S P M) (hN : 141 ≤ N) (hM : M < 2147480000) (h_x : -2147483648 ≤ x ∧ x < 2147483648) (hb : x < 32 ∨ 126 < x) : CTi l yX10_write wsX10_write (rmo 1 21) D cy B N g [.ref (B + 0), .int (zI x)] (-1) (fun g' => OW cy B g' 0 W S P M ∧ (∀ q, 141 ≤ q → g' q = g q)) := by
  obtain ⟨L, hcw, hL, hwf⟩ := id ho
  obtain ⟨Cn, sr, pl, dn, dv, dT, dX, dV, dW, nx, wh, Rw, jW0, jA0, jg, cs, Ms, fs, hv, hCn, hnx, hPC, hcs, hMs⟩ := id hcw
  obtain ⟨ht0, hsa, htx, hr, hd, hst, hp, hj, hss⟩ := id hv
  exact CTi_mono (n_X10_write ht0 htx (by omega) hwf.1.1 h_x hb) (rfl) (fun g' hp => by subst hp; exact ⟨ho, fun _ _ => rfl⟩)
set_option maxHeartbeats 4000000 in
theorem a_wipe {l : Launch} {D : va_G} {cy : Nat → ClassId} {B N : Nat} {g : Nat → va_E} {W : List Int} {S : St} {P : List St} {M : Int} (ho : OW cy B g 0 W S P M) (hN : 141 ≤ N) (hM : M < 2147480000) : CTi l yX10_wipe wsX10_wipe (rmo 1 20) D cy B N g [.ref (B + 0)] ((W.length : Nat) : Int) (fun g' => OW cy B g' 0 ([]) S P M ∧ (∀ q, 141 ≤ q → g' q = g q)) := by
  obtain ⟨L, hcw, hL, hwf⟩ := id ho
  obtain ⟨Cn, sr, pl, dn, dv, dT, dX, dV, dW, nx, wh, Rw, jW0, jA0, jg, cs, Ms, fs, hv, hCn, hnx, hPC, hcs, hMs⟩ := id hcw
  obtain ⟨ht0, hsa, htx, hr, hd, hst, hp, hj, hss⟩ := id hv
  have hp9 := hp
  refine CTi_mono (c_X10_wipe ht0 htx (by omega)) (rfl) (fun g' hp => ?_)
  exact ⟨⟨_, ⟨_, _, _, _, _, _, _, _, _, _, _, _, _, _, _, _, _, _, ⟨vTop_fr ht0 (fun q h1 h2 => hp.2 q (by omega)), vSA_fr hsa (fun q h1 h2 => hp.2 q (by omega)), hp.1, vReader_fr hr (fun q h1 h2 => hp.2 q (by omega)), vDr_fr hd (fun q h1 h2 => hp.2 q (by omega)), vSets_fr hst (fun q h1 h2 => hp.2 q (by omega)), vPast_fr hp9 (fun q h1 h2 => hp.2 q (by omega)), vJoint_fr hj (fun q h1 h2 => hp.2 q (by omega)), vSWs_fr hss (fun q h1 h2 => hp.2 q (by omega))⟩, hCn, hnx, hPC, hcs, hMs⟩, (fun i h1 h2 => absurd h2 (by show ¬ i < ((0 : Nat) : Int); omega)), ⟨⟨Nat.zero_le _, fun i h1 h2 => absurd h2 (by show ¬ i < ((0 : Nat) : Int); omega)⟩, hwf.2⟩⟩, fun q h => hp.2 q (by omega)⟩
set_option maxHeartbeats 4000000 in
theorem a_fault {l : Launch} {D : va_G} {cy : Nat → ClassId} {B N : Nat} {g : Nat → va_E} {W : List Int} {S : St} {P : List St} {M : Int} (ho : OW cy B g 0 W S P M) (hN : 141 ≤ N) (hM : M < 2147480000) : CTi l yX10_fault wsX10_fault (rmo 5 118) D cy B N g [.ref (B + 0)] (eFau W) (fun g' => OW cy B g' 0 W S P M ∧ (∀ q, 141 ≤ q → g' q = g q)) := by
  obtain ⟨L, hcw, hL, hwf⟩ := id ho
  obtain ⟨Cn, sr, pl, dn, dv, dT, dX, dV, dW, nx, wh, Rw, jW0, jA0, jg, cs, Ms, fs, hv, hCn, hnx, hPC, hcs, hMs⟩ := id hcw
  obtain ⟨ht0, hsa, htx, hr, hd, hst, hp, hj, hss⟩ := id hv
  have e9 : psF W.length L 200 0 [] = psW W := lt_eq hL 200 0 []
  have hp9 := hp
  refine CTi_mono (c_X10_fault ht0 htx hr hd hst (by omega) hwf.1.1 (hL_O hwf hL)) (by rw [e9]; rfl) (fun g' hp => ?_)
  obtain ⟨sr1, pl1, dn1, dv1, dT1, dX1, dV1, dW1, hr1, hd1, hf⟩ := hp
  exact ⟨⟨L, ⟨_, _, _, _, _, _, _, _, _, _, _, _, _, _, _, _, _, _, ⟨vTop_fr ht0 (fun q h1 h2 => hf q (by omega)), vSA_fr hsa (fun q h1 h2 => hf q (by omega)), vText_fr htx (fun q h1 h2 => hf q (by omega)), hr1, hd1, vSets_fr hst (fun q h1 h2 => hf q (by omega)), vPast_fr hp9 (fun q h1 h2 => hf q (by omega)), vJoint_fr hj (fun q h1 h2 => hf q (by omega)), vSWs_fr hss (fun q h1 h2 => hf q (by omega))⟩, hCn, hnx, hPC, hcs, hMs⟩, hL, hwf⟩, fun q h => hf q (by omega)⟩
set_option maxHeartbeats 4000000 in
theorem a_lay {l : Launch} {D : va_G} {cy : Nat → ClassId} {B N : Nat} {g : Nat → va_E} {W : List Int} {S : St} {P : List St} {M : Int} (ho : OW cy B g 0 W S P M) (hN : 141 ≤ N) (hM : M < 2147480000) (hf1 : (psW W).1 = -1) (hly : lyd (psW W).2) : CTi l yX10_lay wsX10_lay (rmo 6 140) D cy B N g [.ref (B + 0)] (((psW W).2.length : Nat) : Int) (fun g' => OW cy B g' 0 W ((psW W).2) ([]) (M + 20) ∧ (∀ q, 141 ≤ q → g' q = g q)) := by
  obtain ⟨L, hcw, hL, hwf⟩ := id ho
  obtain ⟨Cn, sr, pl, dn, dv, dT, dX, dV, dW, nx, wh, Rw, jW0, jA0, jg, cs, Ms, fs, hv, hCn, hnx, hPC, hcs, hMs⟩ := id hcw
  obtain ⟨ht0, hsa, htx, hr, hd, hst, hp, hj, hss⟩ := id hv
  have e9 : psF W.length L 200 0 [] = psW W := lt_eq hL 200 0 []
  have hp9 := hp
  refine CTi_mono (y_X10_lay (MM := M) ht0 hsa htx hr hd hst hp hss (by omega) hwf.2.1.1.2 hwf.1.1 (hL_O hwf hL) hCn hMs (by rw [e9]; exact hf1) (by rw [e9]; exact hly)) (by rw [e9]) (fun g' hp => ?_)
  obtain ⟨sr1, pl1, dn1, dv1, dT1, dX1, dV1, dW1, cs1, Ms1, fs1, ht1, hr1, hd1, hp1, hss1, hcs1, hM1, hf⟩ := hp
  rw [e9] at ht1 hcs1
  exact ⟨⟨L, ⟨_, _, _, _, _, _, _, _, _, _, _, _, _, _, _, _, _, _, ⟨ht1, vSA_fr hsa (fun q h1 h2 => hf q (by omega)), vText_fr htx (fun q h1 h2 => hf q (by omega)), hr1, hd1, vSets_fr hst (fun q h1 h2 => hf q (by omega)), hp1, vJoint_fr hj (fun q h1 h2 => hf q (by omega)), hss1⟩, hCn, hnx, PC_nil, hcs1, fun i => by have := hM1 i; omega⟩, hL, ⟨hwf.1, WFS_ps hly, by decide, fun i hi => absurd hi (Nat.not_lt_zero i)⟩⟩, fun q h => hf q (by omega)⟩
set_option maxHeartbeats 4000000 in
theorem n_lay {l : Launch} {D : va_G} {cy : Nat → ClassId} {B N : Nat} {g : Nat → va_E} {W : List Int} {S : St} {P : List St} {M : Int} (ho : OW cy B g 0 W S P M) (hN : 141 ≤ N) (hM : M < 2147480000) (hno : ¬ ((psW W).1 = -1 ∧ lyd (psW W).2)) : CTi l yX10_lay wsX10_lay (rmo 6 140) D cy B N g [.ref (B + 0)] (-2) (fun g' => OW cy B g' 0 W S P M ∧ (∀ q, 141 ≤ q → g' q = g q)) := by
  obtain ⟨L, hcw, hL, hwf⟩ := id ho
  obtain ⟨Cn, sr, pl, dn, dv, dT, dX, dV, dW, nx, wh, Rw, jW0, jA0, jg, cs, Ms, fs, hv, hCn, hnx, hPC, hcs, hMs⟩ := id hcw
  obtain ⟨ht0, hsa, htx, hr, hd, hst, hp, hj, hss⟩ := id hv
  have e9 : psF W.length L 200 0 [] = psW W := lt_eq hL 200 0 []
  have hp9 := hp
  refine CTi_mono (n_X10_lay (MM := M) ht0 hsa htx hr hd hst hp hss (by omega) hwf.2.1.1.2 hwf.1.1 (hL_O hwf hL) hCn hMs (by rw [e9]; exact hno)) (rfl) (fun g' hp => ?_)
  obtain ⟨sr1, pl1, dn1, dv1, dT1, dX1, dV1, dW1, hr1, hd1, hf⟩ := hp
  exact ⟨⟨L, ⟨_, _, _, _, _, _, _, _, _, _, _, _, _, _, _, _, _, _, ⟨vTop_fr ht0 (fun q h1 h2 => hf q (by omega)), vSA_fr hsa (fun q h1 h2 => hf q (by omega)), vText_fr htx (fun q h1 h2 => hf q (by omega)), hr1, hd1, vSets_fr hst (fun q h1 h2 => hf q (by omega)), vPast_fr hp9 (fun q h1 h2 => hf q (by omega)), vJoint_fr hj (fun q h1 h2 => hf q (by omega)), vSWs_fr hss (fun q h1 h2 => hf q (by omega))⟩, hCn, hnx, hPC, hcs, hMs⟩, hL, hwf⟩, fun q h => hf q (by omega)⟩
set_option maxHeartbeats 4000000 in
theorem a_set {l : Launch} {D : va_G} {cy : Nat → ClassId} {B N : Nat} {g : Nat → va_E} {W : List Int} {S : St} {P : List St} {M : Int} {s j what x : Int} (ho : OW cy B g 0 W S P M) (hN : 141 ≤ N) (hM : M < 2147480000) (h_s : -2147483648 ≤ s ∧ s < 2147483648) (h_j : -2147483648 ≤ j ∧ j < 2147483648) (h_what : -2147483648 ≤ what ∧ what < 2147483648) (h_x : -2147483648 ≤ x ∧ x < 2147483648) : CTi l yX10_set wsX10_set (rmo 2 63) D cy B N g [.ref (B + 0), .int (zI s), .int (zI j), .int (zI what), .int (zI x)] ((stSet S s j what x).1) (fun g' => OW cy B g' 0 W ((stSet S s j what x).2) (past (stSet S s j what x).1 S P) (M + 20) ∧ (∀ q, 141 ≤ q → g' q = g q)) := by
  obtain ⟨L, hcw, hL, hwf⟩ := id ho
  obtain ⟨Cn, sr, pl, dn, dv, dT, dX, dV, dW, nx, wh, Rw, jW0, jA0, jg, cs, Ms, fs, hv, hCn, hnx, hPC, hcs, hMs⟩ := id hcw
  obtain ⟨ht0, hsa, htx, hr, hd, hst, hp, hj, hss⟩ := id hv
  by_cases hs : ¬ (0 ≤ s ∧ s < S.length)
  · have hE : stSet S s j what x = (-1, S) := by unfold stSet; rw [if_pos hs]
    exact CTi_mono (n_X10_set ht0 hsa (by omega) hwf.2.1.1.2 h_s hs h_j h_what h_x) ((by rw [hE])) (fun g' hp => by subst hp; rw [hE]; exact ⟨OW_up ho (by omega), fun _ _ => rfl⟩)
  · obtain ⟨k, rfl⟩ : ∃ k : Nat, s = ((k : Nat) : Int) := ⟨s.toNat, by omega⟩
    have hkS : k < S.length := by omega
    have hck := hwf.2.1.2 k hkS
    by_cases hb : ¬ (0 ≤ j ∧ j < (S.getD k []).length) ∨ ¬ (0 ≤ what ∧ what ≤ 1) ∨ x < 0 ∨ (what = 0 ∧ coT (S.getD k []) j < x) ∨ (what = 1 ∧ 9 < x)
    · have hE : stSet S ((k : Nat) : Int) j what x = (-1, S) := by unfold stSet; rw [if_neg (fun q => q (by omega)), Int.toNat_natCast, if_pos hb]
      have hw := hss k (by have := hwf.2.1.1.2; omega)
      rw [hcs k hkS] at hw
      exact CTi_mono (b_X10_set ht0 hsa hw hp (by omega) ⟨hkS, hwf.2.1.1.2⟩ (by have := hMs k; omega) hck.1 hck.2 hnx hPC.1 h_j h_what h_x hb) ((by rw [hE])) (fun g' hp => by subst hp; rw [hE]; exact ⟨OW_up ho (by omega), fun _ _ => rfl⟩)
    · have hjj : 0 ≤ j ∧ j < (S.getD k []).length := by omega
      have hT9 := hck.1.2 j hjj.1 hjj.2
      by_cases hw0 : what = 0
      · by_cases he : coX (S.getD k []) j = x
        · have hE : stSet S ((k : Nat) : Int) j what x = (-2, S) := by unfold stSet; rw [if_neg (fun q => q (by omega)), Int.toNat_natCast, if_neg hb, if_pos hw0, if_pos he]
          have hw := hss k (by have := hwf.2.1.1.2; omega)
          rw [hcs k hkS] at hw
          exact CTi_mono (s_X10_set ht0 hsa hw hp (by omega) ⟨hkS, hwf.2.1.1.2⟩ (by have := hMs k; omega) hck.1 hck.2 hnx hPC.1 h_j h_what h_x hjj (Or.inl ⟨hw0, by omega, by omega, he⟩)) ((by rw [hE])) (fun g' hp => by subst hp; rw [hE]; exact ⟨OW_up ho (by omega), fun _ _ => rfl⟩)
        · have hE : stSet S ((k : Nat) : Int) j what x = (coX (S.getD k []) j, S.set k (upX (S.getD k []) j x)) := by unfold stSet; rw [if_neg (fun q => q (by omega)), Int.toNat_natCast, if_neg hb, if_pos hw0, if_neg he]
          have hE0 : 0 ≤ coX (S.getD k []) j := by omega
          have hw := hss k (by have := hwf.2.1.1.2; omega)
          rw [hcs k hkS] at hw
          refine CTi_mono (x_X10_set ht0 hsa hw hp (by omega) ⟨hkS, hwf.2.1.1.2⟩ (by have := hMs k; omega) hck.1 hck.2 hnx hPC.1 h_j h_what h_x hjj ⟨hw0, by omega, by omega, he⟩) ((by rw [hE])) (fun g' hp => ?_)
          obtain ⟨Rn, h1, h2, hRn, hf⟩ := hp
          obtain ⟨z1, z2⟩ := CWs hv hCn hnx hPC hcs hMs hwf.2.1.1.2 hkS h1 (by have := hck.1.1; omega) h2 (put_back (upX_len _ _ _) (fun i a b => (upX_at hjj i a).1) hck.1.1 hRn) hf
          rw [hE, past_ok hE0]
          exact ⟨⟨L, z1, hL, WFg_push hwf (WFS_set hwf.2.1 hkS ⟨cok_setX hck.1 hjj (by omega), by rw [upX_len]; exact hck.2⟩)⟩, z2⟩
      · by_cases he : coV (S.getD k []) j = x
        · have hE : stSet S ((k : Nat) : Int) j what x = (-2, S) := by unfold stSet; rw [if_neg (fun q => q (by omega)), Int.toNat_natCast, if_neg hb, if_neg hw0, if_pos he]
          have hw := hss k (by have := hwf.2.1.1.2; omega)
          rw [hcs k hkS] at hw
          exact CTi_mono (s_X10_set ht0 hsa hw hp (by omega) ⟨hkS, hwf.2.1.1.2⟩ (by have := hMs k; omega) hck.1 hck.2 hnx hPC.1 h_j h_what h_x hjj (Or.inr ⟨by omega, by omega, by omega, he⟩)) ((by rw [hE])) (fun g' hp => by subst hp; rw [hE]; exact ⟨OW_up ho (by omega), fun _ _ => rfl⟩)
        · have hE : stSet S ((k : Nat) : Int) j what x = (coV (S.getD k []) j, S.set k (upV (S.getD k []) j x)) := by unfold stSet; rw [if_neg (fun q => q (by omega)), Int.toNat_natCast, if_neg hb, if_neg hw0, if_neg he]
          have hE0 : 0 ≤ coV (S.getD k []) j := by omega
          have hw := hss k (by have := hwf.2.1.1.2; omega)
          rw [hcs k hkS] at hw
          refine CTi_mono (v_X10_set ht0 hsa hw hp (by omega) ⟨hkS, hwf.2.1.1.2⟩ (by have := hMs k; omega) hck.1 hck.2 hnx hPC.1 h_j h_what h_x hjj ⟨by omega, by omega, by omega, he⟩) ((by rw [hE])) (fun g' hp => ?_)
          obtain ⟨Rn, h1, h2, hRn, hf⟩ := hp
          obtain ⟨z1, z2⟩ := CWs hv hCn hnx hPC hcs hMs hwf.2.1.1.2 hkS h1 (by have := hck.1.1; omega) h2 (put_back (upV_len _ _ _) (fun i a b => (upV_at hjj i a).1) hck.1.1 hRn) hf
          rw [hE, past_ok hE0]
          exact ⟨⟨L, z1, hL, WFg_push hwf (WFS_set hwf.2.1 hkS ⟨cok_setV hck.1 hjj (by omega), by rw [upV_len]; exact hck.2⟩)⟩, z2⟩
set_option maxHeartbeats 4000000 in
theorem a_move {l : Launch} {D : va_G} {cy : Nat → ClassId} {B N : Nat} {g : Nat → va_E} {W : List Int} {S : St} {P : List St} {M : Int} {s a b : Int} (ho : OW cy B g 0 W S P M) (hN : 141 ≤ N) (hM : M < 2147480000) (h_s : -2147483648 ≤ s ∧ s < 2147483648) (h_a : -2147483648 ≤ a ∧ a < 2147483648) (h_b : -2147483648 ≤ b ∧ b < 2147483648) : CTi l yX10_move wsX10_move (rmo 2 63) D cy B N g [.ref (B + 0), .int (zI s), .int (zI a), .int (zI b)] ((stMove S s a b).1) (fun g' => OW cy B g' 0 W ((stMove S s a b).2) (past (stMove S s a b).1 S P) (M + 20) ∧ (∀ q, 141 ≤ q → g' q = g q)) := by
  obtain ⟨L, hcw, hL, hwf⟩ := id ho
  obtain ⟨Cn, sr, pl, dn, dv, dT, dX, dV, dW, nx, wh, Rw, jW0, jA0, jg, cs, Ms, fs, hv, hCn, hnx, hPC, hcs, hMs⟩ := id hcw
  obtain ⟨ht0, hsa, htx, hr, hd, hst, hp, hj, hss⟩ := id hv
  by_cases hs : ¬ (0 ≤ s ∧ s < S.length)
  · have hE : stMove S s a b = (-1, S) := by unfold stMove; rw [if_pos hs]
    exact CTi_mono (n_X10_move ht0 hsa (by omega) hwf.2.1.1.2 h_s hs h_a h_b) ((by rw [hE])) (fun g' hp => by subst hp; rw [hE]; exact ⟨OW_up ho (by omega), fun _ _ => rfl⟩)
  · obtain ⟨k, rfl⟩ : ∃ k : Nat, s = ((k : Nat) : Int) := ⟨s.toNat, by omega⟩
    have hkS : k < S.length := by omega
    have hck := hwf.2.1.2 k hkS
    by_cases hb : a = b ∨ ¬ (0 ≤ a ∧ a < (S.getD k []).length) ∨ ¬ (0 ≤ b ∧ b < (S.getD k []).length)
    · have hE : stMove S ((k : Nat) : Int) a b = (-1, S) := by unfold stMove; rw [if_neg (fun q => q (by omega)), Int.toNat_natCast, if_pos hb]
      have hw := hss k (by have := hwf.2.1.1.2; omega)
      rw [hcs k hkS] at hw
      exact CTi_mono (b_X10_move ht0 hsa hw hp (by omega) ⟨hkS, hwf.2.1.1.2⟩ (by have := hMs k; omega) hck.1 hck.2 hnx hPC.1 h_a h_b hb) ((by rw [hE])) (fun g' hp => by subst hp; rw [hE]; exact ⟨OW_up ho (by omega), fun _ _ => rfl⟩)
    · have ha : 0 ≤ a ∧ a < (S.getD k []).length := by omega
      have hb1 : 0 ≤ b ∧ b < (S.getD k []).length := by omega
      have hab : ¬ a = b := by omega
      by_cases hz : coX (S.getD k []) a = 0 ∨ coX (S.getD k []) b = coT (S.getD k []) b
      · have hE : stMove S ((k : Nat) : Int) a b = (-2, S) := by unfold stMove; rw [if_neg (fun q => q (by omega)), Int.toNat_natCast, if_neg hb, if_pos hz]
        have hw := hss k (by have := hwf.2.1.1.2; omega)
        rw [hcs k hkS] at hw
        exact CTi_mono (s_X10_move ht0 hsa hw hp (by omega) ⟨hkS, hwf.2.1.1.2⟩ (by have := hMs k; omega) hck.1 hck.2 hnx hPC.1 h_a h_b ha hb1 hab hz) ((by rw [hE])) (fun g' hp => by subst hp; rw [hE]; exact ⟨OW_up ho (by omega), fun _ _ => rfl⟩)
      · have hz2 : ¬ coX (S.getD k []) a = 0 ∧ ¬ coX (S.getD k []) b = coT (S.getD k []) b := ⟨fun h => hz (Or.inl h), fun h => hz (Or.inr h)⟩
        have hE : stMove S ((k : Nat) : Int) a b = (coX (S.getD k []) b + 1, S.set k (upX (upX (S.getD k []) a (coX (S.getD k []) a - 1)) b (coX (S.getD k []) b + 1))) := by unfold stMove; rw [if_neg (fun q => q (by omega)), Int.toNat_natCast, if_neg hb, if_neg hz]
        have hE0 : 0 ≤ coX (S.getD k []) b + 1 := by have := hck.1.2 b hb1.1 hb1.2; omega
        have hw := hss k (by have := hwf.2.1.1.2; omega)
        rw [hcs k hkS] at hw
        refine CTi_mono (y_X10_move ht0 hsa hw hp (by omega) ⟨hkS, hwf.2.1.1.2⟩ (by have := hMs k; omega) hck.1 hck.2 hnx hPC.1 h_a h_b ha hb1 hab hz2) ((by rw [hE])) (fun g' hp => ?_)
        obtain ⟨Rn, h1, h2, hRn, hf⟩ := hp
        obtain ⟨z1, z2⟩ := CWs hv hCn hnx hPC hcs hMs hwf.2.1.1.2 hkS h1 (by have := hck.1.1; omega) h2 (put_back (by rw [upX_len, upX_len]) (fun i a9 b9 => by rw [(upX_at (by rw [upX_len]; exact hb1) i a9).1, (upX_at ha i a9).1]) hck.1.1 hRn) hf
        rw [hE, past_ok hE0]
        exact ⟨⟨L, z1, hL, WFg_push hwf (WFS_set hwf.2.1 hkS ⟨cok_mv hck.1 ha hb1 hab hz2, by rw [upX_len, upX_len]; exact hck.2⟩)⟩, z2⟩
set_option maxHeartbeats 4000000 in
theorem a_turn {l : Launch} {D : va_G} {cy : Nat → ClassId} {B N : Nat} {g : Nat → va_E} {W : List Int} {S : St} {P : List St} {M : Int} {s : Int} (ho : OW cy B g 0 W S P M) (hN : 141 ≤ N) (hM : M < 2147480000) (h_s : -2147483648 ≤ s ∧ s < 2147483648) : CTi l yX10_turn wsX10_turn (rmo 2 63) D cy B N g [.ref (B + 0), .int (zI s)] ((stTurn S s).1) (fun g' => OW cy B g' 0 W ((stTurn S s).2) (past (stTurn S s).1 S P) (M + 20) ∧ (∀ q, 141 ≤ q → g' q = g q)) := by
  obtain ⟨L, hcw, hL, hwf⟩ := id ho
  obtain ⟨Cn, sr, pl, dn, dv, dT, dX, dV, dW, nx, wh, Rw, jW0, jA0, jg, cs, Ms, fs, hv, hCn, hnx, hPC, hcs, hMs⟩ := id hcw
  obtain ⟨ht0, hsa, htx, hr, hd, hst, hp, hj, hss⟩ := id hv
  by_cases hs : ¬ (0 ≤ s ∧ s < S.length)
  · have hE : stTurn S s = (-1, S) := by unfold stTurn; rw [if_pos hs]
    exact CTi_mono (n_X10_turn ht0 hsa (by omega) hwf.2.1.1.2 h_s hs) ((by rw [hE])) (fun g' hp => by subst hp; rw [hE]; exact ⟨OW_up ho (by omega), fun _ _ => rfl⟩)
  · obtain ⟨k, rfl⟩ : ∃ k : Nat, s = ((k : Nat) : Int) := ⟨s.toNat, by omega⟩
    have hkS : k < S.length := by omega
    have hck := hwf.2.1.2 k hkS
    have hE : stTurn S ((k : Nat) : Int) = (((coR (trn (S.getD k []) (S.getD k []).length) : Nat) : Int), S.set k (trn (S.getD k []) (S.getD k []).length)) := by unfold stTurn; rw [if_neg (fun q => q (by omega)), Int.toNat_natCast]
    have hE0 : 0 ≤ ((coR (trn (S.getD k []) (S.getD k []).length) : Nat) : Int) := by omega
    have hw := hss k (by have := hwf.2.1.1.2; omega)
    rw [hcs k hkS] at hw
    refine CTi_mono (y_X10_turn ht0 hsa hw hp (by omega) ⟨hkS, hwf.2.1.1.2⟩ (by have := hMs k; omega) hck.1 hck.2 hnx hPC.1) ((by rw [hE])) (fun g' hp => ?_)
    obtain ⟨Rn, h1, h2, hRn, hf⟩ := hp
    obtain ⟨z1, z2⟩ := CWs hv hCn hnx hPC hcs hMs hwf.2.1.1.2 hkS h1 (by have := hck.1.1; omega) h2 (put_back (trn_len _ _) (fun i a9 b9 => (trn_at (Nat.le_refl _) i a9).1) hck.1.1 hRn) hf
    rw [hE, past_ok hE0]
    exact ⟨⟨L, z1, hL, WFg_push hwf (WFS_set hwf.2.1 hkS ⟨trn_cok hck.1 (Nat.le_refl _), by rw [trn_len]; exact hck.2⟩)⟩, z2⟩
set_option maxHeartbeats 4000000 in
theorem a_undo {l : Launch} {D : va_G} {cy : Nat → ClassId} {B N : Nat} {g : Nat → va_E} {W : List Int} {S : St} {P : List St} {M : Int} (ho : OW cy B g 0 W S P M) (hN : 141 ≤ N) (hM : M < 2147480000) : CTi l yX10_undo wsX10_undo (rmo 3 66) D cy B N g [.ref (B + 0)] (eUnd P) (fun g' => OW cy B g' 0 W (P.headD S) (P.tail) (M + 20) ∧ (∀ q, 141 ≤ q → g' q = g q)) := by
  obtain ⟨L, hcw, hL, hwf⟩ := id ho
  obtain ⟨Cn, sr, pl, dn, dv, dT, dX, dV, dW, nx, wh, Rw, jW0, jA0, jg, cs, Ms, fs, hv, hCn, hnx, hPC, hcs, hMs⟩ := id hcw
  obtain ⟨ht0, hsa, htx, hr, hd, hst, hp, hj, hss⟩ := id hv
  cases P with
  | nil =>
    exact CTi_mono (n_X10_undo ht0 hsa hp (by omega) hwf.2.1.1.2 hnx hPC.1 rfl) (rfl) (fun g' hp => by subst hp; exact ⟨OW_up ho (by omega), fun _ _ => rfl⟩)
  | cons T P =>
    obtain ⟨⟨k, hkS, hwh9, hT9⟩, hPC9⟩ := PC_pop hPC hnx
    have hck := hwf.2.1.2 k hkS
    have hw := hss k (by have := hwf.2.1.1.2; omega)
    rw [hcs k hkS] at hw
    refine CTi_mono (y_X10_undo ht0 hsa hw hp (by omega) ⟨hkS, hwf.2.1.1.2⟩ (by have := hMs k; omega) ⟨hck.1.1, by omega⟩ hnx hPC.1 (Nat.succ_pos _) hwh9) (rfl) (fun g' hp => ?_)
    obtain ⟨z1, z2⟩ := CWu hv hCn hnx hPC9 hcs hMs hwf.2.1.1.2 hkS hp.1 (by omega) hp.2.1 hT9 hp.2.2
    exact ⟨⟨L, z1, hL, WFg_pop hwf⟩, z2⟩
