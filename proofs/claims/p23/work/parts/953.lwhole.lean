/-! ===== what the law reads of all strata together; ranges of the answers ===== -/
def eCn0 (S : St) (what : Int) : Int := if what = 0 then ((S.length : Nat) : Int) else cntS (fun i => S.getD i []) what S.length
theorem eCnt_0 {W : List Int} {S : St} {P : List St} {what : Int} (h : 0 ≤ what ∧ what ≤ 4) : eCnt W S P what = eCn0 S what := by
  unfold eCnt eCn0
  by_cases h0 : what = 0
  · rw [if_pos h0, if_pos h0]
  · rw [if_neg h0, if_neg h0, if_neg (by omega), if_neg (by omega), if_neg (by omega)]
theorem eCnt_5 (W : List Int) (S : St) (P : List St) : eCnt W S P 5 = ((P.length : Nat) : Int) := rfl
theorem eCnt_6 (W : List Int) (S : St) (P : List St) : eCnt W S P 6 = ((W.length : Nat) : Int) := rfl
theorem eCnt_00 (W : List Int) (S : St) (P : List St) : eCnt W S P 0 = ((S.length : Nat) : Int) := rfl
def hC (S : St) : Nat → Int
  | 0 => 3
  | k + 1 => 31 * hC S k + eCn0 S ((k : Nat) : Int)
def hSt (S : St) (i h : Int) : Nat → Int
  | 0 => h
  | k + 1 => 31 * hSt S i h k + eStr S i ((k : Nat) : Int)
def hK (S : St) (i j h : Int) : Nat → Int
  | 0 => h
  | k + 1 => 31 * hK S i j h k + eCol S i j ((k : Nat) : Int)
def hJ (S : St) (i h : Int) : Nat → Int
  | 0 => h
  | j + 1 => hK S i ((j : Nat) : Int) (hJ S i h j) 3
noncomputable def hI (S : St) (h : Int) : Nat → Int
  | 0 => h
  | i + 1 => 31 * (31 * hJ S ((i : Nat) : Int) (hSt S ((i : Nat) : Int) (hI S h i) 7) (S.getD i []).length + eWay S ((i : Nat) : Int) 0) + eRan S ((i : Nat) : Int)
noncomputable def wh (S : St) : Int := hI S (hC S 5) S.length
/-! ranges -/
theorem WF_S {W : List Int} {S : St} {P : List St} (h : WF W S P) : WFS S := h.2.1
theorem WFS_k {S : St} (h : WFS S) {s : Int} (hs : 0 ≤ s ∧ s < S.length) : cok (S.getD s.toNat []) ∧ 2 ≤ (S.getD s.toNat []).length := h.2 s.toNat (by omega)
theorem aStr_rg {c : List Co} (hc : cok c) (what : Int) : -1 ≤ aStr c what ∧ aStr c what < 2147483648 := by
  have h1 := hc.1
  have h2 := sm_ts hc
  have h3 := (coL_S hc).2.1
  have h4 := (coL_S hc).2.2.1
  have h5 := co_bd hc c.length (Nat.le_refl _)
  have h6 := tc_small hc
  have h7 := grs_540 hc
  have h8 : 0 ≤ coS c ∧ coS c ≤ 108 * c.length := h5.2.2.1
  unfold aStr
  repeat' split
  all_goals omega
theorem eStr_rg {S : St} (h : WFS S) (s what : Int) : -1 ≤ eStr S s what ∧ eStr S s what < 2147483648 := by
  unfold eStr
  split
  · next hs => exact aStr_rg (WFS_k h hs).1 what
  · omega
theorem eCol_rg {S : St} (h : WFS S) (s j what : Int) : -1 ≤ eCol S s j what ∧ eCol S s j what ≤ 12 := by
  unfold eCol
  split
  · next hs =>
    have hc := (WFS_k h hs).1
    unfold aCol
    split
    · next hj =>
      have h9 := hc.2 j hj.1 hj.2
      repeat' split
      all_goals omega
    · omega
  · omega
theorem eWay_rg {S : St} (h : WFS S) (s what : Int) : -1 ≤ eWay S s what ∧ eWay S s what ≤ 1152921504606846976 := by
  unfold eWay
  split
  · next hs =>
    have hc := (WFS_k h hs).1
    have h1 := coP_rg hc
    have h2 := bh_rg hc
    have h3 := coL_S hc
    have h4 := lg_bh (cs := coL (S.getD s.toNat [])) (r := coR (S.getD s.toNat []))
    have h5 := sh_le (cs := coL (S.getD s.toNat [])) (r := coR (S.getD s.toNat [])) h3.2.2.1
    have h6 := pow_60 (k := tsum (coL (S.getD s.toNat []))) h3.2.1
    unfold aWay
    repeat' split
    all_goals omega
  · omega
theorem eRan_rg {S : St} (h : WFS S) (s : Int) : -1 ≤ eRan S s ∧ eRan S s < 2147483648 := by
  unfold eRan
  split
  · next hs =>
    have hc := (WFS_k h hs).1
    have h1 := seen_at hc
    have h2 := tc_small hc
    omega
  · omega
theorem eTab_rg {S : St} (h : WFS S) (s t j : Int) : -1 ≤ eTab S s t j ∧ eTab S s t j ≤ 12 := by
  unfold eTab
  split
  · next hs => exact tab_rg (WFS_k h hs).1 t j
  · omega
theorem eSta_rg {S : St} (h : WFS S) (s law : Int) : -1 ≤ eSta S s law ∧ eSta S s law < 2147483648 := by
  unfold eSta
  split
  · next hs =>
    have hc := (WFS_k h hs).1
    have h1 := stT_ps hc law
    have h2 := tc_small hc
    unfold aSta
    split <;> omega
  · omega
theorem cnt1_rg {c : List Co} (hc : cok c) (what : Int) : 0 ≤ cnt1 c what ∧ cnt1 c what ≤ 540 := by
  have h1 := hc.1
  have h2 := sm_ts hc
  have h3 := (coL_S hc).2.1
  have h4 := (coL_S hc).2.2.1
  have h5 := co_bd hc c.length (Nat.le_refl _)
  have h8 : 0 ≤ coS c ∧ coS c ≤ 108 * c.length := h5.2.2.1
  unfold cnt1
  repeat' split
  all_goals omega
theorem cntS_rg {cs : Nat → List Co} {what : Int} : ∀ {m : Nat}, (∀ i, i < m → cok (cs i)) → 0 ≤ cntS cs what m ∧ cntS cs what m ≤ 540 * m
  | 0, _ => by rw [cntS]; omega
  | m + 1, h => by
    have h1 := cntS_rg (what := what) (m := m) (fun i hi => h i (by omega))
    have h2 := cnt1_rg (h m (by omega)) what
    rw [cntS]
    omega
theorem eCn0_rg {S : St} (h : WFS S) (what : Int) : 0 ≤ eCn0 S what ∧ eCn0 S what ≤ 1620 := by
  have h1 := h.1
  have h2 := cntS_rg (cs := fun i => S.getD i []) (what := what) (m := S.length) (fun i hi => (h.2 i hi).1)
  unfold eCn0
  split <;> omega
theorem eFau_rg (W : List Int) : -4 ≤ eFau W ∧ eFau W ≤ W.length := by
  have h := psF_S (n := W.length) (L := lt W) (f := 200) (p := 0) (S := []) (by omega) (by decide)
  have h2 : -1 ≤ (psW W).1 ∧ (psW W).1 < W.length := h.2
  unfold eFau
  split <;> omega
theorem eStr_0 {S : St} {k : Nat} (h : k < S.length) : eStr S ((k : Nat) : Int) 0 = (((S.getD k []).length : Nat) : Int) := e_at h
theorem e_col {S : St} {k : Nat} (h : k < S.length) (j what : Int) : eCol S ((k : Nat) : Int) j what = aCol (S.getD k []) j what := e_at h
theorem e_str {S : St} {k : Nat} (h : k < S.length) (what : Int) : eStr S ((k : Nat) : Int) what = aStr (S.getD k []) what := e_at h
theorem e_way {S : St} {k : Nat} (h : k < S.length) (what : Int) : eWay S ((k : Nat) : Int) what = aWay (S.getD k []) what := e_at h
theorem e_cha {S : St} {k : Nat} (h : k < S.length) (law part : Int) : eCha S ((k : Nat) : Int) law part = aCha (S.getD k []) law part := e_at h
theorem e_sta {S : St} {k : Nat} (h : k < S.length) {law : Int} (hl : 0 ≤ law ∧ law ≤ 2) : eSta S ((k : Nat) : Int) law = stT (S.getD k []) law := (e_at h).trans (if_pos hl)
theorem e_nod {S : St} {k : Nat} (h : k < S.length) (j a what : Int) : eNod S ((k : Nat) : Int) j a what = aNod (S.getD k []) j a what := e_at h
theorem e_loo {S : St} {k : Nat} (h : k < S.length) (what : Int) : eLoo S ((k : Nat) : Int) what = aLoo (S.getD k []) what := e_at h
theorem e_tab {S : St} {k : Nat} (h : k < S.length) (t j : Int) : eTab S ((k : Nat) : Int) t j = aTab (S.getD k []) t j := e_at h
theorem e_ran {S : St} {k : Nat} (h : k < S.length) : eRan S ((k : Nat) : Int) = aRan (S.getD k []) := e_at h
theorem col_T {c : List Co} {j : Int} (h : 0 ≤ j ∧ j < c.length) : aCol c j 0 = coT c j ∧ aCol c j 1 = coX c j := by
  unfold aCol
  rw [if_pos h, if_pos h, if_pos rfl, if_neg (by omega), if_pos rfl]
  exact ⟨rfl, rfl⟩
