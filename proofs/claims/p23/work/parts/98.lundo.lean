/-! ===== turned and undone; changes undone ===== -/
theorem stTurn_at {S : St} {k : Nat} (hk : k < S.length) : stTurn S ((k : Nat) : Int) = (((coR (trn (S.getD k []) (S.getD k []).length) : Nat) : Int), S.set k (trn (S.getD k []) (S.getD k []).length)) := by
  unfold stTurn
  rw [if_neg (fun q => q (by omega)), Int.toNat_natCast]
theorem set_at {S : St} {k : Nat} {c : List Co} (hk : k < S.length) : (S.set k c).getD k [] = c := by
  rw [stD hk, if_pos rfl]
theorem turn_n {S : St} (hS : WFS S) {k : Nat} (hk : k < S.length) : eStr S ((k : Nat) : Int) 1 - eStr S ((k : Nat) : Int) 2 = ((coR (trn (S.getD k []) (S.getD k []).length) : Nat) : Int) := by
  have hc := (hS.2 k hk).1
  have h1 : eStr S ((k : Nat) : Int) 1 = sm (coT (S.getD k [])) (S.getD k []).length := e_str hk 1
  have h2 : eStr S ((k : Nat) : Int) 2 = ((coR (S.getD k []) : Nat) : Int) := e_str hk 2
  have h4 := (coL_S hc).2.2.1
  rw [h1, h2, trn_R hc, sm_ts hc]
  omega
theorem turn_cha {S : St} (hS : WFS S) {k : Nat} (hk : k < S.length) {part : Int} (h : 0 ≤ part ∧ part ≤ 1) : eCha (S.set k (trn (S.getD k []) (S.getD k []).length)) ((k : Nat) : Int) 0 part = eCha S ((k : Nat) : Int) 0 part := by
  rw [e_cha (by rw [List.length_set]; exact hk), e_cha hk, set_at hk, trn_cha (hS.2 k hk).1 h]
theorem turn_sta {S : St} (hS : WFS S) {k : Nat} (hk : k < S.length) : eSta (S.set k (trn (S.getD k []) (S.getD k []).length)) ((k : Nat) : Int) 0 = eSta S ((k : Nat) : Int) 0 := by
  rw [e_sta (by rw [List.length_set]; exact hk) (by omega), e_sta hk (by omega), set_at hk, (trn_W (hS.2 k hk).1).2.1]
theorem turn_way {S : St} (hS : WFS S) {k : Nat} (hk : k < S.length) : eWay (S.set k (trn (S.getD k []) (S.getD k []).length)) ((k : Nat) : Int) 0 = eWay S ((k : Nat) : Int) 0 := by
  rw [e_way (by rw [List.length_set]; exact hk), e_way hk, set_at hk]
  exact trn_P (hS.2 k hk).1
theorem eCha_rg {S : St} (hS : WFS S) {k : Nat} (hk : k < S.length) {law : Int} (h : 0 ≤ law ∧ law ≤ 2) : (1 ≤ eCha S ((k : Nat) : Int) law 0 ∧ eCha S ((k : Nat) : Int) law 0 ≤ 1152921504606846976) ∧ (1 ≤ eCha S ((k : Nat) : Int) law 1 ∧ eCha S ((k : Nat) : Int) law 1 ≤ 1152921504606846976) := by
  have hc := (hS.2 k hk).1
  have h1 := cha_ok hc h
  have h2 := bh_rg hc
  rw [e_cha hk, e_cha hk]
  omega
theorem headD_c {S T : St} {P : List St} {n : Nat} : ((T :: P).take (n + 1)).headD S = T := rfl
theorem past_len {E : Int} {S : St} {P : List St} (h : 0 ≤ E) (hP : P.length ≤ 6) : (past E S P).length = min (P.length + 1) 6 := by
  rw [past_ok h, take6_len hP]
/-- the answers of changes -/
theorem stSet_cs (S : St) (hS : WFS S) (s j what x : Int) : ((stSet S s j what x).1 < 0 ∧ -2 ≤ (stSet S s j what x).1 ∧ (stSet S s j what x).2 = S) ∨ (0 ≤ (stSet S s j what x).1 ∧ (stSet S s j what x).1 < 2147483648) := by
  unfold stSet
  by_cases hs : ¬ (0 ≤ s ∧ s < S.length)
  · rw [if_pos hs]
    exact Or.inl ⟨by simp, by simp, rfl⟩
  · rw [if_neg hs]
    have hs' : 0 ≤ s ∧ s < S.length := by omega
    have hc := (WFS_k hS hs').1
    split
    · exact Or.inl ⟨by simp, by simp, rfl⟩
    · next hb =>
      have hj : 0 ≤ j ∧ j < (S.getD s.toNat []).length := by omega
      have h9 := hc.2 j hj.1 hj.2
      split
      · split
        · exact Or.inl ⟨by simp, by simp, rfl⟩
        · exact Or.inr (by show 0 ≤ coX _ _ ∧ coX _ _ < 2147483648; omega)
      · split
        · exact Or.inl ⟨by simp, by simp, rfl⟩
        · exact Or.inr (by show 0 ≤ coV _ _ ∧ coV _ _ < 2147483648; omega)
theorem stMove_cs (S : St) (hS : WFS S) (s a b : Int) : ((stMove S s a b).1 < 0 ∧ -2 ≤ (stMove S s a b).1 ∧ (stMove S s a b).2 = S) ∨ (0 ≤ (stMove S s a b).1 ∧ (stMove S s a b).1 < 2147483648) := by
  unfold stMove
  by_cases hs : ¬ (0 ≤ s ∧ s < S.length)
  · rw [if_pos hs]
    exact Or.inl ⟨by simp, by simp, rfl⟩
  · rw [if_neg hs]
    have hs' : 0 ≤ s ∧ s < S.length := by omega
    have hc := (WFS_k hS hs').1
    split
    · exact Or.inl ⟨by simp, by simp, rfl⟩
    · next hb =>
      have hj : 0 ≤ b ∧ b < (S.getD s.toNat []).length := by omega
      have h9 := hc.2 b hj.1 hj.2
      split
      · exact Or.inl ⟨by simp, by simp, rfl⟩
      · exact Or.inr (by show 0 ≤ coX _ _ + 1 ∧ coX _ _ + 1 < 2147483648; omega)
theorem stTurn_cs (S : St) (hS : WFS S) (s : Int) : ((stTurn S s).1 < 0 ∧ -2 ≤ (stTurn S s).1 ∧ (stTurn S s).2 = S) ∨ (0 ≤ (stTurn S s).1 ∧ (stTurn S s).1 < 2147483648) := by
  unfold stTurn
  by_cases hs : ¬ (0 ≤ s ∧ s < S.length)
  · rw [if_pos hs]
    exact Or.inl ⟨by simp, by simp, rfl⟩
  · rw [if_neg hs]
    have hs' : 0 ≤ s ∧ s < S.length := by omega
    have hc := (WFS_k hS hs').1
    have h1 := coL_S (trn_cok hc (Nat.le_refl _))
    exact Or.inr (by show 0 ≤ ((coR _ : Nat) : Int) ∧ ((coR _ : Nat) : Int) < 2147483648; omega)
/-- what was read ahead of each change that can be undone, the latest first -/
def KP (m : Nat) (Wf : Int → Int) (P : List St) : Prop := ∀ i : Nat, i < m → i < P.length → Wf (((m : Nat) : Int) - 1 - ((i : Nat) : Int)) = wh (P.getD i [])
theorem KP_0 {Wf : Int → Int} {P : List St} : KP 0 Wf P := fun i h => absurd h (Nat.not_lt_zero i)
theorem KP_same {m : Nat} {Wf : Int → Int} {P : List St} {v : Int} (h : KP m Wf P) : KP m (uZ Wf ((m : Nat) : Int) v) P := fun i h1 h2 => by
  rw [uZ_ne (by omega)]
  exact h i h1 h2
theorem KP_push {m : Nat} {Wf : Int → Int} {P : List St} {S : St} {E : Int} (h : KP m Wf P) (hE : 0 ≤ E) : KP (m + 1) (uZ Wf ((m : Nat) : Int) (wh S)) (past E S P) := fun i h1 h2 => by
  rw [past_ok hE] at h2 ⊢
  have hl : ((S :: P).take 6).length ≤ 6 := by rw [List.length_take]; exact Nat.min_le_left _ _
  rw [takeD (by omega)]
  rw [List.length_take, List.length_cons] at h2
  cases i with
  | zero =>
    rw [show ((m + 1 : Nat) : Int) - 1 - ((0 : Nat) : Int) = ((m : Nat) : Int) by omega, uZ_same]
    rfl
  | succ i =>
    rw [consD, uZ_ne (by omega), show ((m + 1 : Nat) : Int) - 1 - ((i + 1 : Nat) : Int) = ((m : Nat) : Int) - 1 - ((i : Nat) : Int) by omega]
    exact h i (by omega) (by omega)
theorem KP_pop {m : Nat} {Wf : Int → Int} {T : St} {P : List St} (h : KP (m + 1) Wf (T :: P)) : Wf ((m : Nat) : Int) = wh T ∧ KP m Wf P := by
  refine ⟨?_, fun i h1 h2 => ?_⟩
  · have h0 := h 0 (by omega) (Nat.succ_pos _)
    rw [show ((m + 1 : Nat) : Int) - 1 - ((0 : Nat) : Int) = ((m : Nat) : Int) by omega] at h0
    exact h0
  · have h0 := h (i + 1) (by omega) (Nat.succ_lt_succ h2)
    rw [show ((m + 1 : Nat) : Int) - 1 - ((i + 1 : Nat) : Int) = ((m : Nat) : Int) - 1 - ((i : Nat) : Int) by omega, consD] at h0
    exact h0
theorem pop_c {P : List St} (S : St) (h : 0 < P.length) : P = P.headD S :: P.tail := by
  cases P with
  | nil => exact absurd h (Nat.lt_irrefl 0)
  | cons a l => rfl
theorem eUnd_c {P : List St} (h : 0 < P.length) : eUnd P = ((P.length - 1 : Nat) : Int) := by
  cases P with
  | nil => exact absurd h (Nat.lt_irrefl 0)
  | cons a l => rfl
theorem WF_P {W : List Int} {S : St} {P : List St} (h : WF W S P) : P.length ≤ 6 := h.2.2.1
set_option maxHeartbeats 16000000 in
set_option maxRecDepth 100000 in
theorem c_turns {l : Launch} {D : va_G} {cy : Nat → ClassId} {B N : Nat} {g : Nat → va_E} {W : List Int} {S : St} {P : List St} {M : Int} {k : Nat} (ho : OW cy B g 0 W S P M) (hN : 141 ≤ N) (hM : M < 2147470000) (hk : k < S.length) : CTi l yL_turns wsL_turns (rmo 15 387) D cy B N g [.ref (B + 0), .int (zI ((k : Nat) : Int))] 1 (fun g' => ∃ P1 : List St, OW cy B g' 0 W S P1 (M + 40) ∧ (∀ q, 141 ≤ q → g' q = g q)) := by
  refine WW_of (cc := cL_turns) (maxL := 12) (ret := (some .boolean)) (own := RL) (by decide) rfl rfl (Nat.le_of_ble_eq_true rfl) rfl ?_
  intro pp ee ss mm bl me co hmn
  have hfr_0 : ∀ q, 141 ≤ q → g q = g q := fun _ _ => rfl
  have hwf := OW_wf ho
  have hS := WF_S hwf
  have hS3 := hS.1
  have hP6 := WF_P hwf
  have hr0 := eCha_rg hS hk (law := 0) (by omega)
  have hrs := eSta_rg hS ((k : Nat) : Int) 0
  have hrw := eWay_rg hS ((k : Nat) : Int) 0
  refine w_aload_n dL_turns_0 rfl 0 rfl ?_
  refine w_calllS (As := [.ref (B + 0)]) (rest := []) (n := 1) (c_whole ho (by omega) (by omega)) gL_turns_L_whole rfl rfl rfl (by decide +kernel) ⟨(Nat.le_of_ble_eq_true rfl), (Nat.le_of_ble_eq_true rfl)⟩ rfl (Nat.le_of_ble_eq_true rfl) ⟨Nat.zero_le _, Nat.zero_le _⟩ dL_turns_1 rfl (fun g_1 hp_2 => ?_)
  obtain ⟨ho_3, hf_4⟩ := hp_2
  have hfr_5 : ∀ q, 141 ≤ q → g_1 q = g q := fun q hq => (hf_4 q (by omega)).trans (hfr_0 q hq)
  refine w_lstore_n [(2, .long (zJ (wh S))), (0, .ref (B + 0)), (1, .int (zI ((k : Nat) : Int)))] dL_turns_4 rfl (by decide) rfl ?_
  refine w_aload_n dL_turns_5 rfl 1 rfl ?_
  refine w_iload_n dL_turns_6 rfl 2 rfl ?_
  refine w_iconst dL_turns_7 ?_
  refine w_iconst dL_turns_8 ?_
  obtain ⟨fx_8, hfx_8⟩ := OW_0 ho_3
  refine w_calll (As := [.int (zI ((k : Nat) : Int)), .int (zI 0), .int (zI 0)]) (rest := []) (n := 3) (a_chance (s := ((k : Nat) : Int)) (law := 0) (part := 0) ho_3 (by omega) (by omega) ⟨by omega, by omega⟩ ⟨by omega, by omega⟩ ⟨by omega, by omega⟩) gL_turns_X10_chance rfl rfl rfl (by decide +kernel) ⟨(Nat.le_of_ble_eq_true rfl), (Nat.le_of_ble_eq_true rfl)⟩ rfl (by omega) hfx_8 rfl (Nat.le_of_ble_eq_true rfl) ⟨Nat.zero_le _, Nat.zero_le _⟩ dL_turns_9 rfl (fun g_6 hp_7 => ?_)
  obtain ⟨ho_9, hf_10⟩ := hp_7
  have hfr_11 : ∀ q, 141 ≤ q → g_6 q = g q := fun q hq => (hf_10 q (by omega)).trans (hfr_5 q hq)
  refine w_lstore [(4, .long (zJ (eCha S ((k : Nat) : Int) 0 0))), (2, .long (zJ (wh S))), (0, .ref (B + 0)), (1, .int (zI ((k : Nat) : Int)))] dL_turns_12 (by decide) rfl ?_
  refine w_aload_n dL_turns_14 rfl 2 rfl ?_
  refine w_iload_n dL_turns_15 rfl 3 rfl ?_
  refine w_iconst dL_turns_16 ?_
  refine w_iconst dL_turns_17 ?_
  obtain ⟨fx_14, hfx_14⟩ := OW_0 ho_9
  refine w_calll (As := [.int (zI ((k : Nat) : Int)), .int (zI 0), .int (zI 1)]) (rest := []) (n := 3) (a_chance (s := ((k : Nat) : Int)) (law := 0) (part := 1) ho_9 (by omega) (by omega) ⟨by omega, by omega⟩ ⟨by omega, by omega⟩ ⟨by omega, by omega⟩) gL_turns_X10_chance rfl rfl rfl (by decide +kernel) ⟨(Nat.le_of_ble_eq_true rfl), (Nat.le_of_ble_eq_true rfl)⟩ rfl (by omega) hfx_14 rfl (Nat.le_of_ble_eq_true rfl) ⟨Nat.zero_le _, Nat.zero_le _⟩ dL_turns_18 rfl (fun g_12 hp_13 => ?_)
  obtain ⟨ho_15, hf_16⟩ := hp_13
  have hfr_17 : ∀ q, 141 ≤ q → g_12 q = g q := fun q hq => (hf_16 q (by omega)).trans (hfr_11 q hq)
  refine w_lstore [(6, .long (zJ (eCha S ((k : Nat) : Int) 0 1))), (4, .long (zJ (eCha S ((k : Nat) : Int) 0 0))), (2, .long (zJ (wh S))), (0, .ref (B + 0)), (1, .int (zI ((k : Nat) : Int)))] dL_turns_21 (by decide) rfl ?_
  refine w_aload_n dL_turns_23 rfl 3 rfl ?_
  refine w_iload_n dL_turns_24 rfl 4 rfl ?_
  refine w_iconst dL_turns_25 ?_
  obtain ⟨fx_20, hfx_20⟩ := OW_0 ho_15
  refine w_calll (As := [.int (zI ((k : Nat) : Int)), .int (zI 0)]) (rest := []) (n := 2) (a_ways (s := ((k : Nat) : Int)) (what := 0) ho_15 (by omega) (by omega) ⟨by omega, by omega⟩ ⟨by omega, by omega⟩) gL_turns_X10_ways rfl rfl rfl (by decide +kernel) ⟨(Nat.le_of_ble_eq_true rfl), (Nat.le_of_ble_eq_true rfl)⟩ rfl (by omega) hfx_20 rfl (Nat.le_of_ble_eq_true rfl) ⟨Nat.zero_le _, Nat.zero_le _⟩ dL_turns_26 rfl (fun g_18 hp_19 => ?_)
  obtain ⟨ho_21, hf_22⟩ := hp_19
  have hfr_23 : ∀ q, 141 ≤ q → g_18 q = g q := fun q hq => (hf_22 q (by omega)).trans (hfr_17 q hq)
  refine w_lstore [(8, .long (zJ (eWay S ((k : Nat) : Int) 0))), (6, .long (zJ (eCha S ((k : Nat) : Int) 0 1))), (4, .long (zJ (eCha S ((k : Nat) : Int) 0 0))), (2, .long (zJ (wh S))), (0, .ref (B + 0)), (1, .int (zI ((k : Nat) : Int)))] dL_turns_29 (by decide) rfl ?_
  refine w_aload_n dL_turns_31 rfl 4 rfl ?_
  refine w_iload_n dL_turns_32 rfl 5 rfl ?_
  refine w_iconst dL_turns_33 ?_
  obtain ⟨fx_26, hfx_26⟩ := OW_0 ho_21
  refine w_calli (As := [.int (zI ((k : Nat) : Int)), .int (zI 1)]) (rest := []) (n := 2) (a_stratum (s := ((k : Nat) : Int)) (what := 1) ho_21 (by omega) (by omega) ⟨by omega, by omega⟩ ⟨by omega, by omega⟩) gL_turns_X10_stratum rfl rfl rfl (by decide +kernel) ⟨(Nat.le_of_ble_eq_true rfl), (Nat.le_of_ble_eq_true rfl)⟩ rfl (by omega) hfx_26 rfl (Nat.le_of_ble_eq_true rfl) ⟨Nat.zero_le _, Nat.zero_le _⟩ dL_turns_34 rfl (fun g_24 hp_25 => ?_)
  obtain ⟨ho_27, hf_28⟩ := hp_25
  have hfr_29 : ∀ q, 141 ≤ q → g_24 q = g q := fun q hq => (hf_28 q (by omega)).trans (hfr_23 q hq)
  refine w_aload_n dL_turns_37 rfl 4 rfl ?_
  refine w_iload_n dL_turns_38 rfl 5 rfl ?_
  refine w_iconst dL_turns_39 ?_
  obtain ⟨fx_32, hfx_32⟩ := OW_0 ho_27
  refine w_calli (As := [.int (zI ((k : Nat) : Int)), .int (zI 2)]) (rest := [.int (zI (eStr S ((k : Nat) : Int) 1))]) (n := 2) (a_stratum (s := ((k : Nat) : Int)) (what := 2) ho_27 (by omega) (by omega) ⟨by omega, by omega⟩ ⟨by omega, by omega⟩) gL_turns_X10_stratum rfl rfl rfl (by decide +kernel) ⟨(Nat.le_of_ble_eq_true rfl), (Nat.le_of_ble_eq_true rfl)⟩ rfl (by omega) hfx_32 rfl (Nat.le_of_ble_eq_true rfl) ⟨Nat.zero_le _, Nat.zero_le _⟩ dL_turns_40 rfl (fun g_30 hp_31 => ?_)
  obtain ⟨ho_33, hf_34⟩ := hp_31
  have hfr_35 : ∀ q, 141 ≤ q → g_30 q = g q := fun q hq => (hf_34 q (by omega)).trans (hfr_29 q hq)
  refine w_isub dL_turns_43 ?_
  refine w_as (st' := [.int (zI ((coR (trn (S.getD k []) (S.getD k []).length) : Nat) : Int))]) (sc_i (turn_n hS hk) rfl) ?_
  refine w_istore [(10, .int (zI ((coR (trn (S.getD k []) (S.getD k []).length) : Nat) : Int))), (8, .long (zJ (eWay S ((k : Nat) : Int) 0))), (6, .long (zJ (eCha S ((k : Nat) : Int) 0 1))), (4, .long (zJ (eCha S ((k : Nat) : Int) 0 0))), (2, .long (zJ (wh S))), (0, .ref (B + 0)), (1, .int (zI ((k : Nat) : Int)))] dL_turns_44 (by decide) rfl ?_
  refine w_aload_n dL_turns_46 rfl 5 rfl ?_
  refine w_iload_n dL_turns_47 rfl 6 rfl ?_
  refine w_iconst dL_turns_48 ?_
  obtain ⟨fx_38, hfx_38⟩ := OW_0 ho_33
  refine w_calli (As := [.int (zI ((k : Nat) : Int)), .int (zI 0)]) (rest := []) (n := 2) (a_strange (s := ((k : Nat) : Int)) (law := 0) ho_33 (by omega) (by omega) ⟨by omega, by omega⟩ ⟨by omega, by omega⟩) gL_turns_X10_strange rfl rfl rfl (by decide +kernel) ⟨(Nat.le_of_ble_eq_true rfl), (Nat.le_of_ble_eq_true rfl)⟩ rfl (by omega) hfx_38 rfl (Nat.le_of_ble_eq_true rfl) ⟨Nat.zero_le _, Nat.zero_le _⟩ dL_turns_49 rfl (fun g_36 hp_37 => ?_)
  obtain ⟨ho_39, hf_40⟩ := hp_37
  have hfr_41 : ∀ q, 141 ≤ q → g_36 q = g q := fun q hq => (hf_40 q (by omega)).trans (hfr_35 q hq)
  refine w_istore [(11, .int (zI (eSta S ((k : Nat) : Int) 0))), (10, .int (zI ((coR (trn (S.getD k []) (S.getD k []).length) : Nat) : Int))), (8, .long (zJ (eWay S ((k : Nat) : Int) 0))), (6, .long (zJ (eCha S ((k : Nat) : Int) 0 1))), (4, .long (zJ (eCha S ((k : Nat) : Int) 0 0))), (2, .long (zJ (wh S))), (0, .ref (B + 0)), (1, .int (zI ((k : Nat) : Int)))] dL_turns_52 (by decide) rfl ?_
  refine w_aload_n dL_turns_54 rfl 6 rfl ?_
  refine w_iload_n dL_turns_55 rfl 7 rfl ?_
  obtain ⟨fx_44, hfx_44⟩ := OW_0 ho_39
  refine w_calli (As := [.int (zI ((k : Nat) : Int))]) (rest := []) (n := 1) (a_turn (s := ((k : Nat) : Int)) ho_39 (by omega) (by omega) ⟨by omega, by omega⟩) gL_turns_X10_turn rfl rfl rfl (by decide +kernel) ⟨(Nat.le_of_ble_eq_true rfl), (Nat.le_of_ble_eq_true rfl)⟩ rfl (by omega) hfx_44 rfl (Nat.le_of_ble_eq_true rfl) ⟨Nat.zero_le _, Nat.zero_le _⟩ dL_turns_56 rfl (fun g_42 hp_43 => ?_)
  obtain ⟨ho_45, hf_46⟩ := hp_43
  have hfr_47 : ∀ q, 141 ≤ q → g_42 q = g q := fun q hq => (hf_46 q (by omega)).trans (hfr_41 q hq)
  have ho_48 : OW cy B g_42 0 W (S.set k (trn (S.getD k []) (S.getD k []).length)) ((S :: P).take 6) (M + 20) := by have h9 := ho_45; rw [stTurn_at hk, past_ok (Int.natCast_nonneg _)] at h9; exact h9
  refine w_as (st' := [.int (zI ((coR (trn (S.getD k []) (S.getD k []).length) : Nat) : Int))]) (sc_i (by rw [stTurn_at hk]) rfl) ?_
  refine w_iload dL_turns_59 1 rfl ?_
  refine w_icmp_neS 113 dL_turns_61 (by decide) ?_
  refine w_aload_n dL_turns_64 rfl 6 rfl ?_
  refine w_iload_n dL_turns_65 rfl 7 rfl ?_
  refine w_iconst dL_turns_66 ?_
  refine w_iconst dL_turns_67 ?_
  obtain ⟨fx_51, hfx_51⟩ := OW_0 ho_48
  refine w_calll (As := [.int (zI ((k : Nat) : Int)), .int (zI 0), .int (zI 0)]) (rest := []) (n := 3) (a_chance (s := ((k : Nat) : Int)) (law := 0) (part := 0) ho_48 (by omega) (by omega) ⟨by omega, by omega⟩ ⟨by omega, by omega⟩ ⟨by omega, by omega⟩) gL_turns_X10_chance rfl rfl rfl (by decide +kernel) ⟨(Nat.le_of_ble_eq_true rfl), (Nat.le_of_ble_eq_true rfl)⟩ rfl (by omega) hfx_51 rfl (Nat.le_of_ble_eq_true rfl) ⟨Nat.zero_le _, Nat.zero_le _⟩ dL_turns_68 rfl (fun g_49 hp_50 => ?_)
  obtain ⟨ho_52, hf_53⟩ := hp_50
  have hfr_54 : ∀ q, 141 ≤ q → g_49 q = g q := fun q hq => (hf_53 q (by omega)).trans (hfr_47 q hq)
  refine w_as (st' := [.long (zJ (eCha S ((k : Nat) : Int) 0 0))]) (sc_l (turn_cha hS hk (by omega)) rfl) ?_
  refine w_lload dL_turns_71 4 rfl ?_
  refine w_lcmp_neS 113 dL_turns_73 dL_turns_74 (by decide) ?_
  refine w_aload_n dL_turns_77 rfl 6 rfl ?_
  refine w_iload_n dL_turns_78 rfl 7 rfl ?_
  refine w_iconst dL_turns_79 ?_
  refine w_iconst dL_turns_80 ?_
  obtain ⟨fx_57, hfx_57⟩ := OW_0 ho_52
  refine w_calll (As := [.int (zI ((k : Nat) : Int)), .int (zI 0), .int (zI 1)]) (rest := []) (n := 3) (a_chance (s := ((k : Nat) : Int)) (law := 0) (part := 1) ho_52 (by omega) (by omega) ⟨by omega, by omega⟩ ⟨by omega, by omega⟩ ⟨by omega, by omega⟩) gL_turns_X10_chance rfl rfl rfl (by decide +kernel) ⟨(Nat.le_of_ble_eq_true rfl), (Nat.le_of_ble_eq_true rfl)⟩ rfl (by omega) hfx_57 rfl (Nat.le_of_ble_eq_true rfl) ⟨Nat.zero_le _, Nat.zero_le _⟩ dL_turns_81 rfl (fun g_55 hp_56 => ?_)
  obtain ⟨ho_58, hf_59⟩ := hp_56
  have hfr_60 : ∀ q, 141 ≤ q → g_55 q = g q := fun q hq => (hf_59 q (by omega)).trans (hfr_54 q hq)
  refine w_as (st' := [.long (zJ (eCha S ((k : Nat) : Int) 0 1))]) (sc_l (turn_cha hS hk (by omega)) rfl) ?_
  refine w_lload dL_turns_84 3 rfl ?_
  refine w_lcmp_neS 113 dL_turns_86 dL_turns_87 (by decide) ?_
  refine w_aload_n dL_turns_90 rfl 6 rfl ?_
  refine w_iload_n dL_turns_91 rfl 7 rfl ?_
  refine w_iconst dL_turns_92 ?_
  obtain ⟨fx_63, hfx_63⟩ := OW_0 ho_58
  refine w_calli (As := [.int (zI ((k : Nat) : Int)), .int (zI 0)]) (rest := []) (n := 2) (a_strange (s := ((k : Nat) : Int)) (law := 0) ho_58 (by omega) (by omega) ⟨by omega, by omega⟩ ⟨by omega, by omega⟩) gL_turns_X10_strange rfl rfl rfl (by decide +kernel) ⟨(Nat.le_of_ble_eq_true rfl), (Nat.le_of_ble_eq_true rfl)⟩ rfl (by omega) hfx_63 rfl (Nat.le_of_ble_eq_true rfl) ⟨Nat.zero_le _, Nat.zero_le _⟩ dL_turns_93 rfl (fun g_61 hp_62 => ?_)
  obtain ⟨ho_64, hf_65⟩ := hp_62
  have hfr_66 : ∀ q, 141 ≤ q → g_61 q = g q := fun q hq => (hf_65 q (by omega)).trans (hfr_60 q hq)
  refine w_as (st' := [.int (zI (eSta S ((k : Nat) : Int) 0))]) (sc_i (turn_sta hS hk) rfl) ?_
  refine w_iload dL_turns_96 0 rfl ?_
  refine w_icmp_neS 113 dL_turns_98 (by decide) ?_
  refine w_aload_n dL_turns_101 rfl 6 rfl ?_
  refine w_iload_n dL_turns_102 rfl 7 rfl ?_
  refine w_iconst dL_turns_103 ?_
  obtain ⟨fx_69, hfx_69⟩ := OW_0 ho_64
  refine w_calll (As := [.int (zI ((k : Nat) : Int)), .int (zI 0)]) (rest := []) (n := 2) (a_ways (s := ((k : Nat) : Int)) (what := 0) ho_64 (by omega) (by omega) ⟨by omega, by omega⟩ ⟨by omega, by omega⟩) gL_turns_X10_ways rfl rfl rfl (by decide +kernel) ⟨(Nat.le_of_ble_eq_true rfl), (Nat.le_of_ble_eq_true rfl)⟩ rfl (by omega) hfx_69 rfl (Nat.le_of_ble_eq_true rfl) ⟨Nat.zero_le _, Nat.zero_le _⟩ dL_turns_104 rfl (fun g_67 hp_68 => ?_)
  obtain ⟨ho_70, hf_71⟩ := hp_68
  have hfr_72 : ∀ q, 141 ≤ q → g_67 q = g q := fun q hq => (hf_71 q (by omega)).trans (hfr_66 q hq)
  refine w_as (st' := [.long (zJ (eWay S ((k : Nat) : Int) 0))]) (sc_l (turn_way hS hk) rfl) ?_
  refine w_lload dL_turns_107 2 rfl ?_
  refine w_lcmp_eqS 115 dL_turns_109 dL_turns_110 (by decide) ?_
  refine w_aload_n dL_turns_115 rfl 6 rfl ?_
  obtain ⟨fx_75, hfx_75⟩ := OW_0 ho_70
  refine w_calli (As := []) (rest := []) (n := 0) (a_undo ho_70 (by omega) (by omega)) gL_turns_X10_undo rfl rfl rfl (by decide +kernel) ⟨(Nat.le_of_ble_eq_true rfl), (Nat.le_of_ble_eq_true rfl)⟩ rfl (by omega) hfx_75 rfl (Nat.le_of_ble_eq_true rfl) ⟨Nat.zero_le _, Nat.zero_le _⟩ dL_turns_116 rfl (fun g_73 hp_74 => ?_)
  obtain ⟨ho_76, hf_77⟩ := hp_74
  have hfr_78 : ∀ q, 141 ≤ q → g_73 q = g q := fun q hq => (hf_77 q (by omega)).trans (hfr_72 q hq)
  have hl6 := take6_len (S := S) hP6
  have ho_79 : OW cy B g_73 0 W S (((S :: P).take 6).tail) ((M + 20) + 20) := by have h9 := ho_76; exact h9
  refine w_as (st' := [.int (zI ((((S :: P).take 6).length - 1 : Nat) : Int))]) (sc_i (eUnd_c (by rw [take6_len hP6]; omega)) rfl) ?_
  refine w_if_lt 135 dL_turns_119 (by decide) (by omega) (fun c_119 => ?_) (fun c_119 => ?_)
  · exfalso; omega
  · refine w_aload_n dL_turns_122 rfl 6 rfl ?_
    refine w_calllS (As := [.ref (B + 0)]) (rest := []) (n := 1) (c_whole ho_79 (by omega) (by omega)) gL_turns_L_whole rfl rfl rfl (by decide +kernel) ⟨(Nat.le_of_ble_eq_true rfl), (Nat.le_of_ble_eq_true rfl)⟩ rfl (Nat.le_of_ble_eq_true rfl) ⟨Nat.zero_le _, Nat.zero_le _⟩ dL_turns_123 rfl (fun g_80 hp_81 => ?_)
    obtain ⟨ho_82, hf_83⟩ := hp_81
    have hfr_84 : ∀ q, 141 ≤ q → g_80 q = g q := fun q hq => (hf_83 q (by omega)).trans (hfr_78 q hq)
    refine w_lload_n dL_turns_126 rfl 5 rfl ?_
    refine w_lcmp_neS 135 dL_turns_127 dL_turns_128 (by decide) ?_
    refine w_iconst dL_turns_131 ?_
    refine w_goto 136 dL_turns_132 (by decide) ?_
    exact w_zret dL_turns_136 rfl rfl (by rfl) ⟨(((S :: P).take 6).tail), (by have h9 := ho_82; exact OW_up h9 (by omega)), hfr_84⟩

set_option maxHeartbeats 32000000 in
set_option maxRecDepth 100000 in
theorem c_undoes {l : Launch} {D : va_G} {cy : Nat → ClassId} {B N : Nat} {g : Nat → va_E} {b L : Nat} {xs : Nat → Int32} {W : List Int} {S : St} {P : List St} {M : Int} {F : Int → Int} {fb : Nat} {from1 : Int} (ho : OW cy B g 0 W S P M) (hf : vIA cy B g fb 64 F) (hN : 141 ≤ N) (hM : M < 2147470000) (hL : L ≤ 260) (hfb : 141 ≤ fb ∧ fb < N) (hF0 : 1 ≤ F 0 ∧ F 0 ≤ 3) (hfm : 0 ≤ from1 ∧ from1 ≤ 1000) : CTiX l yL_undoes wsL_undoes (rmc 8 209 1 12) D cy B N g b L xs [.ref (B + 0), .ref b, .int (zI from1), .ref (B + fb)] 1 1 12 (fun g' => ∃ S1 : St, ∃ P1 : List St, OW cy B g' 0 W S1 P1 (M + 320) ∧ (∀ q, 141 ≤ q ∧ q < N → g' q = g q)) := by
  refine WW_ofX (cc := cL_undoes) (maxL := 14) (ret := (some .boolean)) (own := RL) (by decide) rfl rfl (Nat.le_of_ble_eq_true rfl) rfl ?_
  intro pp ee ss mm bl me co hmn hsx
  have hfr_0 : ∀ q, 141 ≤ q ∧ q < N → g q = g q := fun _ _ => rfl
  have hwf0 := OW_wf ho
  have hP06 := WF_P hwf0
  refine w_bipush dL_undoes_0 (by decide) ?_
  refine w_newJ (n := 12) (by omega) (by omega) (List.mem_of_getElem? (i := 1) rfl) (Nat.le_of_ble_eq_true rfl) (Nat.le_of_ble_eq_true rfl) dL_undoes_2 (fun g_1 he_2 hn_3 => ?_)
  have ho_4 : OW cy B g_1 0 W S P M := OW_fr ho (fun q h1 h2 => hn_3 q (by omega))
  have hf_5 : vIA cy B g_1 fb 64 F := vIA_fr hf (fun q h1 h2 => hn_3 q (by omega))
  have hfr_6 : ∀ q, 141 ≤ q ∧ q < N → g_1 q = g q := fun q hq => (hn_3 q (by omega)).trans (hfr_0 q hq)
  have ha0_7 : vLA cy B g_1 N 12 (fun _ => 0) := he_2
  refine w_astore [(4, .ref (B + N)), (0, .ref (B + 0)), (1, .ref b), (2, .int (zI from1)), (3, .ref (B + fb))] dL_undoes_4 (by decide) rfl ?_
  refine w_iconst dL_undoes_6 ?_
  refine w_istore [(5, .int (zI 0)), (4, .ref (B + N)), (0, .ref (B + 0)), (1, .ref b), (2, .int (zI from1)), (3, .ref (B + fb))] dL_undoes_7 (by decide) rfl ?_
  refine w_aload_n dL_undoes_9 rfl 2 rfl ?_
  refine w_iconst dL_undoes_10 ?_
  obtain ⟨fx_10, hfx_10⟩ := OW_0 ho_4
  refine w_calli (As := [.int (zI 5)]) (rest := []) (n := 1) (a_count (what := 5) ho_4 (by omega) (by omega) ⟨by omega, by omega⟩) gL_undoes_X10_count rfl rfl rfl (by decide +kernel) ⟨(Nat.le_of_ble_eq_true rfl), (Nat.le_of_ble_eq_true rfl)⟩ rfl (by omega) hfx_10 rfl (Nat.le_of_ble_eq_true rfl) ⟨(Nat.le_of_ble_eq_true rfl), (Nat.le_of_ble_eq_true rfl)⟩ dL_undoes_11 rfl (fun g_8 hp_9 => ?_)
  obtain ⟨ho_11, hf_12⟩ := hp_9
  have hf_13 : vIA cy B g_8 fb 64 F := vIA_fr hf_5 (fun q h1 h2 => hf_12 q (by omega))
  have ha0_14 : vLA cy B g_8 N 12 (fun _ => 0) := vLA_fr ha0_7 (fun q h1 h2 => hf_12 q (by omega))
  have hfr_15 : ∀ q, 141 ≤ q ∧ q < N → g_8 q = g q := fun q hq => (hf_12 q (by omega)).trans (hfr_6 q hq)
  refine w_as (st' := [.int (zI ((P.length : Nat) : Int))]) (sc_i rfl rfl) ?_
  refine w_istore [(6, .int (zI ((P.length : Nat) : Int))), (5, .int (zI 0)), (4, .ref (B + N)), (0, .ref (B + 0)), (1, .ref b), (2, .int (zI from1)), (3, .ref (B + fb))] dL_undoes_14 (by decide) rfl ?_
  refine w_iconst dL_undoes_16 ?_
  refine w_istore [(7, .int (zI 0)), (6, .int (zI ((P.length : Nat) : Int))), (5, .int (zI 0)), (4, .ref (B + N)), (0, .ref (B + 0)), (1, .ref b), (2, .int (zI from1)), (3, .ref (B + fb))] dL_undoes_17 (by decide) rfl ?_
  refine w_sub [(0, .ref (B + 0)), (1, .ref b), (2, .int (zI from1)), (3, .ref (B + fb)), (4, .ref (B + N)), (5, .int (zI 0)), (6, .int (zI ((P.length : Nat) : Int))), (7, .int (zI 0))] [4, 5, 6, 7, 3, 2, 1, 0] rfl ?_
  refine w_lv (lv' := [(0, .ref (B + 0)), (1, .ref b), (2, .int (zI from1)), (3, .ref (B + fb)), (4, .ref (B + N)), (5, .int (zI ((0 : Nat) : Int))), (6, .int (zI ((P.length : Nat) : Int))), (7, .int (zI ((0 : Nat) : Int)))]) (lc_s (lc_s (lc_s (lc_s (lc_s (lc_i (by first | omega | with_reducible rfl) (lc_s (lc_i (by first | omega | with_reducible rfl) rfl)))))))) ?_
  refine w_loop6 (fun (k : Nat) (m : Nat) (S1 : St) (P1 : List St) (Wf : Int → Int) (gl_16 : (Nat → va_E)) => OW cy B gl_16 0 W S1 P1 (M + (20 * ((k : Nat) : Int))) ∧ vIA cy B gl_16 fb 64 F ∧ vLA cy B gl_16 N 12 Wf ∧ (∀ q, 141 ≤ q ∧ q < N → gl_16 q = g q) ∧ k ≤ 9 ∧ m ≤ k ∧ KP m Wf P1 ∧ P1.length = min (P.length + m) 6) (fun (k : Nat) (m : Nat) (S1 : St) (P1 : List St) (Wf : Int → Int) (gl_16 : (Nat → va_E)) => 9 - k) (fun (k : Nat) (m : Nat) (S1 : St) (P1 : List St) (Wf : Int → Int) (gl_16 : (Nat → va_E)) => gl_16) (fun (k : Nat) (m : Nat) (S1 : St) (P1 : List St) (Wf : Int → Int) (gl_16 : (Nat → va_E)) => [(0, .ref (B + 0)), (1, .ref b), (2, .int (zI from1)), (3, .ref (B + fb)), (4, .ref (B + N)), (5, .int (zI ((m : Nat) : Int))), (6, .int (zI ((P.length : Nat) : Int))), (7, .int (zI ((k : Nat) : Int)))]) ?_ 0 0 S P (fun _ => 0) g_8 ⟨(by have h9 := ho_11; exact OW_up h9 (by omega)), hf_13, ha0_14, hfr_15, (by first | omega | with_reducible rfl), (by first | omega | with_reducible rfl), KP_0, (by omega)⟩
  rintro k m S1 P1 Wf gl_16 ⟨ho_17, hf_18, ha0_19, hfr_20, hk, hm, hK, hPl⟩ ih_19
  refine w_iload dL_undoes_19 7 rfl ?_
  refine w_bipush dL_undoes_21 (by decide) ?_
  refine w_icmp_ge 220 dL_undoes_23 (by decide) (by first | omega | with_reducible rfl) (by first | omega | with_reducible rfl) (fun c_23 => ?_) (fun c_23 => ?_)
  · refine w_iload dL_undoes_220 6 rfl ?_
    refine w_iload dL_undoes_222 5 rfl ?_
    refine w_iadd dL_undoes_224 ?_
    refine w_bipush dL_undoes_225 (by decide) ?_
    refine w_icmp_ge 238 dL_undoes_227 (by decide) (by omega) (by omega) (fun c_227 => ?_) (fun c_227 => ?_)
    · refine w_bipush dL_undoes_238 (by decide) ?_
      refine w_istore [(7, .int (zI 6)), (0, .ref (B + 0)), (1, .ref b), (2, .int (zI from1)), (3, .ref (B + fb)), (4, .ref (B + N)), (5, .int (zI ((m : Nat) : Int))), (6, .int (zI ((P.length : Nat) : Int)))] dL_undoes_240 (by decide) rfl ?_
      refine w_aload_n dL_undoes_242 rfl 1 rfl ?_
      refine w_iconst dL_undoes_243 ?_
      obtain ⟨fx_23, hfx_23⟩ := OW_0 ho_17
      refine w_calli (As := [.int (zI 5)]) (rest := []) (n := 1) (a_count (what := 5) ho_17 (by omega) (by omega) ⟨by omega, by omega⟩) gL_undoes_X10_count rfl rfl rfl (by decide +kernel) ⟨(Nat.le_of_ble_eq_true rfl), (Nat.le_of_ble_eq_true rfl)⟩ rfl (by omega) hfx_23 rfl (Nat.le_of_ble_eq_true rfl) ⟨(Nat.le_of_ble_eq_true rfl), (Nat.le_of_ble_eq_true rfl)⟩ dL_undoes_244 rfl (fun g_21 hp_22 => ?_)
      obtain ⟨ho_24, hf_25⟩ := hp_22
      have hf_26 : vIA cy B g_21 fb 64 F := vIA_fr hf_18 (fun q h1 h2 => hf_25 q (by omega))
      have ha0_27 : vLA cy B g_21 N 12 Wf := vLA_fr ha0_19 (fun q h1 h2 => hf_25 q (by omega))
      have hfr_28 : ∀ q, 141 ≤ q ∧ q < N → g_21 q = g q := fun q hq => (hf_25 q (by omega)).trans (hfr_20 q hq)
      refine w_iload dL_undoes_247 0 rfl ?_
      refine w_as (st' := [.int (zI 6), .int (zI ((P1.length : Nat) : Int))]) (lc_s (sc_i rfl rfl)) ?_
      refine w_icmp_eq 254 dL_undoes_249 (by decide) (by omega) (by omega) (fun c_249 => ?_) (fun c_249 => ?_)
      · refine w_lv (lv' := [(7, .int (zI ((P1.length : Nat) : Int))), (0, .ref (B + 0)), (1, .ref b), (2, .int (zI from1)), (3, .ref (B + fb)), (4, .ref (B + N)), (5, .int (zI ((m : Nat) : Int))), (6, .int (zI ((P.length : Nat) : Int)))]) (lc_i (by omega) (lc_s (lc_s (lc_s (lc_s (lc_s (lc_s (lc_s rfl)))))))) ?_
        refine w_iconst dL_undoes_254 ?_
        refine w_istore [(8, .int (zI 1)), (7, .int (zI ((P1.length : Nat) : Int))), (0, .ref (B + 0)), (1, .ref b), (2, .int (zI from1)), (3, .ref (B + fb)), (4, .ref (B + N)), (5, .int (zI ((m : Nat) : Int))), (6, .int (zI ((P.length : Nat) : Int)))] dL_undoes_255 (by decide) rfl ?_
        refine w_sub [(0, .ref (B + 0)), (4, .ref (B + N)), (5, .int (zI ((m : Nat) : Int))), (7, .int (zI ((P1.length : Nat) : Int))), (8, .int (zI 1))] [2, 6, 7, 1, 0] rfl ?_
        refine w_lv (lv' := [(0, .ref (B + 0)), (4, .ref (B + N)), (5, .int (zI ((m : Nat) : Int))), (7, .int (zI ((P1.length : Nat) : Int))), (8, .int (zI (((0 : Nat) : Int) + 1)))]) (lc_s (lc_s (lc_s (lc_s (lc_i (by omega) rfl))))) ?_
        refine w_loop4 (fun (t : Nat) (S2 : St) (P2 : List St) (gl_29 : (Nat → va_E)) => OW cy B gl_29 0 W S2 P2 ((M + 180) + (20 * ((t : Nat) : Int))) ∧ vIA cy B gl_29 fb 64 F ∧ vLA cy B gl_29 N 12 Wf ∧ (∀ q, 141 ≤ q ∧ q < N → gl_29 q = g q) ∧ (t ≤ m ∧ t ≤ P1.length) ∧ KP (m - t) Wf P2 ∧ P2.length = P1.length - t) (fun (t : Nat) (S2 : St) (P2 : List St) (gl_29 : (Nat → va_E)) => P1.length - t) (fun (t : Nat) (S2 : St) (P2 : List St) (gl_29 : (Nat → va_E)) => gl_29) (fun (t : Nat) (S2 : St) (P2 : List St) (gl_29 : (Nat → va_E)) => [(0, .ref (B + 0)), (4, .ref (B + N)), (5, .int (zI ((m : Nat) : Int))), (7, .int (zI ((P1.length : Nat) : Int))), (8, .int (zI (((t : Nat) : Int) + 1)))]) ?_ 0 S1 P1 g_21 ⟨(by have h9 := ho_24; exact OW_up h9 (by omega)), hf_26, ha0_27, hfr_28, ⟨Nat.zero_le _, Nat.zero_le _⟩, hK, rfl⟩
        rintro t S2 P2 gl_29 ⟨ho_30, hf_31, ha0_32, hfr_33, ht, hK2, hP2⟩ ih_257
        refine w_iload dL_undoes_257 4 rfl ?_
        refine w_iload dL_undoes_259 2 rfl ?_
        refine w_icmp_gt 307 dL_undoes_261 (by decide) (by omega) (by omega) (fun c_261 => ?_) (fun c_261 => ?_)
        · refine w_iconst dL_undoes_307 ?_
          exact w_zret dL_undoes_308 rfl rfl (by rfl) ⟨S2, P2, (by have h9 := ho_30; exact OW_up h9 (by omega)), hfr_33⟩
        · refine w_iload dL_undoes_264 4 rfl ?_
          refine w_iload dL_undoes_266 3 rfl ?_
          refine w_icmp_gt 307 dL_undoes_268 (by decide) (by omega) (by omega) (fun c_268 => ?_) (fun c_268 => ?_)
          · refine w_iconst dL_undoes_307 ?_
            exact w_zret dL_undoes_308 rfl rfl (by rfl) ⟨S2, P2, (by have h9 := ho_30; exact OW_up h9 (by omega)), hfr_33⟩
          · obtain ⟨hkp1, hkp2⟩ : Wf ((m - (t + 1) : Nat) : Int) = wh (P2.headD S2) ∧ KP (m - (t + 1)) Wf P2.tail := by
                                                            have h7 := hK2
                                                            rw [pop_c S2 (show 0 < P2.length by omega), show m - t = (m - (t + 1)) + 1 by omega] at h7
                                                            exact KP_pop h7
            refine w_aload_n dL_undoes_271 rfl 0 rfl ?_
            obtain ⟨fx_36, hfx_36⟩ := OW_0 ho_30
            refine w_calli (As := []) (rest := []) (n := 0) (a_undo ho_30 (by omega) (by omega)) gL_undoes_X10_undo rfl rfl rfl (by decide +kernel) ⟨(Nat.le_of_ble_eq_true rfl), (Nat.le_of_ble_eq_true rfl)⟩ rfl (by omega) hfx_36 rfl (Nat.le_of_ble_eq_true rfl) ⟨(Nat.le_of_ble_eq_true rfl), (Nat.le_of_ble_eq_true rfl)⟩ dL_undoes_272 rfl (fun g_34 hp_35 => ?_)
            obtain ⟨ho_37, hf_38⟩ := hp_35
            have hf_39 : vIA cy B g_34 fb 64 F := vIA_fr hf_31 (fun q h1 h2 => hf_38 q (by omega))
            have ha0_40 : vLA cy B g_34 N 12 Wf := vLA_fr ha0_32 (fun q h1 h2 => hf_38 q (by omega))
            have hfr_41 : ∀ q, 141 ≤ q ∧ q < N → g_34 q = g q := fun q hq => (hf_38 q (by omega)).trans (hfr_33 q hq)
            refine w_as (st' := [.int (zI ((P2.length - 1 : Nat) : Int))]) (sc_i (eUnd_c (by omega)) rfl) ?_
            refine w_iload dL_undoes_275 3 rfl ?_
            refine w_iload dL_undoes_277 4 rfl ?_
            refine w_isub dL_undoes_279 ?_
            refine w_icmp_ne 299 dL_undoes_280 (by decide) (by omega) (by omega) (fun c_280 => ?_) (fun c_280 => ?_)
            · exfalso; omega
            · refine w_aload_n dL_undoes_283 rfl 0 rfl ?_
              refine w_calllS (As := [.ref (B + 0)]) (rest := []) (n := 1) (c_whole ho_37 (by omega) (by omega)) gL_undoes_L_whole rfl rfl rfl (by decide +kernel) ⟨(Nat.le_of_ble_eq_true rfl), (Nat.le_of_ble_eq_true rfl)⟩ rfl (Nat.le_of_ble_eq_true rfl) ⟨(Nat.le_of_ble_eq_true rfl), (Nat.le_of_ble_eq_true rfl)⟩ dL_undoes_284 rfl (fun g_42 hp_43 => ?_)
              obtain ⟨ho_44, hf_45⟩ := hp_43
              have hf_46 : vIA cy B g_42 fb 64 F := vIA_fr hf_39 (fun q h1 h2 => hf_45 q (by omega))
              have ha0_47 : vLA cy B g_42 N 12 Wf := vLA_fr ha0_40 (fun q h1 h2 => hf_45 q (by omega))
              have hfr_48 : ∀ q, 141 ≤ q ∧ q < N → g_42 q = g q := fun q hq => (hf_45 q (by omega)).trans (hfr_41 q hq)
              refine w_aload dL_undoes_287 1 rfl ?_
              refine w_iload dL_undoes_289 2 rfl ?_
              refine w_iload dL_undoes_291 4 rfl ?_
              refine w_isub dL_undoes_293 ?_
              refine w_lald N (by first | omega | with_reducible rfl) ha0_47 (by omega) dL_undoes_294 ?_
              refine w_as (st' := [.long (zJ (wh (P2.headD S2))), .long (zJ (wh (P2.headD S2)))]) (sc_l (by rw [show ((m : Nat) : Int) - (((t : Nat) : Int) + 1) = ((m - (t + 1) : Nat) : Int) by omega]; exact hkp1) rfl) ?_
              refine w_lcmp_eqS 301 dL_undoes_295 dL_undoes_296 (by decide) ?_
              refine w_iinc 4 [(8, .int (zI ((((t : Nat) : Int) + 1) + 1))), (0, .ref (B + 0)), (4, .ref (B + N)), (5, .int (zI ((m : Nat) : Int))), (7, .int (zI ((P1.length : Nat) : Int)))] dL_undoes_301 rfl (by decide) rfl ?_
              refine w_goto 257 dL_undoes_304 (by decide) ?_
              refine w_sub [(0, .ref (B + 0)), (4, .ref (B + N)), (5, .int (zI ((m : Nat) : Int))), (7, .int (zI ((P1.length : Nat) : Int))), (8, .int (zI ((((t : Nat) : Int) + 1) + 1)))] [1, 2, 3, 4, 0] rfl ?_
              refine w_lv (lv' := [(0, .ref (B + 0)), (4, .ref (B + N)), (5, .int (zI ((m : Nat) : Int))), (7, .int (zI ((P1.length : Nat) : Int))), (8, .int (zI ((((t + 1) : Nat) : Int) + 1)))]) (lc_s (lc_s (lc_s (lc_s (lc_i (by omega) rfl))))) ?_
              exact ih_257 (t + 1) (P2.headD S2) (P2.tail) g_42 ⟨(by have h9 := ho_44; exact OW_up h9 (by omega)), hf_46, ha0_47, hfr_48, (by omega), hkp2, (by rw [List.length_tail]; omega)⟩ (by first | omega | with_reducible rfl)
      · exfalso; omega
    · refine w_iload dL_undoes_230 6 rfl ?_
      refine w_iload dL_undoes_232 5 rfl ?_
      refine w_iadd dL_undoes_234 ?_
      refine w_goto 240 dL_undoes_235 (by decide) ?_
      refine w_istore [(7, .int (zI (((P.length : Nat) : Int) + ((m : Nat) : Int)))), (0, .ref (B + 0)), (1, .ref b), (2, .int (zI from1)), (3, .ref (B + fb)), (4, .ref (B + N)), (5, .int (zI ((m : Nat) : Int))), (6, .int (zI ((P.length : Nat) : Int)))] dL_undoes_240 (by decide) rfl ?_
      refine w_aload_n dL_undoes_242 rfl 1 rfl ?_
      refine w_iconst dL_undoes_243 ?_
      obtain ⟨fx_51, hfx_51⟩ := OW_0 ho_17
      refine w_calli (As := [.int (zI 5)]) (rest := []) (n := 1) (a_count (what := 5) ho_17 (by omega) (by omega) ⟨by omega, by omega⟩) gL_undoes_X10_count rfl rfl rfl (by decide +kernel) ⟨(Nat.le_of_ble_eq_true rfl), (Nat.le_of_ble_eq_true rfl)⟩ rfl (by omega) hfx_51 rfl (Nat.le_of_ble_eq_true rfl) ⟨(Nat.le_of_ble_eq_true rfl), (Nat.le_of_ble_eq_true rfl)⟩ dL_undoes_244 rfl (fun g_49 hp_50 => ?_)
      obtain ⟨ho_52, hf_53⟩ := hp_50
      have hf_54 : vIA cy B g_49 fb 64 F := vIA_fr hf_18 (fun q h1 h2 => hf_53 q (by omega))
      have ha0_55 : vLA cy B g_49 N 12 Wf := vLA_fr ha0_19 (fun q h1 h2 => hf_53 q (by omega))
      have hfr_56 : ∀ q, 141 ≤ q ∧ q < N → g_49 q = g q := fun q hq => (hf_53 q (by omega)).trans (hfr_20 q hq)
      refine w_iload dL_undoes_247 0 rfl ?_
      refine w_as (st' := [.int (zI (((P.length : Nat) : Int) + ((m : Nat) : Int))), .int (zI ((P1.length : Nat) : Int))]) (lc_s (sc_i rfl rfl)) ?_
      refine w_icmp_eq 254 dL_undoes_249 (by decide) (by omega) (by omega) (fun c_249 => ?_) (fun c_249 => ?_)
      · refine w_lv (lv' := [(7, .int (zI ((P1.length : Nat) : Int))), (0, .ref (B + 0)), (1, .ref b), (2, .int (zI from1)), (3, .ref (B + fb)), (4, .ref (B + N)), (5, .int (zI ((m : Nat) : Int))), (6, .int (zI ((P.length : Nat) : Int)))]) (lc_i (by omega) (lc_s (lc_s (lc_s (lc_s (lc_s (lc_s (lc_s rfl)))))))) ?_
        refine w_iconst dL_undoes_254 ?_
        refine w_istore [(8, .int (zI 1)), (7, .int (zI ((P1.length : Nat) : Int))), (0, .ref (B + 0)), (1, .ref b), (2, .int (zI from1)), (3, .ref (B + fb)), (4, .ref (B + N)), (5, .int (zI ((m : Nat) : Int))), (6, .int (zI ((P.length : Nat) : Int)))] dL_undoes_255 (by decide) rfl ?_
        refine w_sub [(0, .ref (B + 0)), (4, .ref (B + N)), (5, .int (zI ((m : Nat) : Int))), (7, .int (zI ((P1.length : Nat) : Int))), (8, .int (zI 1))] [2, 6, 7, 1, 0] rfl ?_
        refine w_lv (lv' := [(0, .ref (B + 0)), (4, .ref (B + N)), (5, .int (zI ((m : Nat) : Int))), (7, .int (zI ((P1.length : Nat) : Int))), (8, .int (zI (((0 : Nat) : Int) + 1)))]) (lc_s (lc_s (lc_s (lc_s (lc_i (by omega) rfl))))) ?_
        refine w_loop4 (fun (t : Nat) (S2 : St) (P2 : List St) (gl_57 : (Nat → va_E)) => OW cy B gl_57 0 W S2 P2 ((M + 180) + (20 * ((t : Nat) : Int))) ∧ vIA cy B gl_57 fb 64 F ∧ vLA cy B gl_57 N 12 Wf ∧ (∀ q, 141 ≤ q ∧ q < N → gl_57 q = g q) ∧ (t ≤ m ∧ t ≤ P1.length) ∧ KP (m - t) Wf P2 ∧ P2.length = P1.length - t) (fun (t : Nat) (S2 : St) (P2 : List St) (gl_57 : (Nat → va_E)) => P1.length - t) (fun (t : Nat) (S2 : St) (P2 : List St) (gl_57 : (Nat → va_E)) => gl_57) (fun (t : Nat) (S2 : St) (P2 : List St) (gl_57 : (Nat → va_E)) => [(0, .ref (B + 0)), (4, .ref (B + N)), (5, .int (zI ((m : Nat) : Int))), (7, .int (zI ((P1.length : Nat) : Int))), (8, .int (zI (((t : Nat) : Int) + 1)))]) ?_ 0 S1 P1 g_49 ⟨(by have h9 := ho_52; exact OW_up h9 (by omega)), hf_54, ha0_55, hfr_56, ⟨Nat.zero_le _, Nat.zero_le _⟩, hK, rfl⟩
        rintro t S2 P2 gl_57 ⟨ho_58, hf_59, ha0_60, hfr_61, ht, hK2, hP2⟩ ih_257
        refine w_iload dL_undoes_257 4 rfl ?_
        refine w_iload dL_undoes_259 2 rfl ?_
        refine w_icmp_gt 307 dL_undoes_261 (by decide) (by omega) (by omega) (fun c_261 => ?_) (fun c_261 => ?_)
        · refine w_iconst dL_undoes_307 ?_
          exact w_zret dL_undoes_308 rfl rfl (by rfl) ⟨S2, P2, (by have h9 := ho_58; exact OW_up h9 (by omega)), hfr_61⟩
        · refine w_iload dL_undoes_264 4 rfl ?_
          refine w_iload dL_undoes_266 3 rfl ?_
          refine w_icmp_gt 307 dL_undoes_268 (by decide) (by omega) (by omega) (fun c_268 => ?_) (fun c_268 => ?_)
          · refine w_iconst dL_undoes_307 ?_
            exact w_zret dL_undoes_308 rfl rfl (by rfl) ⟨S2, P2, (by have h9 := ho_58; exact OW_up h9 (by omega)), hfr_61⟩
          · obtain ⟨hkp1, hkp2⟩ : Wf ((m - (t + 1) : Nat) : Int) = wh (P2.headD S2) ∧ KP (m - (t + 1)) Wf P2.tail := by
                                                            have h7 := hK2
                                                            rw [pop_c S2 (show 0 < P2.length by omega), show m - t = (m - (t + 1)) + 1 by omega] at h7
                                                            exact KP_pop h7
            refine w_aload_n dL_undoes_271 rfl 0 rfl ?_
            obtain ⟨fx_64, hfx_64⟩ := OW_0 ho_58
            refine w_calli (As := []) (rest := []) (n := 0) (a_undo ho_58 (by omega) (by omega)) gL_undoes_X10_undo rfl rfl rfl (by decide +kernel) ⟨(Nat.le_of_ble_eq_true rfl), (Nat.le_of_ble_eq_true rfl)⟩ rfl (by omega) hfx_64 rfl (Nat.le_of_ble_eq_true rfl) ⟨(Nat.le_of_ble_eq_true rfl), (Nat.le_of_ble_eq_true rfl)⟩ dL_undoes_272 rfl (fun g_62 hp_63 => ?_)
            obtain ⟨ho_65, hf_66⟩ := hp_63
            have hf_67 : vIA cy B g_62 fb 64 F := vIA_fr hf_59 (fun q h1 h2 => hf_66 q (by omega))
            have ha0_68 : vLA cy B g_62 N 12 Wf := vLA_fr ha0_60 (fun q h1 h2 => hf_66 q (by omega))
            have hfr_69 : ∀ q, 141 ≤ q ∧ q < N → g_62 q = g q := fun q hq => (hf_66 q (by omega)).trans (hfr_61 q hq)
            refine w_as (st' := [.int (zI ((P2.length - 1 : Nat) : Int))]) (sc_i (eUnd_c (by omega)) rfl) ?_
            refine w_iload dL_undoes_275 3 rfl ?_
            refine w_iload dL_undoes_277 4 rfl ?_
            refine w_isub dL_undoes_279 ?_
            refine w_icmp_ne 299 dL_undoes_280 (by decide) (by omega) (by omega) (fun c_280 => ?_) (fun c_280 => ?_)
            · exfalso; omega
            · refine w_aload_n dL_undoes_283 rfl 0 rfl ?_
              refine w_calllS (As := [.ref (B + 0)]) (rest := []) (n := 1) (c_whole ho_65 (by omega) (by omega)) gL_undoes_L_whole rfl rfl rfl (by decide +kernel) ⟨(Nat.le_of_ble_eq_true rfl), (Nat.le_of_ble_eq_true rfl)⟩ rfl (Nat.le_of_ble_eq_true rfl) ⟨(Nat.le_of_ble_eq_true rfl), (Nat.le_of_ble_eq_true rfl)⟩ dL_undoes_284 rfl (fun g_70 hp_71 => ?_)
              obtain ⟨ho_72, hf_73⟩ := hp_71
              have hf_74 : vIA cy B g_70 fb 64 F := vIA_fr hf_67 (fun q h1 h2 => hf_73 q (by omega))
              have ha0_75 : vLA cy B g_70 N 12 Wf := vLA_fr ha0_68 (fun q h1 h2 => hf_73 q (by omega))
              have hfr_76 : ∀ q, 141 ≤ q ∧ q < N → g_70 q = g q := fun q hq => (hf_73 q (by omega)).trans (hfr_69 q hq)
              refine w_aload dL_undoes_287 1 rfl ?_
              refine w_iload dL_undoes_289 2 rfl ?_
              refine w_iload dL_undoes_291 4 rfl ?_
              refine w_isub dL_undoes_293 ?_
              refine w_lald N (by first | omega | with_reducible rfl) ha0_75 (by omega) dL_undoes_294 ?_
              refine w_as (st' := [.long (zJ (wh (P2.headD S2))), .long (zJ (wh (P2.headD S2)))]) (sc_l (by rw [show ((m : Nat) : Int) - (((t : Nat) : Int) + 1) = ((m - (t + 1) : Nat) : Int) by omega]; exact hkp1) rfl) ?_
              refine w_lcmp_eqS 301 dL_undoes_295 dL_undoes_296 (by decide) ?_
              refine w_iinc 4 [(8, .int (zI ((((t : Nat) : Int) + 1) + 1))), (0, .ref (B + 0)), (4, .ref (B + N)), (5, .int (zI ((m : Nat) : Int))), (7, .int (zI ((P1.length : Nat) : Int)))] dL_undoes_301 rfl (by decide) rfl ?_
              refine w_goto 257 dL_undoes_304 (by decide) ?_
              refine w_sub [(0, .ref (B + 0)), (4, .ref (B + N)), (5, .int (zI ((m : Nat) : Int))), (7, .int (zI ((P1.length : Nat) : Int))), (8, .int (zI ((((t : Nat) : Int) + 1) + 1)))] [1, 2, 3, 4, 0] rfl ?_
              refine w_lv (lv' := [(0, .ref (B + 0)), (4, .ref (B + N)), (5, .int (zI ((m : Nat) : Int))), (7, .int (zI ((P1.length : Nat) : Int))), (8, .int (zI ((((t + 1) : Nat) : Int) + 1)))]) (lc_s (lc_s (lc_s (lc_s (lc_i (by omega) rfl))))) ?_
              exact ih_257 (t + 1) (P2.headD S2) (P2.tail) g_70 ⟨(by have h9 := ho_72; exact OW_up h9 (by omega)), hf_74, ha0_75, hfr_76, (by omega), hkp2, (by rw [List.length_tail]; omega)⟩ (by first | omega | with_reducible rfl)
      · exfalso; omega
  · have hwf1 := OW_wf ho_17
    have hS1 := WF_S hwf1
    have hP16 := WF_P hwf1
    refine w_aload_n dL_undoes_26 rfl 1 rfl ?_
    refine w_iload_n dL_undoes_27 rfl 2 rfl ?_
    refine w_iload dL_undoes_28 7 rfl ?_
    refine w_iadd dL_undoes_30 ?_
    refine w_calliX (As := [.ref b, .int (zI (from1 + ((k : Nat) : Int)))]) (rest := []) (n := 2) (mc := 0) (ms := 0) hsx (c_cell (k := (from1 + ((k : Nat) : Int))) (by first | omega | with_reducible rfl) (by first | omega | with_reducible rfl)) gL_undoes_L_cell rfl rfl rfl (by decide +kernel) ⟨(Nat.le_of_ble_eq_true rfl), (Nat.le_of_ble_eq_true rfl)⟩ rfl (Nat.le_of_ble_eq_true rfl) ⟨(Nat.le_of_ble_eq_true rfl), (Nat.le_of_ble_eq_true rfl)⟩ dL_undoes_31 rfl (fun g_77 hp_78 => ?_)
    subst g_77
    obtain ⟨v9, hv9⟩ : ∃ v9 : Int, v9 = clZ xs L (from1 + ((k : Nat) : Int)) := ⟨_, rfl⟩
    refine w_as (st' := [.int (zI v9)]) (sc_i hv9.symm rfl) ?_
    refine w_istore [(8, .int (zI v9)), (0, .ref (B + 0)), (1, .ref b), (2, .int (zI from1)), (3, .ref (B + fb)), (4, .ref (B + N)), (5, .int (zI ((m : Nat) : Int))), (6, .int (zI ((P.length : Nat) : Int))), (7, .int (zI ((k : Nat) : Int)))] dL_undoes_34 (by decide) rfl ?_
    refine w_iload dL_undoes_36 0 rfl ?_
    refine w_iconst dL_undoes_38 ?_
    refine w_ishr dL_undoes_39 ?_
    refine w_aload_n dL_undoes_40 rfl 4 rfl ?_
    refine w_iconst dL_undoes_41 ?_
    refine w_iald fb (by first | omega | with_reducible rfl) hf_18 (by omega) dL_undoes_42 ?_
    refine w_iconst dL_undoes_43 ?_
    refine w_iadd dL_undoes_44 ?_
    refine w_calliS (As := [.int (zI (shZ v9 3)), .int (zI ((F 0) + 1))]) (rest := []) (n := 2) (c_part (v := (shZ v9 3)) (n := ((F 0) + 1)) (by first | omega | with_reducible rfl)) gL_undoes_L_part rfl rfl rfl (by decide +kernel) ⟨(Nat.le_of_ble_eq_true rfl), (Nat.le_of_ble_eq_true rfl)⟩ rfl (Nat.le_of_ble_eq_true rfl) ⟨(Nat.le_of_ble_eq_true rfl), (Nat.le_of_ble_eq_true rfl)⟩ dL_undoes_45 rfl (fun g_79 hp_80 => ?_)
    subst g_79
    have ha3 := ptZ_rg (shZ v9 3) (n := F 0 + 1) (by omega)
    refine w_istore [(9, .int (zI (ptZ (shZ v9 3) ((F 0) + 1)))), (8, .int (zI v9)), (0, .ref (B + 0)), (1, .ref b), (2, .int (zI from1)), (3, .ref (B + fb)), (4, .ref (B + N)), (5, .int (zI ((m : Nat) : Int))), (6, .int (zI ((P.length : Nat) : Int))), (7, .int (zI ((k : Nat) : Int)))] dL_undoes_48 (by decide) rfl ?_
    refine w_iload dL_undoes_50 1 rfl ?_
    refine w_iconst dL_undoes_52 ?_
    refine w_ishr dL_undoes_53 ?_
    refine w_bipush dL_undoes_54 (by decide) ?_
    refine w_calliS (As := [.int (zI (shZ v9 5)), .int (zI 6)]) (rest := []) (n := 2) (c_part (v := (shZ v9 5)) (n := 6) (by first | omega | with_reducible rfl)) gL_undoes_L_part rfl rfl rfl (by decide +kernel) ⟨(Nat.le_of_ble_eq_true rfl), (Nat.le_of_ble_eq_true rfl)⟩ rfl (Nat.le_of_ble_eq_true rfl) ⟨(Nat.le_of_ble_eq_true rfl), (Nat.le_of_ble_eq_true rfl)⟩ dL_undoes_56 rfl (fun g_81 hp_82 => ?_)
    subst g_81
    have ha5 := ptZ_rg (shZ v9 5) (n := 6) (by omega)
    refine w_istore [(10, .int (zI (ptZ (shZ v9 5) 6))), (9, .int (zI (ptZ (shZ v9 3) ((F 0) + 1)))), (8, .int (zI v9)), (0, .ref (B + 0)), (1, .ref b), (2, .int (zI from1)), (3, .ref (B + fb)), (4, .ref (B + N)), (5, .int (zI ((m : Nat) : Int))), (6, .int (zI ((P.length : Nat) : Int))), (7, .int (zI ((k : Nat) : Int)))] dL_undoes_59 (by decide) rfl ?_
    refine w_iload dL_undoes_61 2 rfl ?_
    refine w_iconst dL_undoes_63 ?_
    refine w_calliS (As := [.int (zI v9), .int (zI 5)]) (rest := []) (n := 2) (c_part (v := v9) (n := 5) (by first | omega | with_reducible rfl)) gL_undoes_L_part rfl rfl rfl (by decide +kernel) ⟨(Nat.le_of_ble_eq_true rfl), (Nat.le_of_ble_eq_true rfl)⟩ rfl (Nat.le_of_ble_eq_true rfl) ⟨(Nat.le_of_ble_eq_true rfl), (Nat.le_of_ble_eq_true rfl)⟩ dL_undoes_64 rfl (fun g_83 hp_84 => ?_)
    subst g_83
    have ha0 := ptZ_rg v9 (n := 5) (by omega)
    refine w_istore [(11, .int (zI (ptZ v9 5))), (10, .int (zI (ptZ (shZ v9 5) 6))), (9, .int (zI (ptZ (shZ v9 3) ((F 0) + 1)))), (8, .int (zI v9)), (0, .ref (B + 0)), (1, .ref b), (2, .int (zI from1)), (3, .ref (B + fb)), (4, .ref (B + N)), (5, .int (zI ((m : Nat) : Int))), (6, .int (zI ((P.length : Nat) : Int))), (7, .int (zI ((k : Nat) : Int)))] dL_undoes_67 (by decide) rfl ?_
    refine w_aload_n dL_undoes_69 rfl 4 rfl ?_
    refine w_iconst dL_undoes_70 ?_
    obtain ⟨fx_87, hfx_87⟩ := OW_0 ho_17
    refine w_calli (As := [.int (zI 5)]) (rest := []) (n := 1) (a_count (what := 5) ho_17 (by omega) (by omega) ⟨by omega, by omega⟩) gL_undoes_X10_count rfl rfl rfl (by decide +kernel) ⟨(Nat.le_of_ble_eq_true rfl), (Nat.le_of_ble_eq_true rfl)⟩ rfl (by omega) hfx_87 rfl (Nat.le_of_ble_eq_true rfl) ⟨(Nat.le_of_ble_eq_true rfl), (Nat.le_of_ble_eq_true rfl)⟩ dL_undoes_71 rfl (fun g_85 hp_86 => ?_)
    obtain ⟨ho_88, hf_89⟩ := hp_86
    have hf_90 : vIA cy B g_85 fb 64 F := vIA_fr hf_18 (fun q h1 h2 => hf_89 q (by omega))
    have ha0_91 : vLA cy B g_85 N 12 Wf := vLA_fr ha0_19 (fun q h1 h2 => hf_89 q (by omega))
    have hfr_92 : ∀ q, 141 ≤ q ∧ q < N → g_85 q = g q := fun q hq => (hf_89 q (by omega)).trans (hfr_20 q hq)
    refine w_as (st' := [.int (zI ((P1.length : Nat) : Int))]) (sc_i rfl rfl) ?_
    refine w_istore [(12, .int (zI ((P1.length : Nat) : Int))), (11, .int (zI (ptZ v9 5))), (10, .int (zI (ptZ (shZ v9 5) 6))), (9, .int (zI (ptZ (shZ v9 3) ((F 0) + 1)))), (8, .int (zI v9)), (0, .ref (B + 0)), (1, .ref b), (2, .int (zI from1)), (3, .ref (B + fb)), (4, .ref (B + N)), (5, .int (zI ((m : Nat) : Int))), (6, .int (zI ((P.length : Nat) : Int))), (7, .int (zI ((k : Nat) : Int)))] dL_undoes_74 (by decide) rfl ?_
    refine w_aload dL_undoes_76 9 rfl ?_
    refine w_iload dL_undoes_78 10 rfl ?_
    refine w_aload_n dL_undoes_80 rfl 5 rfl ?_
    refine w_calllS (As := [.ref (B + 0)]) (rest := [.int (zI ((m : Nat) : Int)), .ref (B + N)]) (n := 1) (c_whole ho_88 (by omega) (by omega)) gL_undoes_L_whole rfl rfl rfl (by decide +kernel) ⟨(Nat.le_of_ble_eq_true rfl), (Nat.le_of_ble_eq_true rfl)⟩ rfl (Nat.le_of_ble_eq_true rfl) ⟨(Nat.le_of_ble_eq_true rfl), (Nat.le_of_ble_eq_true rfl)⟩ dL_undoes_81 rfl (fun g_93 hp_94 => ?_)
    obtain ⟨ho_95, hf_96⟩ := hp_94
    have hf_97 : vIA cy B g_93 fb 64 F := vIA_fr hf_90 (fun q h1 h2 => hf_96 q (by omega))
    have ha0_98 : vLA cy B g_93 N 12 Wf := vLA_fr ha0_91 (fun q h1 h2 => hf_96 q (by omega))
    have hfr_99 : ∀ q, 141 ≤ q ∧ q < N → g_93 q = g q := fun q hq => (hf_96 q (by omega)).trans (hfr_92 q hq)
    refine w_last N (by first | omega | with_reducible rfl) ha0_98 (by omega) dL_undoes_84 (fun g_100 he_101 hn_102 => ?_)
    have ho_103 : OW cy B g_100 0 W S1 P1 (M + (20 * ((k : Nat) : Int))) := OW_fr ho_95 (fun q h1 h2 => hn_102 q (by omega))
    have hf_104 : vIA cy B g_100 fb 64 F := vIA_fr hf_97 (fun q h1 h2 => hn_102 q (by omega))
    have ha0_105 : vLA cy B g_100 N 12 (uZ Wf ((m : Nat) : Int) (wh S1)) := he_101
    have hfr_106 : ∀ q, 141 ≤ q ∧ q < N → g_100 q = g q := fun q hq => (hn_102 q (by omega)).trans (hfr_99 q hq)
    refine w_iload dL_undoes_85 1 rfl ?_
    refine w_iconst dL_undoes_87 ?_
    refine w_icmp_ge 114 dL_undoes_88 (by decide) (by omega) (by omega) (fun c_88 => ?_) (fun c_88 => ?_)
    · refine w_iload dL_undoes_114 1 rfl ?_
      refine w_iconst dL_undoes_116 ?_
      refine w_icmp_ge 140 dL_undoes_117 (by decide) (by omega) (by omega) (fun c_117 => ?_) (fun c_117 => ?_)
      · refine w_aload_n dL_undoes_140 rfl 5 rfl ?_
        refine w_iload dL_undoes_141 3 rfl ?_
        obtain ⟨fx_109, hfx_109⟩ := OW_0 ho_103
        refine w_calli (As := [.int (zI (ptZ (shZ v9 3) ((F 0) + 1)))]) (rest := []) (n := 1) (a_turn (s := (ptZ (shZ v9 3) ((F 0) + 1))) ho_103 (by omega) (by omega) ⟨by omega, by omega⟩) gL_undoes_X10_turn rfl rfl rfl (by decide +kernel) ⟨(Nat.le_of_ble_eq_true rfl), (Nat.le_of_ble_eq_true rfl)⟩ rfl (by omega) hfx_109 rfl (Nat.le_of_ble_eq_true rfl) ⟨(Nat.le_of_ble_eq_true rfl), (Nat.le_of_ble_eq_true rfl)⟩ dL_undoes_143 rfl (fun g_107 hp_108 => ?_)
        obtain ⟨ho_110, hf_111⟩ := hp_108
        have hf_112 : vIA cy B g_107 fb 64 F := vIA_fr hf_104 (fun q h1 h2 => hf_111 q (by omega))
        have ha0_113 : vLA cy B g_107 N 12 (uZ Wf ((m : Nat) : Int) (wh S1)) := vLA_fr ha0_105 (fun q h1 h2 => hf_111 q (by omega))
        have hfr_114 : ∀ q, 141 ≤ q ∧ q < N → g_107 q = g q := fun q hq => (hf_111 q (by omega)).trans (hfr_106 q hq)
        obtain ⟨E9, S9, hE9, hS9⟩ : ∃ (E9 : Int) (S9 : St), (stTurn S1 (ptZ (shZ v9 3) ((F 0) + 1))).1 = E9 ∧ (stTurn S1 (ptZ (shZ v9 3) ((F 0) + 1))).2 = S9 := ⟨_, _, rfl, rfl⟩
        have hcs9 := stTurn_cs S1 hS1 (ptZ (shZ v9 3) ((F 0) + 1))
        rw [hE9, hS9] at hcs9
        have ho_115 : OW cy B g_107 0 W S9 (past E9 S1 P1) ((M + (20 * ((k : Nat) : Int))) + 20) := by have h9 := ho_110; rw [hE9, hS9] at h9; exact h9
        refine w_as (st' := [.int (zI E9)]) (sc_i hE9 rfl) ?_
        refine w_istore [(13, .int (zI E9)), (12, .int (zI ((P1.length : Nat) : Int))), (11, .int (zI (ptZ v9 5))), (10, .int (zI (ptZ (shZ v9 5) 6))), (9, .int (zI (ptZ (shZ v9 3) ((F 0) + 1)))), (8, .int (zI v9)), (0, .ref (B + 0)), (1, .ref b), (2, .int (zI from1)), (3, .ref (B + fb)), (4, .ref (B + N)), (5, .int (zI ((m : Nat) : Int))), (6, .int (zI ((P.length : Nat) : Int))), (7, .int (zI ((k : Nat) : Int)))] dL_undoes_146 (by decide) rfl ?_
        refine w_iload dL_undoes_148 0 rfl ?_
        refine w_if_ge 185 dL_undoes_150 (by decide) (by omega) (fun c_150 => ?_) (fun c_150 => ?_)
        · have hE0 : 0 ≤ E9 := by omega
          obtain ⟨pl, hpl⟩ : ∃ pl : Nat, (past E9 S1 P1).length = pl := ⟨_, rfl⟩
          have hpl2 := past_len (S := S1) (P := P1) hE0 hP16
          refine w_aload_n dL_undoes_185 rfl 6 rfl ?_
          refine w_iconst dL_undoes_186 ?_
          obtain ⟨fx_118, hfx_118⟩ := OW_0 ho_115
          refine w_calli (As := [.int (zI 5)]) (rest := []) (n := 1) (a_count (what := 5) ho_115 (by omega) (by omega) ⟨by omega, by omega⟩) gL_undoes_X10_count rfl rfl rfl (by decide +kernel) ⟨(Nat.le_of_ble_eq_true rfl), (Nat.le_of_ble_eq_true rfl)⟩ rfl (by omega) hfx_118 rfl (Nat.le_of_ble_eq_true rfl) ⟨(Nat.le_of_ble_eq_true rfl), (Nat.le_of_ble_eq_true rfl)⟩ dL_undoes_187 rfl (fun g_116 hp_117 => ?_)
          obtain ⟨ho_119, hf_120⟩ := hp_117
          have hf_121 : vIA cy B g_116 fb 64 F := vIA_fr hf_112 (fun q h1 h2 => hf_120 q (by omega))
          have ha0_122 : vLA cy B g_116 N 12 (uZ Wf ((m : Nat) : Int) (wh S1)) := vLA_fr ha0_113 (fun q h1 h2 => hf_120 q (by omega))
          have hfr_123 : ∀ q, 141 ≤ q ∧ q < N → g_116 q = g q := fun q hq => (hf_120 q (by omega)).trans (hfr_114 q hq)
          refine w_as (st' := [.int (zI ((pl : Nat) : Int))]) (sc_i (by rw [eCnt_5, hpl]) rfl) ?_
          refine w_iload dL_undoes_190 1 rfl ?_
          refine w_bipush dL_undoes_192 (by decide) ?_
          refine w_icmp_ge 204 dL_undoes_194 (by decide) (by omega) (by omega) (fun c_194 => ?_) (fun c_194 => ?_)
          · refine w_bipush dL_undoes_204 (by decide) ?_
            refine w_icmp_eq 211 dL_undoes_206 (by decide) (by omega) (by omega) (fun c_206 => ?_) (fun c_206 => ?_)
            · refine w_iinc 11 [(5, .int (zI (((m : Nat) : Int) + 1))), (13, .int (zI E9)), (12, .int (zI ((P1.length : Nat) : Int))), (11, .int (zI (ptZ v9 5))), (10, .int (zI (ptZ (shZ v9 5) 6))), (9, .int (zI (ptZ (shZ v9 3) ((F 0) + 1)))), (8, .int (zI v9)), (0, .ref (B + 0)), (1, .ref b), (2, .int (zI from1)), (3, .ref (B + fb)), (4, .ref (B + N)), (6, .int (zI ((P.length : Nat) : Int))), (7, .int (zI ((k : Nat) : Int)))] dL_undoes_211 rfl (by decide) rfl ?_
              refine w_iinc 13 [(7, .int (zI (((k : Nat) : Int) + 1))), (5, .int (zI (((m : Nat) : Int) + 1))), (13, .int (zI E9)), (12, .int (zI ((P1.length : Nat) : Int))), (11, .int (zI (ptZ v9 5))), (10, .int (zI (ptZ (shZ v9 5) 6))), (9, .int (zI (ptZ (shZ v9 3) ((F 0) + 1)))), (8, .int (zI v9)), (0, .ref (B + 0)), (1, .ref b), (2, .int (zI from1)), (3, .ref (B + fb)), (4, .ref (B + N)), (6, .int (zI ((P.length : Nat) : Int)))] dL_undoes_214 rfl (by decide) rfl ?_
              refine w_goto 19 dL_undoes_217 (by decide) ?_
              refine w_sub [(0, .ref (B + 0)), (1, .ref b), (2, .int (zI from1)), (3, .ref (B + fb)), (4, .ref (B + N)), (5, .int (zI (((m : Nat) : Int) + 1))), (6, .int (zI ((P.length : Nat) : Int))), (7, .int (zI (((k : Nat) : Int) + 1)))] [8, 9, 10, 11, 12, 1, 13, 0] rfl ?_
              refine w_lv (lv' := [(0, .ref (B + 0)), (1, .ref b), (2, .int (zI from1)), (3, .ref (B + fb)), (4, .ref (B + N)), (5, .int (zI (((m + 1) : Nat) : Int))), (6, .int (zI ((P.length : Nat) : Int))), (7, .int (zI (((k + 1) : Nat) : Int)))]) (lc_s (lc_s (lc_s (lc_s (lc_s (lc_i (by first | omega | with_reducible rfl) (lc_s (lc_i (by first | omega | with_reducible rfl) rfl)))))))) ?_
              exact ih_19 (k + 1) (m + 1) S9 (past E9 S1 P1) (uZ Wf ((m : Nat) : Int) (wh S1)) g_116 ⟨(by have h9 := ho_119; exact OW_up h9 (by omega)), hf_121, ha0_122, hfr_123, (by first | omega | with_reducible rfl), (by first | omega | with_reducible rfl), (KP_push hK hE0), (by rw [hpl2]; omega)⟩ (by first | omega | with_reducible rfl)
            · exfalso; omega
          · refine w_iload dL_undoes_197 1 rfl ?_
            refine w_iconst dL_undoes_199 ?_
            refine w_iadd dL_undoes_200 ?_
            refine w_goto 206 dL_undoes_201 (by decide) ?_
            refine w_icmp_eq 211 dL_undoes_206 (by decide) (by omega) (by omega) (fun c_206 => ?_) (fun c_206 => ?_)
            · refine w_iinc 11 [(5, .int (zI (((m : Nat) : Int) + 1))), (13, .int (zI E9)), (12, .int (zI ((P1.length : Nat) : Int))), (11, .int (zI (ptZ v9 5))), (10, .int (zI (ptZ (shZ v9 5) 6))), (9, .int (zI (ptZ (shZ v9 3) ((F 0) + 1)))), (8, .int (zI v9)), (0, .ref (B + 0)), (1, .ref b), (2, .int (zI from1)), (3, .ref (B + fb)), (4, .ref (B + N)), (6, .int (zI ((P.length : Nat) : Int))), (7, .int (zI ((k : Nat) : Int)))] dL_undoes_211 rfl (by decide) rfl ?_
              refine w_iinc 13 [(7, .int (zI (((k : Nat) : Int) + 1))), (5, .int (zI (((m : Nat) : Int) + 1))), (13, .int (zI E9)), (12, .int (zI ((P1.length : Nat) : Int))), (11, .int (zI (ptZ v9 5))), (10, .int (zI (ptZ (shZ v9 5) 6))), (9, .int (zI (ptZ (shZ v9 3) ((F 0) + 1)))), (8, .int (zI v9)), (0, .ref (B + 0)), (1, .ref b), (2, .int (zI from1)), (3, .ref (B + fb)), (4, .ref (B + N)), (6, .int (zI ((P.length : Nat) : Int)))] dL_undoes_214 rfl (by decide) rfl ?_
              refine w_goto 19 dL_undoes_217 (by decide) ?_
              refine w_sub [(0, .ref (B + 0)), (1, .ref b), (2, .int (zI from1)), (3, .ref (B + fb)), (4, .ref (B + N)), (5, .int (zI (((m : Nat) : Int) + 1))), (6, .int (zI ((P.length : Nat) : Int))), (7, .int (zI (((k : Nat) : Int) + 1)))] [8, 9, 10, 11, 12, 1, 13, 0] rfl ?_
              refine w_lv (lv' := [(0, .ref (B + 0)), (1, .ref b), (2, .int (zI from1)), (3, .ref (B + fb)), (4, .ref (B + N)), (5, .int (zI (((m + 1) : Nat) : Int))), (6, .int (zI ((P.length : Nat) : Int))), (7, .int (zI (((k + 1) : Nat) : Int)))]) (lc_s (lc_s (lc_s (lc_s (lc_s (lc_i (by first | omega | with_reducible rfl) (lc_s (lc_i (by first | omega | with_reducible rfl) rfl)))))))) ?_
              exact ih_19 (k + 1) (m + 1) S9 (past E9 S1 P1) (uZ Wf ((m : Nat) : Int) (wh S1)) g_116 ⟨(by have h9 := ho_119; exact OW_up h9 (by omega)), hf_121, ha0_122, hfr_123, (by first | omega | with_reducible rfl), (by first | omega | with_reducible rfl), (KP_push hK hE0), (by rw [hpl2]; omega)⟩ (by first | omega | with_reducible rfl)
            · exfalso; omega
        · have hE0 : E9 < 0 := by omega
          have hS9e : S9 = S1 := by rcases hcs9 with q | q; exact q.2.2; omega
          have ho_124 : OW cy B g_107 0 W S1 P1 ((M + (20 * ((k : Nat) : Int))) + 20) := by have h9 := ho_115; rw [hS9e, past_no hE0] at h9; exact h9
          refine w_iload dL_undoes_153 0 rfl ?_
          refine w_bipush dL_undoes_155 (by decide) ?_
          refine w_icmp_lt 183 dL_undoes_157 (by decide) (by omega) (by omega) (fun c_157 => ?_) (fun c_157 => ?_)
          · exfalso; omega
          · refine w_aload_n dL_undoes_160 rfl 6 rfl ?_
            refine w_calllS (As := [.ref (B + 0)]) (rest := []) (n := 1) (c_whole ho_124 (by omega) (by omega)) gL_undoes_L_whole rfl rfl rfl (by decide +kernel) ⟨(Nat.le_of_ble_eq_true rfl), (Nat.le_of_ble_eq_true rfl)⟩ rfl (Nat.le_of_ble_eq_true rfl) ⟨(Nat.le_of_ble_eq_true rfl), (Nat.le_of_ble_eq_true rfl)⟩ dL_undoes_161 rfl (fun g_125 hp_126 => ?_)
            obtain ⟨ho_127, hf_128⟩ := hp_126
            have hf_129 : vIA cy B g_125 fb 64 F := vIA_fr hf_112 (fun q h1 h2 => hf_128 q (by omega))
            have ha0_130 : vLA cy B g_125 N 12 (uZ Wf ((m : Nat) : Int) (wh S1)) := vLA_fr ha0_113 (fun q h1 h2 => hf_128 q (by omega))
            have hfr_131 : ∀ q, 141 ≤ q ∧ q < N → g_125 q = g q := fun q hq => (hf_128 q (by omega)).trans (hfr_114 q hq)
            refine w_aload dL_undoes_164 10 rfl ?_
            refine w_iload dL_undoes_166 11 rfl ?_
            refine w_lald N (by first | omega | with_reducible rfl) ha0_130 (by omega) dL_undoes_168 ?_
            refine w_as (st' := [.long (zJ (wh S1)), .long (zJ (wh S1))]) (sc_l (uZ_same _ _ _) rfl) ?_
            refine w_lcmp_neS 183 dL_undoes_169 dL_undoes_170 (by decide) ?_
            refine w_aload_n dL_undoes_173 rfl 6 rfl ?_
            refine w_iconst dL_undoes_174 ?_
            obtain ⟨fx_134, hfx_134⟩ := OW_0 ho_127
            refine w_calli (As := [.int (zI 5)]) (rest := []) (n := 1) (a_count (what := 5) ho_127 (by omega) (by omega) ⟨by omega, by omega⟩) gL_undoes_X10_count rfl rfl rfl (by decide +kernel) ⟨(Nat.le_of_ble_eq_true rfl), (Nat.le_of_ble_eq_true rfl)⟩ rfl (by omega) hfx_134 rfl (Nat.le_of_ble_eq_true rfl) ⟨(Nat.le_of_ble_eq_true rfl), (Nat.le_of_ble_eq_true rfl)⟩ dL_undoes_175 rfl (fun g_132 hp_133 => ?_)
            obtain ⟨ho_135, hf_136⟩ := hp_133
            have hf_137 : vIA cy B g_132 fb 64 F := vIA_fr hf_129 (fun q h1 h2 => hf_136 q (by omega))
            have ha0_138 : vLA cy B g_132 N 12 (uZ Wf ((m : Nat) : Int) (wh S1)) := vLA_fr ha0_130 (fun q h1 h2 => hf_136 q (by omega))
            have hfr_139 : ∀ q, 141 ≤ q ∧ q < N → g_132 q = g q := fun q hq => (hf_136 q (by omega)).trans (hfr_131 q hq)
            refine w_iload dL_undoes_178 1 rfl ?_
            refine w_as (st' := [.int (zI ((P1.length : Nat) : Int)), .int (zI ((P1.length : Nat) : Int))]) (lc_s (sc_i rfl rfl)) ?_
            refine w_icmp_eqS 214 dL_undoes_180 (by decide) ?_
            refine w_iinc 13 [(7, .int (zI (((k : Nat) : Int) + 1))), (13, .int (zI E9)), (12, .int (zI ((P1.length : Nat) : Int))), (11, .int (zI (ptZ v9 5))), (10, .int (zI (ptZ (shZ v9 5) 6))), (9, .int (zI (ptZ (shZ v9 3) ((F 0) + 1)))), (8, .int (zI v9)), (0, .ref (B + 0)), (1, .ref b), (2, .int (zI from1)), (3, .ref (B + fb)), (4, .ref (B + N)), (5, .int (zI ((m : Nat) : Int))), (6, .int (zI ((P.length : Nat) : Int)))] dL_undoes_214 rfl (by decide) rfl ?_
            refine w_goto 19 dL_undoes_217 (by decide) ?_
            refine w_sub [(0, .ref (B + 0)), (1, .ref b), (2, .int (zI from1)), (3, .ref (B + fb)), (4, .ref (B + N)), (5, .int (zI ((m : Nat) : Int))), (6, .int (zI ((P.length : Nat) : Int))), (7, .int (zI (((k : Nat) : Int) + 1)))] [7, 8, 9, 10, 11, 12, 13, 0] rfl ?_
            refine w_lv (lv' := [(0, .ref (B + 0)), (1, .ref b), (2, .int (zI from1)), (3, .ref (B + fb)), (4, .ref (B + N)), (5, .int (zI ((m : Nat) : Int))), (6, .int (zI ((P.length : Nat) : Int))), (7, .int (zI (((k + 1) : Nat) : Int)))]) (lc_s (lc_s (lc_s (lc_s (lc_s (lc_i (by first | omega | with_reducible rfl) (lc_s (lc_i (by first | omega | with_reducible rfl) rfl)))))))) ?_
            exact ih_19 (k + 1) m S1 P1 (uZ Wf ((m : Nat) : Int) (wh S1)) g_132 ⟨(by have h9 := ho_135; exact OW_up h9 (by omega)), hf_137, ha0_138, hfr_139, (by first | omega | with_reducible rfl), (by first | omega | with_reducible rfl), (KP_same hK), hPl⟩ (by first | omega | with_reducible rfl)
      · refine w_aload_n dL_undoes_120 rfl 5 rfl ?_
        refine w_iload dL_undoes_121 3 rfl ?_
        refine w_iload dL_undoes_123 2 rfl ?_
        refine w_iload dL_undoes_125 4 rfl ?_
        refine w_bipush dL_undoes_127 (by decide) ?_
        refine w_ishr dL_undoes_129 ?_
        refine w_iconst dL_undoes_130 ?_
        refine w_calliS (As := [.int (zI (shZ v9 8)), .int (zI 5)]) (rest := [.int (zI (ptZ (shZ v9 5) 6)), .int (zI (ptZ (shZ v9 3) ((F 0) + 1))), .ref (B + 0)]) (n := 2) (c_part (v := (shZ v9 8)) (n := 5) (by first | omega | with_reducible rfl)) gL_undoes_L_part rfl rfl rfl (by decide +kernel) ⟨(Nat.le_of_ble_eq_true rfl), (Nat.le_of_ble_eq_true rfl)⟩ rfl (Nat.le_of_ble_eq_true rfl) ⟨(Nat.le_of_ble_eq_true rfl), (Nat.le_of_ble_eq_true rfl)⟩ dL_undoes_131 rfl (fun g_140 hp_141 => ?_)
        subst g_140
        have ha8 := ptZ_rg (shZ v9 8) (n := 5) (by omega)
        obtain ⟨fx_144, hfx_144⟩ := OW_0 ho_103
        refine w_calli (As := [.int (zI (ptZ (shZ v9 3) ((F 0) + 1))), .int (zI (ptZ (shZ v9 5) 6)), .int (zI (ptZ (shZ v9 8) 5))]) (rest := []) (n := 3) (a_move (s := (ptZ (shZ v9 3) ((F 0) + 1))) (a := (ptZ (shZ v9 5) 6)) (b := (ptZ (shZ v9 8) 5)) ho_103 (by omega) (by omega) ⟨by omega, by omega⟩ ⟨by omega, by omega⟩ ⟨by omega, by omega⟩) gL_undoes_X10_move rfl rfl rfl (by decide +kernel) ⟨(Nat.le_of_ble_eq_true rfl), (Nat.le_of_ble_eq_true rfl)⟩ rfl (by omega) hfx_144 rfl (Nat.le_of_ble_eq_true rfl) ⟨(Nat.le_of_ble_eq_true rfl), (Nat.le_of_ble_eq_true rfl)⟩ dL_undoes_134 rfl (fun g_142 hp_143 => ?_)
        obtain ⟨ho_145, hf_146⟩ := hp_143
        have hf_147 : vIA cy B g_142 fb 64 F := vIA_fr hf_104 (fun q h1 h2 => hf_146 q (by omega))
        have ha0_148 : vLA cy B g_142 N 12 (uZ Wf ((m : Nat) : Int) (wh S1)) := vLA_fr ha0_105 (fun q h1 h2 => hf_146 q (by omega))
        have hfr_149 : ∀ q, 141 ≤ q ∧ q < N → g_142 q = g q := fun q hq => (hf_146 q (by omega)).trans (hfr_106 q hq)
        refine w_goto 146 dL_undoes_137 (by decide) ?_
        obtain ⟨E9, S9, hE9, hS9⟩ : ∃ (E9 : Int) (S9 : St), (stMove S1 (ptZ (shZ v9 3) ((F 0) + 1)) (ptZ (shZ v9 5) 6) (ptZ (shZ v9 8) 5)).1 = E9 ∧ (stMove S1 (ptZ (shZ v9 3) ((F 0) + 1)) (ptZ (shZ v9 5) 6) (ptZ (shZ v9 8) 5)).2 = S9 := ⟨_, _, rfl, rfl⟩
        have hcs9 := stMove_cs S1 hS1 (ptZ (shZ v9 3) ((F 0) + 1)) (ptZ (shZ v9 5) 6) (ptZ (shZ v9 8) 5)
        rw [hE9, hS9] at hcs9
        have ho_150 : OW cy B g_142 0 W S9 (past E9 S1 P1) ((M + (20 * ((k : Nat) : Int))) + 20) := by have h9 := ho_145; rw [hE9, hS9] at h9; exact h9
        refine w_as (st' := [.int (zI E9)]) (sc_i hE9 rfl) ?_
        refine w_istore [(13, .int (zI E9)), (12, .int (zI ((P1.length : Nat) : Int))), (11, .int (zI (ptZ v9 5))), (10, .int (zI (ptZ (shZ v9 5) 6))), (9, .int (zI (ptZ (shZ v9 3) ((F 0) + 1)))), (8, .int (zI v9)), (0, .ref (B + 0)), (1, .ref b), (2, .int (zI from1)), (3, .ref (B + fb)), (4, .ref (B + N)), (5, .int (zI ((m : Nat) : Int))), (6, .int (zI ((P.length : Nat) : Int))), (7, .int (zI ((k : Nat) : Int)))] dL_undoes_146 (by decide) rfl ?_
        refine w_iload dL_undoes_148 0 rfl ?_
        refine w_if_ge 185 dL_undoes_150 (by decide) (by omega) (fun c_150 => ?_) (fun c_150 => ?_)
        · have hE0 : 0 ≤ E9 := by omega
          obtain ⟨pl, hpl⟩ : ∃ pl : Nat, (past E9 S1 P1).length = pl := ⟨_, rfl⟩
          have hpl2 := past_len (S := S1) (P := P1) hE0 hP16
          refine w_aload_n dL_undoes_185 rfl 6 rfl ?_
          refine w_iconst dL_undoes_186 ?_
          obtain ⟨fx_153, hfx_153⟩ := OW_0 ho_150
          refine w_calli (As := [.int (zI 5)]) (rest := []) (n := 1) (a_count (what := 5) ho_150 (by omega) (by omega) ⟨by omega, by omega⟩) gL_undoes_X10_count rfl rfl rfl (by decide +kernel) ⟨(Nat.le_of_ble_eq_true rfl), (Nat.le_of_ble_eq_true rfl)⟩ rfl (by omega) hfx_153 rfl (Nat.le_of_ble_eq_true rfl) ⟨(Nat.le_of_ble_eq_true rfl), (Nat.le_of_ble_eq_true rfl)⟩ dL_undoes_187 rfl (fun g_151 hp_152 => ?_)
          obtain ⟨ho_154, hf_155⟩ := hp_152
          have hf_156 : vIA cy B g_151 fb 64 F := vIA_fr hf_147 (fun q h1 h2 => hf_155 q (by omega))
          have ha0_157 : vLA cy B g_151 N 12 (uZ Wf ((m : Nat) : Int) (wh S1)) := vLA_fr ha0_148 (fun q h1 h2 => hf_155 q (by omega))
          have hfr_158 : ∀ q, 141 ≤ q ∧ q < N → g_151 q = g q := fun q hq => (hf_155 q (by omega)).trans (hfr_149 q hq)
          refine w_as (st' := [.int (zI ((pl : Nat) : Int))]) (sc_i (by rw [eCnt_5, hpl]) rfl) ?_
          refine w_iload dL_undoes_190 1 rfl ?_
          refine w_bipush dL_undoes_192 (by decide) ?_
          refine w_icmp_ge 204 dL_undoes_194 (by decide) (by omega) (by omega) (fun c_194 => ?_) (fun c_194 => ?_)
          · refine w_bipush dL_undoes_204 (by decide) ?_
            refine w_icmp_eq 211 dL_undoes_206 (by decide) (by omega) (by omega) (fun c_206 => ?_) (fun c_206 => ?_)
            · refine w_iinc 11 [(5, .int (zI (((m : Nat) : Int) + 1))), (13, .int (zI E9)), (12, .int (zI ((P1.length : Nat) : Int))), (11, .int (zI (ptZ v9 5))), (10, .int (zI (ptZ (shZ v9 5) 6))), (9, .int (zI (ptZ (shZ v9 3) ((F 0) + 1)))), (8, .int (zI v9)), (0, .ref (B + 0)), (1, .ref b), (2, .int (zI from1)), (3, .ref (B + fb)), (4, .ref (B + N)), (6, .int (zI ((P.length : Nat) : Int))), (7, .int (zI ((k : Nat) : Int)))] dL_undoes_211 rfl (by decide) rfl ?_
              refine w_iinc 13 [(7, .int (zI (((k : Nat) : Int) + 1))), (5, .int (zI (((m : Nat) : Int) + 1))), (13, .int (zI E9)), (12, .int (zI ((P1.length : Nat) : Int))), (11, .int (zI (ptZ v9 5))), (10, .int (zI (ptZ (shZ v9 5) 6))), (9, .int (zI (ptZ (shZ v9 3) ((F 0) + 1)))), (8, .int (zI v9)), (0, .ref (B + 0)), (1, .ref b), (2, .int (zI from1)), (3, .ref (B + fb)), (4, .ref (B + N)), (6, .int (zI ((P.length : Nat) : Int)))] dL_undoes_214 rfl (by decide) rfl ?_
              refine w_goto 19 dL_undoes_217 (by decide) ?_
              refine w_sub [(0, .ref (B + 0)), (1, .ref b), (2, .int (zI from1)), (3, .ref (B + fb)), (4, .ref (B + N)), (5, .int (zI (((m : Nat) : Int) + 1))), (6, .int (zI ((P.length : Nat) : Int))), (7, .int (zI (((k : Nat) : Int) + 1)))] [8, 9, 10, 11, 12, 1, 13, 0] rfl ?_
              refine w_lv (lv' := [(0, .ref (B + 0)), (1, .ref b), (2, .int (zI from1)), (3, .ref (B + fb)), (4, .ref (B + N)), (5, .int (zI (((m + 1) : Nat) : Int))), (6, .int (zI ((P.length : Nat) : Int))), (7, .int (zI (((k + 1) : Nat) : Int)))]) (lc_s (lc_s (lc_s (lc_s (lc_s (lc_i (by first | omega | with_reducible rfl) (lc_s (lc_i (by first | omega | with_reducible rfl) rfl)))))))) ?_
              exact ih_19 (k + 1) (m + 1) S9 (past E9 S1 P1) (uZ Wf ((m : Nat) : Int) (wh S1)) g_151 ⟨(by have h9 := ho_154; exact OW_up h9 (by omega)), hf_156, ha0_157, hfr_158, (by first | omega | with_reducible rfl), (by first | omega | with_reducible rfl), (KP_push hK hE0), (by rw [hpl2]; omega)⟩ (by first | omega | with_reducible rfl)
            · exfalso; omega
          · refine w_iload dL_undoes_197 1 rfl ?_
            refine w_iconst dL_undoes_199 ?_
            refine w_iadd dL_undoes_200 ?_
            refine w_goto 206 dL_undoes_201 (by decide) ?_
            refine w_icmp_eq 211 dL_undoes_206 (by decide) (by omega) (by omega) (fun c_206 => ?_) (fun c_206 => ?_)
            · refine w_iinc 11 [(5, .int (zI (((m : Nat) : Int) + 1))), (13, .int (zI E9)), (12, .int (zI ((P1.length : Nat) : Int))), (11, .int (zI (ptZ v9 5))), (10, .int (zI (ptZ (shZ v9 5) 6))), (9, .int (zI (ptZ (shZ v9 3) ((F 0) + 1)))), (8, .int (zI v9)), (0, .ref (B + 0)), (1, .ref b), (2, .int (zI from1)), (3, .ref (B + fb)), (4, .ref (B + N)), (6, .int (zI ((P.length : Nat) : Int))), (7, .int (zI ((k : Nat) : Int)))] dL_undoes_211 rfl (by decide) rfl ?_
              refine w_iinc 13 [(7, .int (zI (((k : Nat) : Int) + 1))), (5, .int (zI (((m : Nat) : Int) + 1))), (13, .int (zI E9)), (12, .int (zI ((P1.length : Nat) : Int))), (11, .int (zI (ptZ v9 5))), (10, .int (zI (ptZ (shZ v9 5) 6))), (9, .int (zI (ptZ (shZ v9 3) ((F 0) + 1)))), (8, .int (zI v9)), (0, .ref (B + 0)), (1, .ref b), (2, .int (zI from1)), (3, .ref (B + fb)), (4, .ref (B + N)), (6, .int (zI ((P.length : Nat) : Int)))] dL_undoes_214 rfl (by decide) rfl ?_
              refine w_goto 19 dL_undoes_217 (by decide) ?_
              refine w_sub [(0, .ref (B + 0)), (1, .ref b), (2, .int (zI from1)), (3, .ref (B + fb)), (4, .ref (B + N)), (5, .int (zI (((m : Nat) : Int) + 1))), (6, .int (zI ((P.length : Nat) : Int))), (7, .int (zI (((k : Nat) : Int) + 1)))] [8, 9, 10, 11, 12, 1, 13, 0] rfl ?_
              refine w_lv (lv' := [(0, .ref (B + 0)), (1, .ref b), (2, .int (zI from1)), (3, .ref (B + fb)), (4, .ref (B + N)), (5, .int (zI (((m + 1) : Nat) : Int))), (6, .int (zI ((P.length : Nat) : Int))), (7, .int (zI (((k + 1) : Nat) : Int)))]) (lc_s (lc_s (lc_s (lc_s (lc_s (lc_i (by first | omega | with_reducible rfl) (lc_s (lc_i (by first | omega | with_reducible rfl) rfl)))))))) ?_
              exact ih_19 (k + 1) (m + 1) S9 (past E9 S1 P1) (uZ Wf ((m : Nat) : Int) (wh S1)) g_151 ⟨(by have h9 := ho_154; exact OW_up h9 (by omega)), hf_156, ha0_157, hfr_158, (by first | omega | with_reducible rfl), (by first | omega | with_reducible rfl), (KP_push hK hE0), (by rw [hpl2]; omega)⟩ (by first | omega | with_reducible rfl)
            · exfalso; omega
        · have hE0 : E9 < 0 := by omega
          have hS9e : S9 = S1 := by rcases hcs9 with q | q; exact q.2.2; omega
          have ho_159 : OW cy B g_142 0 W S1 P1 ((M + (20 * ((k : Nat) : Int))) + 20) := by have h9 := ho_150; rw [hS9e, past_no hE0] at h9; exact h9
          refine w_iload dL_undoes_153 0 rfl ?_
          refine w_bipush dL_undoes_155 (by decide) ?_
          refine w_icmp_lt 183 dL_undoes_157 (by decide) (by omega) (by omega) (fun c_157 => ?_) (fun c_157 => ?_)
          · exfalso; omega
          · refine w_aload_n dL_undoes_160 rfl 6 rfl ?_
            refine w_calllS (As := [.ref (B + 0)]) (rest := []) (n := 1) (c_whole ho_159 (by omega) (by omega)) gL_undoes_L_whole rfl rfl rfl (by decide +kernel) ⟨(Nat.le_of_ble_eq_true rfl), (Nat.le_of_ble_eq_true rfl)⟩ rfl (Nat.le_of_ble_eq_true rfl) ⟨(Nat.le_of_ble_eq_true rfl), (Nat.le_of_ble_eq_true rfl)⟩ dL_undoes_161 rfl (fun g_160 hp_161 => ?_)
            obtain ⟨ho_162, hf_163⟩ := hp_161
            have hf_164 : vIA cy B g_160 fb 64 F := vIA_fr hf_147 (fun q h1 h2 => hf_163 q (by omega))
            have ha0_165 : vLA cy B g_160 N 12 (uZ Wf ((m : Nat) : Int) (wh S1)) := vLA_fr ha0_148 (fun q h1 h2 => hf_163 q (by omega))
            have hfr_166 : ∀ q, 141 ≤ q ∧ q < N → g_160 q = g q := fun q hq => (hf_163 q (by omega)).trans (hfr_149 q hq)
            refine w_aload dL_undoes_164 10 rfl ?_
            refine w_iload dL_undoes_166 11 rfl ?_
            refine w_lald N (by first | omega | with_reducible rfl) ha0_165 (by omega) dL_undoes_168 ?_
            refine w_as (st' := [.long (zJ (wh S1)), .long (zJ (wh S1))]) (sc_l (uZ_same _ _ _) rfl) ?_
            refine w_lcmp_neS 183 dL_undoes_169 dL_undoes_170 (by decide) ?_
            refine w_aload_n dL_undoes_173 rfl 6 rfl ?_
            refine w_iconst dL_undoes_174 ?_
            obtain ⟨fx_169, hfx_169⟩ := OW_0 ho_162
            refine w_calli (As := [.int (zI 5)]) (rest := []) (n := 1) (a_count (what := 5) ho_162 (by omega) (by omega) ⟨by omega, by omega⟩) gL_undoes_X10_count rfl rfl rfl (by decide +kernel) ⟨(Nat.le_of_ble_eq_true rfl), (Nat.le_of_ble_eq_true rfl)⟩ rfl (by omega) hfx_169 rfl (Nat.le_of_ble_eq_true rfl) ⟨(Nat.le_of_ble_eq_true rfl), (Nat.le_of_ble_eq_true rfl)⟩ dL_undoes_175 rfl (fun g_167 hp_168 => ?_)
            obtain ⟨ho_170, hf_171⟩ := hp_168
            have hf_172 : vIA cy B g_167 fb 64 F := vIA_fr hf_164 (fun q h1 h2 => hf_171 q (by omega))
            have ha0_173 : vLA cy B g_167 N 12 (uZ Wf ((m : Nat) : Int) (wh S1)) := vLA_fr ha0_165 (fun q h1 h2 => hf_171 q (by omega))
            have hfr_174 : ∀ q, 141 ≤ q ∧ q < N → g_167 q = g q := fun q hq => (hf_171 q (by omega)).trans (hfr_166 q hq)
            refine w_iload dL_undoes_178 1 rfl ?_
            refine w_as (st' := [.int (zI ((P1.length : Nat) : Int)), .int (zI ((P1.length : Nat) : Int))]) (lc_s (sc_i rfl rfl)) ?_
            refine w_icmp_eqS 214 dL_undoes_180 (by decide) ?_
            refine w_iinc 13 [(7, .int (zI (((k : Nat) : Int) + 1))), (13, .int (zI E9)), (12, .int (zI ((P1.length : Nat) : Int))), (11, .int (zI (ptZ v9 5))), (10, .int (zI (ptZ (shZ v9 5) 6))), (9, .int (zI (ptZ (shZ v9 3) ((F 0) + 1)))), (8, .int (zI v9)), (0, .ref (B + 0)), (1, .ref b), (2, .int (zI from1)), (3, .ref (B + fb)), (4, .ref (B + N)), (5, .int (zI ((m : Nat) : Int))), (6, .int (zI ((P.length : Nat) : Int)))] dL_undoes_214 rfl (by decide) rfl ?_
            refine w_goto 19 dL_undoes_217 (by decide) ?_
            refine w_sub [(0, .ref (B + 0)), (1, .ref b), (2, .int (zI from1)), (3, .ref (B + fb)), (4, .ref (B + N)), (5, .int (zI ((m : Nat) : Int))), (6, .int (zI ((P.length : Nat) : Int))), (7, .int (zI (((k : Nat) : Int) + 1)))] [7, 8, 9, 10, 11, 12, 13, 0] rfl ?_
            refine w_lv (lv' := [(0, .ref (B + 0)), (1, .ref b), (2, .int (zI from1)), (3, .ref (B + fb)), (4, .ref (B + N)), (5, .int (zI ((m : Nat) : Int))), (6, .int (zI ((P.length : Nat) : Int))), (7, .int (zI (((k + 1) : Nat) : Int)))]) (lc_s (lc_s (lc_s (lc_s (lc_s (lc_i (by first | omega | with_reducible rfl) (lc_s (lc_i (by first | omega | with_reducible rfl) rfl)))))))) ?_
            exact ih_19 (k + 1) m S1 P1 (uZ Wf ((m : Nat) : Int) (wh S1)) g_167 ⟨(by have h9 := ho_170; exact OW_up h9 (by omega)), hf_172, ha0_173, hfr_174, (by first | omega | with_reducible rfl), (by first | omega | with_reducible rfl), (KP_same hK), hPl⟩ (by first | omega | with_reducible rfl)
    · refine w_aload_n dL_undoes_91 rfl 5 rfl ?_
      refine w_iload dL_undoes_92 3 rfl ?_
      refine w_iload dL_undoes_94 2 rfl ?_
      refine w_iload dL_undoes_96 1 rfl ?_
      refine w_iload dL_undoes_98 4 rfl ?_
      refine w_bipush dL_undoes_100 (by decide) ?_
      refine w_ishr dL_undoes_102 ?_
      refine w_bipush dL_undoes_103 (by decide) ?_
      refine w_calliS (As := [.int (zI (shZ v9 8)), .int (zI 11)]) (rest := [.int (zI (ptZ v9 5)), .int (zI (ptZ (shZ v9 5) 6)), .int (zI (ptZ (shZ v9 3) ((F 0) + 1))), .ref (B + 0)]) (n := 2) (c_part (v := (shZ v9 8)) (n := 11) (by first | omega | with_reducible rfl)) gL_undoes_L_part rfl rfl rfl (by decide +kernel) ⟨(Nat.le_of_ble_eq_true rfl), (Nat.le_of_ble_eq_true rfl)⟩ rfl (Nat.le_of_ble_eq_true rfl) ⟨(Nat.le_of_ble_eq_true rfl), (Nat.le_of_ble_eq_true rfl)⟩ dL_undoes_105 rfl (fun g_175 hp_176 => ?_)
      subst g_175
      have ha8 := ptZ_rg (shZ v9 8) (n := 11) (by omega)
      obtain ⟨fx_179, hfx_179⟩ := OW_0 ho_103
      refine w_calli (As := [.int (zI (ptZ (shZ v9 3) ((F 0) + 1))), .int (zI (ptZ (shZ v9 5) 6)), .int (zI (ptZ v9 5)), .int (zI (ptZ (shZ v9 8) 11))]) (rest := []) (n := 4) (a_set (s := (ptZ (shZ v9 3) ((F 0) + 1))) (j := (ptZ (shZ v9 5) 6)) (what := (ptZ v9 5)) (x := (ptZ (shZ v9 8) 11)) ho_103 (by omega) (by omega) ⟨by omega, by omega⟩ ⟨by omega, by omega⟩ ⟨by omega, by omega⟩ ⟨by omega, by omega⟩) gL_undoes_X10_set rfl rfl rfl (by decide +kernel) ⟨(Nat.le_of_ble_eq_true rfl), (Nat.le_of_ble_eq_true rfl)⟩ rfl (by omega) hfx_179 rfl (Nat.le_of_ble_eq_true rfl) ⟨(Nat.le_of_ble_eq_true rfl), (Nat.le_of_ble_eq_true rfl)⟩ dL_undoes_108 rfl (fun g_177 hp_178 => ?_)
      obtain ⟨ho_180, hf_181⟩ := hp_178
      have hf_182 : vIA cy B g_177 fb 64 F := vIA_fr hf_104 (fun q h1 h2 => hf_181 q (by omega))
      have ha0_183 : vLA cy B g_177 N 12 (uZ Wf ((m : Nat) : Int) (wh S1)) := vLA_fr ha0_105 (fun q h1 h2 => hf_181 q (by omega))
      have hfr_184 : ∀ q, 141 ≤ q ∧ q < N → g_177 q = g q := fun q hq => (hf_181 q (by omega)).trans (hfr_106 q hq)
      refine w_goto 146 dL_undoes_111 (by decide) ?_
      obtain ⟨E9, S9, hE9, hS9⟩ : ∃ (E9 : Int) (S9 : St), (stSet S1 (ptZ (shZ v9 3) ((F 0) + 1)) (ptZ (shZ v9 5) 6) (ptZ v9 5) (ptZ (shZ v9 8) 11)).1 = E9 ∧ (stSet S1 (ptZ (shZ v9 3) ((F 0) + 1)) (ptZ (shZ v9 5) 6) (ptZ v9 5) (ptZ (shZ v9 8) 11)).2 = S9 := ⟨_, _, rfl, rfl⟩
      have hcs9 := stSet_cs S1 hS1 (ptZ (shZ v9 3) ((F 0) + 1)) (ptZ (shZ v9 5) 6) (ptZ v9 5) (ptZ (shZ v9 8) 11)
      rw [hE9, hS9] at hcs9
      have ho_185 : OW cy B g_177 0 W S9 (past E9 S1 P1) ((M + (20 * ((k : Nat) : Int))) + 20) := by have h9 := ho_180; rw [hE9, hS9] at h9; exact h9
      refine w_as (st' := [.int (zI E9)]) (sc_i hE9 rfl) ?_
      refine w_istore [(13, .int (zI E9)), (12, .int (zI ((P1.length : Nat) : Int))), (11, .int (zI (ptZ v9 5))), (10, .int (zI (ptZ (shZ v9 5) 6))), (9, .int (zI (ptZ (shZ v9 3) ((F 0) + 1)))), (8, .int (zI v9)), (0, .ref (B + 0)), (1, .ref b), (2, .int (zI from1)), (3, .ref (B + fb)), (4, .ref (B + N)), (5, .int (zI ((m : Nat) : Int))), (6, .int (zI ((P.length : Nat) : Int))), (7, .int (zI ((k : Nat) : Int)))] dL_undoes_146 (by decide) rfl ?_
      refine w_iload dL_undoes_148 0 rfl ?_
      refine w_if_ge 185 dL_undoes_150 (by decide) (by omega) (fun c_150 => ?_) (fun c_150 => ?_)
      · have hE0 : 0 ≤ E9 := by omega
        obtain ⟨pl, hpl⟩ : ∃ pl : Nat, (past E9 S1 P1).length = pl := ⟨_, rfl⟩
        have hpl2 := past_len (S := S1) (P := P1) hE0 hP16
        refine w_aload_n dL_undoes_185 rfl 6 rfl ?_
        refine w_iconst dL_undoes_186 ?_
        obtain ⟨fx_188, hfx_188⟩ := OW_0 ho_185
        refine w_calli (As := [.int (zI 5)]) (rest := []) (n := 1) (a_count (what := 5) ho_185 (by omega) (by omega) ⟨by omega, by omega⟩) gL_undoes_X10_count rfl rfl rfl (by decide +kernel) ⟨(Nat.le_of_ble_eq_true rfl), (Nat.le_of_ble_eq_true rfl)⟩ rfl (by omega) hfx_188 rfl (Nat.le_of_ble_eq_true rfl) ⟨(Nat.le_of_ble_eq_true rfl), (Nat.le_of_ble_eq_true rfl)⟩ dL_undoes_187 rfl (fun g_186 hp_187 => ?_)
        obtain ⟨ho_189, hf_190⟩ := hp_187
        have hf_191 : vIA cy B g_186 fb 64 F := vIA_fr hf_182 (fun q h1 h2 => hf_190 q (by omega))
        have ha0_192 : vLA cy B g_186 N 12 (uZ Wf ((m : Nat) : Int) (wh S1)) := vLA_fr ha0_183 (fun q h1 h2 => hf_190 q (by omega))
        have hfr_193 : ∀ q, 141 ≤ q ∧ q < N → g_186 q = g q := fun q hq => (hf_190 q (by omega)).trans (hfr_184 q hq)
        refine w_as (st' := [.int (zI ((pl : Nat) : Int))]) (sc_i (by rw [eCnt_5, hpl]) rfl) ?_
        refine w_iload dL_undoes_190 1 rfl ?_
        refine w_bipush dL_undoes_192 (by decide) ?_
        refine w_icmp_ge 204 dL_undoes_194 (by decide) (by omega) (by omega) (fun c_194 => ?_) (fun c_194 => ?_)
        · refine w_bipush dL_undoes_204 (by decide) ?_
          refine w_icmp_eq 211 dL_undoes_206 (by decide) (by omega) (by omega) (fun c_206 => ?_) (fun c_206 => ?_)
          · refine w_iinc 11 [(5, .int (zI (((m : Nat) : Int) + 1))), (13, .int (zI E9)), (12, .int (zI ((P1.length : Nat) : Int))), (11, .int (zI (ptZ v9 5))), (10, .int (zI (ptZ (shZ v9 5) 6))), (9, .int (zI (ptZ (shZ v9 3) ((F 0) + 1)))), (8, .int (zI v9)), (0, .ref (B + 0)), (1, .ref b), (2, .int (zI from1)), (3, .ref (B + fb)), (4, .ref (B + N)), (6, .int (zI ((P.length : Nat) : Int))), (7, .int (zI ((k : Nat) : Int)))] dL_undoes_211 rfl (by decide) rfl ?_
            refine w_iinc 13 [(7, .int (zI (((k : Nat) : Int) + 1))), (5, .int (zI (((m : Nat) : Int) + 1))), (13, .int (zI E9)), (12, .int (zI ((P1.length : Nat) : Int))), (11, .int (zI (ptZ v9 5))), (10, .int (zI (ptZ (shZ v9 5) 6))), (9, .int (zI (ptZ (shZ v9 3) ((F 0) + 1)))), (8, .int (zI v9)), (0, .ref (B + 0)), (1, .ref b), (2, .int (zI from1)), (3, .ref (B + fb)), (4, .ref (B + N)), (6, .int (zI ((P.length : Nat) : Int)))] dL_undoes_214 rfl (by decide) rfl ?_
            refine w_goto 19 dL_undoes_217 (by decide) ?_
            refine w_sub [(0, .ref (B + 0)), (1, .ref b), (2, .int (zI from1)), (3, .ref (B + fb)), (4, .ref (B + N)), (5, .int (zI (((m : Nat) : Int) + 1))), (6, .int (zI ((P.length : Nat) : Int))), (7, .int (zI (((k : Nat) : Int) + 1)))] [8, 9, 10, 11, 12, 1, 13, 0] rfl ?_
            refine w_lv (lv' := [(0, .ref (B + 0)), (1, .ref b), (2, .int (zI from1)), (3, .ref (B + fb)), (4, .ref (B + N)), (5, .int (zI (((m + 1) : Nat) : Int))), (6, .int (zI ((P.length : Nat) : Int))), (7, .int (zI (((k + 1) : Nat) : Int)))]) (lc_s (lc_s (lc_s (lc_s (lc_s (lc_i (by first | omega | with_reducible rfl) (lc_s (lc_i (by first | omega | with_reducible rfl) rfl)))))))) ?_
            exact ih_19 (k + 1) (m + 1) S9 (past E9 S1 P1) (uZ Wf ((m : Nat) : Int) (wh S1)) g_186 ⟨(by have h9 := ho_189; exact OW_up h9 (by omega)), hf_191, ha0_192, hfr_193, (by first | omega | with_reducible rfl), (by first | omega | with_reducible rfl), (KP_push hK hE0), (by rw [hpl2]; omega)⟩ (by first | omega | with_reducible rfl)
          · exfalso; omega
        · refine w_iload dL_undoes_197 1 rfl ?_
          refine w_iconst dL_undoes_199 ?_
          refine w_iadd dL_undoes_200 ?_
          refine w_goto 206 dL_undoes_201 (by decide) ?_
          refine w_icmp_eq 211 dL_undoes_206 (by decide) (by omega) (by omega) (fun c_206 => ?_) (fun c_206 => ?_)
          · refine w_iinc 11 [(5, .int (zI (((m : Nat) : Int) + 1))), (13, .int (zI E9)), (12, .int (zI ((P1.length : Nat) : Int))), (11, .int (zI (ptZ v9 5))), (10, .int (zI (ptZ (shZ v9 5) 6))), (9, .int (zI (ptZ (shZ v9 3) ((F 0) + 1)))), (8, .int (zI v9)), (0, .ref (B + 0)), (1, .ref b), (2, .int (zI from1)), (3, .ref (B + fb)), (4, .ref (B + N)), (6, .int (zI ((P.length : Nat) : Int))), (7, .int (zI ((k : Nat) : Int)))] dL_undoes_211 rfl (by decide) rfl ?_
            refine w_iinc 13 [(7, .int (zI (((k : Nat) : Int) + 1))), (5, .int (zI (((m : Nat) : Int) + 1))), (13, .int (zI E9)), (12, .int (zI ((P1.length : Nat) : Int))), (11, .int (zI (ptZ v9 5))), (10, .int (zI (ptZ (shZ v9 5) 6))), (9, .int (zI (ptZ (shZ v9 3) ((F 0) + 1)))), (8, .int (zI v9)), (0, .ref (B + 0)), (1, .ref b), (2, .int (zI from1)), (3, .ref (B + fb)), (4, .ref (B + N)), (6, .int (zI ((P.length : Nat) : Int)))] dL_undoes_214 rfl (by decide) rfl ?_
            refine w_goto 19 dL_undoes_217 (by decide) ?_
            refine w_sub [(0, .ref (B + 0)), (1, .ref b), (2, .int (zI from1)), (3, .ref (B + fb)), (4, .ref (B + N)), (5, .int (zI (((m : Nat) : Int) + 1))), (6, .int (zI ((P.length : Nat) : Int))), (7, .int (zI (((k : Nat) : Int) + 1)))] [8, 9, 10, 11, 12, 1, 13, 0] rfl ?_
            refine w_lv (lv' := [(0, .ref (B + 0)), (1, .ref b), (2, .int (zI from1)), (3, .ref (B + fb)), (4, .ref (B + N)), (5, .int (zI (((m + 1) : Nat) : Int))), (6, .int (zI ((P.length : Nat) : Int))), (7, .int (zI (((k + 1) : Nat) : Int)))]) (lc_s (lc_s (lc_s (lc_s (lc_s (lc_i (by first | omega | with_reducible rfl) (lc_s (lc_i (by first | omega | with_reducible rfl) rfl)))))))) ?_
            exact ih_19 (k + 1) (m + 1) S9 (past E9 S1 P1) (uZ Wf ((m : Nat) : Int) (wh S1)) g_186 ⟨(by have h9 := ho_189; exact OW_up h9 (by omega)), hf_191, ha0_192, hfr_193, (by first | omega | with_reducible rfl), (by first | omega | with_reducible rfl), (KP_push hK hE0), (by rw [hpl2]; omega)⟩ (by first | omega | with_reducible rfl)
          · exfalso; omega
      · have hE0 : E9 < 0 := by omega
        have hS9e : S9 = S1 := by rcases hcs9 with q | q; exact q.2.2; omega
        have ho_194 : OW cy B g_177 0 W S1 P1 ((M + (20 * ((k : Nat) : Int))) + 20) := by have h9 := ho_185; rw [hS9e, past_no hE0] at h9; exact h9
        refine w_iload dL_undoes_153 0 rfl ?_
        refine w_bipush dL_undoes_155 (by decide) ?_
        refine w_icmp_lt 183 dL_undoes_157 (by decide) (by omega) (by omega) (fun c_157 => ?_) (fun c_157 => ?_)
        · exfalso; omega
        · refine w_aload_n dL_undoes_160 rfl 6 rfl ?_
          refine w_calllS (As := [.ref (B + 0)]) (rest := []) (n := 1) (c_whole ho_194 (by omega) (by omega)) gL_undoes_L_whole rfl rfl rfl (by decide +kernel) ⟨(Nat.le_of_ble_eq_true rfl), (Nat.le_of_ble_eq_true rfl)⟩ rfl (Nat.le_of_ble_eq_true rfl) ⟨(Nat.le_of_ble_eq_true rfl), (Nat.le_of_ble_eq_true rfl)⟩ dL_undoes_161 rfl (fun g_195 hp_196 => ?_)
          obtain ⟨ho_197, hf_198⟩ := hp_196
          have hf_199 : vIA cy B g_195 fb 64 F := vIA_fr hf_182 (fun q h1 h2 => hf_198 q (by omega))
          have ha0_200 : vLA cy B g_195 N 12 (uZ Wf ((m : Nat) : Int) (wh S1)) := vLA_fr ha0_183 (fun q h1 h2 => hf_198 q (by omega))
          have hfr_201 : ∀ q, 141 ≤ q ∧ q < N → g_195 q = g q := fun q hq => (hf_198 q (by omega)).trans (hfr_184 q hq)
          refine w_aload dL_undoes_164 10 rfl ?_
          refine w_iload dL_undoes_166 11 rfl ?_
          refine w_lald N (by first | omega | with_reducible rfl) ha0_200 (by omega) dL_undoes_168 ?_
          refine w_as (st' := [.long (zJ (wh S1)), .long (zJ (wh S1))]) (sc_l (uZ_same _ _ _) rfl) ?_
          refine w_lcmp_neS 183 dL_undoes_169 dL_undoes_170 (by decide) ?_
          refine w_aload_n dL_undoes_173 rfl 6 rfl ?_
          refine w_iconst dL_undoes_174 ?_
          obtain ⟨fx_204, hfx_204⟩ := OW_0 ho_197
          refine w_calli (As := [.int (zI 5)]) (rest := []) (n := 1) (a_count (what := 5) ho_197 (by omega) (by omega) ⟨by omega, by omega⟩) gL_undoes_X10_count rfl rfl rfl (by decide +kernel) ⟨(Nat.le_of_ble_eq_true rfl), (Nat.le_of_ble_eq_true rfl)⟩ rfl (by omega) hfx_204 rfl (Nat.le_of_ble_eq_true rfl) ⟨(Nat.le_of_ble_eq_true rfl), (Nat.le_of_ble_eq_true rfl)⟩ dL_undoes_175 rfl (fun g_202 hp_203 => ?_)
          obtain ⟨ho_205, hf_206⟩ := hp_203
          have hf_207 : vIA cy B g_202 fb 64 F := vIA_fr hf_199 (fun q h1 h2 => hf_206 q (by omega))
          have ha0_208 : vLA cy B g_202 N 12 (uZ Wf ((m : Nat) : Int) (wh S1)) := vLA_fr ha0_200 (fun q h1 h2 => hf_206 q (by omega))
          have hfr_209 : ∀ q, 141 ≤ q ∧ q < N → g_202 q = g q := fun q hq => (hf_206 q (by omega)).trans (hfr_201 q hq)
          refine w_iload dL_undoes_178 1 rfl ?_
          refine w_as (st' := [.int (zI ((P1.length : Nat) : Int)), .int (zI ((P1.length : Nat) : Int))]) (lc_s (sc_i rfl rfl)) ?_
          refine w_icmp_eqS 214 dL_undoes_180 (by decide) ?_
          refine w_iinc 13 [(7, .int (zI (((k : Nat) : Int) + 1))), (13, .int (zI E9)), (12, .int (zI ((P1.length : Nat) : Int))), (11, .int (zI (ptZ v9 5))), (10, .int (zI (ptZ (shZ v9 5) 6))), (9, .int (zI (ptZ (shZ v9 3) ((F 0) + 1)))), (8, .int (zI v9)), (0, .ref (B + 0)), (1, .ref b), (2, .int (zI from1)), (3, .ref (B + fb)), (4, .ref (B + N)), (5, .int (zI ((m : Nat) : Int))), (6, .int (zI ((P.length : Nat) : Int)))] dL_undoes_214 rfl (by decide) rfl ?_
          refine w_goto 19 dL_undoes_217 (by decide) ?_
          refine w_sub [(0, .ref (B + 0)), (1, .ref b), (2, .int (zI from1)), (3, .ref (B + fb)), (4, .ref (B + N)), (5, .int (zI ((m : Nat) : Int))), (6, .int (zI ((P.length : Nat) : Int))), (7, .int (zI (((k : Nat) : Int) + 1)))] [7, 8, 9, 10, 11, 12, 13, 0] rfl ?_
          refine w_lv (lv' := [(0, .ref (B + 0)), (1, .ref b), (2, .int (zI from1)), (3, .ref (B + fb)), (4, .ref (B + N)), (5, .int (zI ((m : Nat) : Int))), (6, .int (zI ((P.length : Nat) : Int))), (7, .int (zI (((k + 1) : Nat) : Int)))]) (lc_s (lc_s (lc_s (lc_s (lc_s (lc_i (by first | omega | with_reducible rfl) (lc_s (lc_i (by first | omega | with_reducible rfl) rfl)))))))) ?_
          exact ih_19 (k + 1) m S1 P1 (uZ Wf ((m : Nat) : Int) (wh S1)) g_202 ⟨(by have h9 := ho_205; exact OW_up h9 (by omega)), hf_207, ha0_208, hfr_209, (by first | omega | with_reducible rfl), (by first | omega | with_reducible rfl), (KP_same hK), hPl⟩ (by first | omega | with_reducible rfl)

