/-! ===== refused calls; texts with faults ===== -/
theorem e0 {S : St} {x d : Int} (h : 0 < S.length) : (if 0 ≤ (0 : Int) ∧ (0 : Int) < S.length then x else d) = x := if_pos ⟨by omega, by omega⟩
theorem eN {S : St} {x d : Int} : (if 0 ≤ ((S.length : Nat) : Int) ∧ ((S.length : Nat) : Int) < S.length then x else d) = d := if_neg (by omega)
theorem set_s {S : St} {s j what x : Int} (h : ¬ (0 ≤ s ∧ s < S.length)) : stSet S s j what x = (-1, S) := if_pos h
theorem set_b {S : St} {j what x : Int} (h0 : 0 < S.length) (hb : ¬ (0 ≤ j ∧ j < (S.getD 0 []).length) ∨ ¬ (0 ≤ what ∧ what ≤ 1) ∨ x < 0 ∨ (what = 0 ∧ coT (S.getD 0 []) j < x) ∨ (what = 1 ∧ 9 < x)) : stSet S 0 j what x = (-1, S) := by
  unfold stSet
  rw [if_neg (fun q => q ⟨by omega, by omega⟩)]
  exact if_pos hb
theorem set_n {S : St} {j x : Int} (h0 : 0 < S.length) (hj : 0 ≤ j ∧ j < (S.getD 0 []).length) (hr : 0 ≤ x ∧ x ≤ coT (S.getD 0 []) j) (hx : coX (S.getD 0 []) j = x) : stSet S 0 j 0 x = (-2, S) := by
  unfold stSet
  rw [if_neg (fun q => q ⟨by omega, by omega⟩), show (0 : Int).toNat = 0 from rfl, if_neg (by omega), if_pos rfl]
  exact if_pos hx
theorem mov_s {S : St} {s a b : Int} (h : ¬ (0 ≤ s ∧ s < S.length)) : stMove S s a b = (-1, S) := if_pos h
theorem mov_b {S : St} {a b : Int} (h0 : 0 < S.length) (hb : a = b ∨ ¬ (0 ≤ a ∧ a < (S.getD 0 []).length) ∨ ¬ (0 ≤ b ∧ b < (S.getD 0 []).length)) : stMove S 0 a b = (-1, S) := by
  unfold stMove
  rw [if_neg (fun q => q ⟨by omega, by omega⟩)]
  exact if_pos hb
theorem trn_s {S : St} {s : Int} (h : ¬ (0 ≤ s ∧ s < S.length)) : stTurn S s = (-1, S) := if_pos h
theorem z_col {S : St} (h : 0 < S.length) (j what : Int) : eCol S 0 j what = aCol (S.getD 0 []) j what := e0 h
theorem z_str {S : St} (h : 0 < S.length) (what : Int) : eStr S 0 what = aStr (S.getD 0 []) what := e0 h
theorem z_way {S : St} (h : 0 < S.length) (what : Int) : eWay S 0 what = aWay (S.getD 0 []) what := e0 h
theorem z_cha {S : St} (h : 0 < S.length) (law part : Int) : eCha S 0 law part = aCha (S.getD 0 []) law part := e0 h
theorem z_sta {S : St} (h : 0 < S.length) (law : Int) : eSta S 0 law = aSta (S.getD 0 []) law := e0 h
theorem z_nod {S : St} (h : 0 < S.length) (j a what : Int) : eNod S 0 j a what = aNod (S.getD 0 []) j a what := e0 h
theorem z_loo {S : St} (h : 0 < S.length) (what : Int) : eLoo S 0 what = aLoo (S.getD 0 []) what := e0 h
theorem z_tab {S : St} (h : 0 < S.length) (t j : Int) : eTab S 0 t j = aTab (S.getD 0 []) t j := e0 h
theorem z_lik {S : St} (h : 0 < S.length) (j : Int) : eLik S 0 j = aLik (S.getD 0 []) j := e0 h
theorem aCol_j {c : List Co} {j what : Int} (h : ¬ (0 ≤ j ∧ j < c.length)) : aCol c j what = -1 := if_neg h
theorem aCol_3 (c : List Co) (j : Int) : aCol c j 3 = -1 := by
  unfold aCol
  split <;> rfl
theorem aNod_b {c : List Co} {j a what : Int} (h : ¬ (0 ≤ what ∧ what ≤ 3 ∧ 0 ≤ j ∧ j ≤ c.length ∧ 0 ≤ a ∧ a ≤ coR c)) : aNod c j a what = -1 := if_neg h
theorem aTab_b {c : List Co} {t j : Int} (h : ¬ (0 ≤ j ∧ j < c.length ∧ 0 ≤ t ∧ t < tc (coL c) (coR c))) : aTab c t j = -1 := if_neg h
theorem aCha_b {c : List Co} {law part : Int} (h : ¬ (0 ≤ law ∧ law ≤ 2 ∧ 0 ≤ part ∧ part ≤ 1)) : aCha c law part = -1 := if_neg h
theorem aSta_b {c : List Co} {law : Int} (h : ¬ (0 ≤ law ∧ law ≤ 2)) : aSta c law = -1 := if_neg h
theorem aLik_b {c : List Co} {j : Int} (h : ¬ (0 ≤ j ∧ j < c.length)) : aLik c j = -1 := if_neg h
theorem eJoi_b {S : St} {law part : Int} (h : ¬ (1 ≤ law ∧ law ≤ 2 ∧ 0 ≤ part ∧ part ≤ 1)) : eJoi S law part = -1 := if_neg h
theorem eCnt_7 (W : List Int) (S : St) (P : List St) : eCnt W S P 7 = -1 := by
  unfold eCnt
  rw [if_neg (by omega), if_neg (by omega), if_neg (by omega), if_pos (by omega)]
set_option maxHeartbeats 64000000 in
set_option maxRecDepth 100000 in
theorem c_refused {l : Launch} {D : va_G} {cy : Nat → ClassId} {B N : Nat} {g : Nat → va_E} {W : List Int} {S : St} {P : List St} {M : Int} (ho : OW cy B g 0 W S P M) (hN : 141 ≤ N) (hM : M < 2147470000) : CTi l yL_refused wsL_refused (rmo 15 387) D cy B N g [.ref (B + 0)] 1 (fun g' => OW cy B g' 0 W S P (M + 220) ∧ (∀ q, 141 ≤ q → g' q = g q)) := by
  refine WW_of (cc := cL_refused) (maxL := 7) (ret := (some .boolean)) (own := RL) (by decide) rfl rfl (Nat.le_of_ble_eq_true rfl) rfl ?_
  intro pp ee ss mm bl me co hmn
  have hfr_0 : ∀ q, 141 ≤ q → g q = g q := fun _ _ => rfl
  have hwf := OW_wf ho
  have hS := WF_S hwf
  have hS3 := hS.1
  have hS0 : 0 < S.length := by omega
  obtain ⟨hcc, h2⟩ := hS.2 0 hS0
  have hc5 := hcc.1
  obtain ⟨hT0, hX0, -⟩ := hcc.2 0 (by omega) (by omega)
  have htc := tc_sm hcc
  obtain ⟨hs1, hs2, -⟩ := seen_at hcc
  obtain ⟨-, hco2, hco3, -⟩ := coL_S hcc
  refine w_aload_n dL_refused_0 rfl 0 rfl ?_
  refine w_calllS (As := [.ref (B + 0)]) (rest := []) (n := 1) (c_whole ho (by omega) (by omega)) gL_refused_L_whole rfl rfl rfl (by decide +kernel) ⟨(Nat.le_of_ble_eq_true rfl), (Nat.le_of_ble_eq_true rfl)⟩ rfl (Nat.le_of_ble_eq_true rfl) ⟨Nat.zero_le _, Nat.zero_le _⟩ dL_refused_1 rfl (fun g_1 hp_2 => ?_)
  obtain ⟨ho_3, hf_4⟩ := hp_2
  have hfr_5 : ∀ q, 141 ≤ q → g_1 q = g q := fun q hq => (hf_4 q (by omega)).trans (hfr_0 q hq)
  refine w_lstore_n [(1, .long (zJ (wh S))), (0, .ref (B + 0))] dL_refused_4 rfl (by decide) rfl ?_
  refine w_aload_n dL_refused_5 rfl 1 rfl ?_
  refine w_iconst dL_refused_6 ?_
  obtain ⟨fx_8, hfx_8⟩ := OW_0 ho_3
  refine w_calli (As := [.int (zI 5)]) (rest := []) (n := 1) (a_count (what := 5) ho_3 (by omega) (by omega) ⟨by omega, by omega⟩) gL_refused_X10_count rfl rfl rfl (by decide +kernel) ⟨(Nat.le_of_ble_eq_true rfl), (Nat.le_of_ble_eq_true rfl)⟩ rfl (by omega) hfx_8 rfl (Nat.le_of_ble_eq_true rfl) ⟨Nat.zero_le _, Nat.zero_le _⟩ dL_refused_7 rfl (fun g_6 hp_7 => ?_)
  obtain ⟨ho_9, hf_10⟩ := hp_7
  have hfr_11 : ∀ q, 141 ≤ q → g_6 q = g q := fun q hq => (hf_10 q (by omega)).trans (hfr_5 q hq)
  refine w_as (st' := [.int (zI ((P.length : Nat) : Int))]) (sc_i rfl rfl) ?_
  refine w_istore_n [(3, .int (zI ((P.length : Nat) : Int))), (1, .long (zJ (wh S))), (0, .ref (B + 0))] dL_refused_10 rfl (by decide) rfl ?_
  refine w_aload_n dL_refused_11 rfl 2 rfl ?_
  refine w_iconst dL_refused_12 ?_
  obtain ⟨fx_14, hfx_14⟩ := OW_0 ho_9
  refine w_calli (As := [.int (zI 0)]) (rest := []) (n := 1) (a_count (what := 0) ho_9 (by omega) (by omega) ⟨by omega, by omega⟩) gL_refused_X10_count rfl rfl rfl (by decide +kernel) ⟨(Nat.le_of_ble_eq_true rfl), (Nat.le_of_ble_eq_true rfl)⟩ rfl (by omega) hfx_14 rfl (Nat.le_of_ble_eq_true rfl) ⟨Nat.zero_le _, Nat.zero_le _⟩ dL_refused_13 rfl (fun g_12 hp_13 => ?_)
  obtain ⟨ho_15, hf_16⟩ := hp_13
  have hfr_17 : ∀ q, 141 ≤ q → g_12 q = g q := fun q hq => (hf_16 q (by omega)).trans (hfr_11 q hq)
  refine w_as (st' := [.int (zI ((S.length : Nat) : Int))]) (sc_i rfl rfl) ?_
  refine w_istore [(4, .int (zI ((S.length : Nat) : Int))), (3, .int (zI ((P.length : Nat) : Int))), (1, .long (zJ (wh S))), (0, .ref (B + 0))] dL_refused_16 (by decide) rfl ?_
  refine w_aload_n dL_refused_18 rfl 3 rfl ?_
  refine w_iconst dL_refused_19 ?_
  refine w_iconst dL_refused_20 ?_
  obtain ⟨fx_20, hfx_20⟩ := OW_0 ho_15
  refine w_calli (As := [.int (zI 0), .int (zI 0)]) (rest := []) (n := 2) (a_stratum (s := 0) (what := 0) ho_15 (by omega) (by omega) ⟨by omega, by omega⟩ ⟨by omega, by omega⟩) gL_refused_X10_stratum rfl rfl rfl (by decide +kernel) ⟨(Nat.le_of_ble_eq_true rfl), (Nat.le_of_ble_eq_true rfl)⟩ rfl (by omega) hfx_20 rfl (Nat.le_of_ble_eq_true rfl) ⟨Nat.zero_le _, Nat.zero_le _⟩ dL_refused_21 rfl (fun g_18 hp_19 => ?_)
  obtain ⟨ho_21, hf_22⟩ := hp_19
  have hfr_23 : ∀ q, 141 ≤ q → g_18 q = g q := fun q hq => (hf_22 q (by omega)).trans (hfr_17 q hq)
  refine w_as (st' := [.int (zI (((S.getD 0 []).length : Nat) : Int))]) (sc_i (z_str hS0 0) rfl) ?_
  refine w_istore [(5, .int (zI (((S.getD 0 []).length : Nat) : Int))), (4, .int (zI ((S.length : Nat) : Int))), (3, .int (zI ((P.length : Nat) : Int))), (1, .long (zJ (wh S))), (0, .ref (B + 0))] dL_refused_24 (by decide) rfl ?_
  refine w_aload_n dL_refused_26 rfl 4 rfl ?_
  refine w_bipush dL_refused_27 (by decide) ?_
  obtain ⟨fx_26, hfx_26⟩ := OW_0 ho_21
  refine w_calli (As := [.int (zI 31)]) (rest := []) (n := 1) (n_write (x := 31) ho_21 (by omega) (by omega) ⟨by omega, by omega⟩ (by omega)) gL_refused_X10_write rfl rfl rfl (by decide +kernel) ⟨(Nat.le_of_ble_eq_true rfl), (Nat.le_of_ble_eq_true rfl)⟩ rfl (by omega) hfx_26 rfl (Nat.le_of_ble_eq_true rfl) ⟨Nat.zero_le _, Nat.zero_le _⟩ dL_refused_29 rfl (fun g_24 hp_25 => ?_)
  obtain ⟨ho_27, hf_28⟩ := hp_25
  have hfr_29 : ∀ q, 141 ≤ q → g_24 q = g q := fun q hq => (hf_28 q (by omega)).trans (hfr_23 q hq)
  refine w_iconst dL_refused_32 ?_
  refine w_icmp_neS 241 dL_refused_33 (by decide) ?_
  refine w_aload_n dL_refused_36 rfl 4 rfl ?_
  refine w_bipush dL_refused_37 (by decide) ?_
  obtain ⟨fx_32, hfx_32⟩ := OW_0 ho_27
  refine w_calli (As := [.int (zI 127)]) (rest := []) (n := 1) (n_write (x := 127) ho_27 (by omega) (by omega) ⟨by omega, by omega⟩ (by omega)) gL_refused_X10_write rfl rfl rfl (by decide +kernel) ⟨(Nat.le_of_ble_eq_true rfl), (Nat.le_of_ble_eq_true rfl)⟩ rfl (by omega) hfx_32 rfl (Nat.le_of_ble_eq_true rfl) ⟨Nat.zero_le _, Nat.zero_le _⟩ dL_refused_39 rfl (fun g_30 hp_31 => ?_)
  obtain ⟨ho_33, hf_34⟩ := hp_31
  have hfr_35 : ∀ q, 141 ≤ q → g_30 q = g q := fun q hq => (hf_34 q (by omega)).trans (hfr_29 q hq)
  refine w_iconst dL_refused_42 ?_
  refine w_icmp_neS 241 dL_refused_43 (by decide) ?_
  refine w_aload_n dL_refused_46 rfl 4 rfl ?_
  refine w_iload dL_refused_47 1 rfl ?_
  refine w_iconst dL_refused_49 ?_
  refine w_iconst dL_refused_50 ?_
  refine w_iconst dL_refused_51 ?_
  obtain ⟨fx_38, hfx_38⟩ := OW_0 ho_33
  refine w_calli (As := [.int (zI ((S.length : Nat) : Int)), .int (zI 0), .int (zI 0), .int (zI 1)]) (rest := []) (n := 4) (r_set (s := ((S.length : Nat) : Int)) (j := 0) (what := 0) (x := 1) (e := (-1)) ho_33 (by omega) (by omega) ⟨by omega, by omega⟩ ⟨by omega, by omega⟩ ⟨by omega, by omega⟩ ⟨by omega, by omega⟩ (set_s (by omega)) (by omega)) gL_refused_X10_set rfl rfl rfl (by decide +kernel) ⟨(Nat.le_of_ble_eq_true rfl), (Nat.le_of_ble_eq_true rfl)⟩ rfl (by omega) hfx_38 rfl (Nat.le_of_ble_eq_true rfl) ⟨Nat.zero_le _, Nat.zero_le _⟩ dL_refused_52 rfl (fun g_36 hp_37 => ?_)
  obtain ⟨ho_39, hf_40⟩ := hp_37
  have hfr_41 : ∀ q, 141 ≤ q → g_36 q = g q := fun q hq => (hf_40 q (by omega)).trans (hfr_35 q hq)
  refine w_iconst dL_refused_55 ?_
  refine w_icmp_neS 241 dL_refused_56 (by decide) ?_
  refine w_aload_n dL_refused_59 rfl 4 rfl ?_
  refine w_iconst dL_refused_60 ?_
  refine w_iload dL_refused_61 0 rfl ?_
  refine w_iconst dL_refused_63 ?_
  refine w_iconst dL_refused_64 ?_
  obtain ⟨fx_44, hfx_44⟩ := OW_0 ho_39
  refine w_calli (As := [.int (zI 0), .int (zI (((S.getD 0 []).length : Nat) : Int)), .int (zI 0), .int (zI 1)]) (rest := []) (n := 4) (r_set (s := 0) (j := (((S.getD 0 []).length : Nat) : Int)) (what := 0) (x := 1) (e := (-1)) ho_39 (by omega) (by omega) ⟨by omega, by omega⟩ ⟨by omega, by omega⟩ ⟨by omega, by omega⟩ ⟨by omega, by omega⟩ (set_b hS0 (Or.inl (by omega))) (by omega)) gL_refused_X10_set rfl rfl rfl (by decide +kernel) ⟨(Nat.le_of_ble_eq_true rfl), (Nat.le_of_ble_eq_true rfl)⟩ rfl (by omega) hfx_44 rfl (Nat.le_of_ble_eq_true rfl) ⟨Nat.zero_le _, Nat.zero_le _⟩ dL_refused_65 rfl (fun g_42 hp_43 => ?_)
  obtain ⟨ho_45, hf_46⟩ := hp_43
  have hfr_47 : ∀ q, 141 ≤ q → g_42 q = g q := fun q hq => (hf_46 q (by omega)).trans (hfr_41 q hq)
  refine w_iconst dL_refused_68 ?_
  refine w_icmp_neS 241 dL_refused_69 (by decide) ?_
  refine w_aload_n dL_refused_72 rfl 4 rfl ?_
  refine w_iconst dL_refused_73 ?_
  refine w_iconst dL_refused_74 ?_
  refine w_iconst dL_refused_75 ?_
  refine w_iconst dL_refused_76 ?_
  obtain ⟨fx_50, hfx_50⟩ := OW_0 ho_45
  refine w_calli (As := [.int (zI 0), .int (zI 0), .int (zI 2), .int (zI 1)]) (rest := []) (n := 4) (r_set (s := 0) (j := 0) (what := 2) (x := 1) (e := (-1)) ho_45 (by omega) (by omega) ⟨by omega, by omega⟩ ⟨by omega, by omega⟩ ⟨by omega, by omega⟩ ⟨by omega, by omega⟩ (set_b hS0 (Or.inr (Or.inl (by omega)))) (by omega)) gL_refused_X10_set rfl rfl rfl (by decide +kernel) ⟨(Nat.le_of_ble_eq_true rfl), (Nat.le_of_ble_eq_true rfl)⟩ rfl (by omega) hfx_50 rfl (Nat.le_of_ble_eq_true rfl) ⟨Nat.zero_le _, Nat.zero_le _⟩ dL_refused_77 rfl (fun g_48 hp_49 => ?_)
  obtain ⟨ho_51, hf_52⟩ := hp_49
  have hfr_53 : ∀ q, 141 ≤ q → g_48 q = g q := fun q hq => (hf_52 q (by omega)).trans (hfr_47 q hq)
  refine w_iconst dL_refused_80 ?_
  refine w_icmp_neS 241 dL_refused_81 (by decide) ?_
  refine w_aload_n dL_refused_84 rfl 4 rfl ?_
  refine w_iconst dL_refused_85 ?_
  refine w_iconst dL_refused_86 ?_
  refine w_iconst dL_refused_87 ?_
  refine w_aload_n dL_refused_88 rfl 4 rfl ?_
  refine w_iconst dL_refused_89 ?_
  refine w_iconst dL_refused_90 ?_
  refine w_iconst dL_refused_91 ?_
  obtain ⟨fx_56, hfx_56⟩ := OW_0 ho_51
  refine w_calli (As := [.int (zI 0), .int (zI 0), .int (zI 0)]) (rest := [.int (zI 0), .int (zI 0), .int (zI 0), .ref (B + 0)]) (n := 3) (a_column (s := 0) (j := 0) (what := 0) ho_51 (by omega) (by omega) ⟨by omega, by omega⟩ ⟨by omega, by omega⟩ ⟨by omega, by omega⟩) gL_refused_X10_column rfl rfl rfl (by decide +kernel) ⟨(Nat.le_of_ble_eq_true rfl), (Nat.le_of_ble_eq_true rfl)⟩ rfl (by omega) hfx_56 rfl (Nat.le_of_ble_eq_true rfl) ⟨Nat.zero_le _, Nat.zero_le _⟩ dL_refused_92 rfl (fun g_54 hp_55 => ?_)
  obtain ⟨ho_57, hf_58⟩ := hp_55
  have hfr_59 : ∀ q, 141 ≤ q → g_54 q = g q := fun q hq => (hf_58 q (by omega)).trans (hfr_53 q hq)
  refine w_as (st' := [.int (zI (coT (S.getD 0 []) 0)), .int (zI 0), .int (zI 0), .int (zI 0), .ref (B + 0)]) (sc_i ((z_col hS0 0 0).trans (col_T (by omega)).1) rfl) ?_
  refine w_iconst dL_refused_95 ?_
  refine w_iadd dL_refused_96 ?_
  obtain ⟨fx_62, hfx_62⟩ := OW_0 ho_57
  refine w_calli (As := [.int (zI 0), .int (zI 0), .int (zI 0), .int (zI ((coT (S.getD 0 []) 0) + 1))]) (rest := []) (n := 4) (r_set (s := 0) (j := 0) (what := 0) (x := ((coT (S.getD 0 []) 0) + 1)) (e := (-1)) ho_57 (by omega) (by omega) ⟨by omega, by omega⟩ ⟨by omega, by omega⟩ ⟨by omega, by omega⟩ ⟨by omega, by omega⟩ (set_b hS0 (Or.inr (Or.inr (Or.inr (Or.inl ⟨rfl, by omega⟩))))) (by omega)) gL_refused_X10_set rfl rfl rfl (by decide +kernel) ⟨(Nat.le_of_ble_eq_true rfl), (Nat.le_of_ble_eq_true rfl)⟩ rfl (by omega) hfx_62 rfl (Nat.le_of_ble_eq_true rfl) ⟨Nat.zero_le _, Nat.zero_le _⟩ dL_refused_97 rfl (fun g_60 hp_61 => ?_)
  obtain ⟨ho_63, hf_64⟩ := hp_61
  have hfr_65 : ∀ q, 141 ≤ q → g_60 q = g q := fun q hq => (hf_64 q (by omega)).trans (hfr_59 q hq)
  refine w_iconst dL_refused_100 ?_
  refine w_icmp_neS 241 dL_refused_101 (by decide) ?_
  refine w_aload_n dL_refused_104 rfl 4 rfl ?_
  refine w_iconst dL_refused_105 ?_
  refine w_iconst dL_refused_106 ?_
  refine w_iconst dL_refused_107 ?_
  refine w_bipush dL_refused_108 (by decide) ?_
  obtain ⟨fx_68, hfx_68⟩ := OW_0 ho_63
  refine w_calli (As := [.int (zI 0), .int (zI 0), .int (zI 1), .int (zI 10)]) (rest := []) (n := 4) (r_set (s := 0) (j := 0) (what := 1) (x := 10) (e := (-1)) ho_63 (by omega) (by omega) ⟨by omega, by omega⟩ ⟨by omega, by omega⟩ ⟨by omega, by omega⟩ ⟨by omega, by omega⟩ (set_b hS0 (Or.inr (Or.inr (Or.inr (Or.inr ⟨rfl, by omega⟩))))) (by omega)) gL_refused_X10_set rfl rfl rfl (by decide +kernel) ⟨(Nat.le_of_ble_eq_true rfl), (Nat.le_of_ble_eq_true rfl)⟩ rfl (by omega) hfx_68 rfl (Nat.le_of_ble_eq_true rfl) ⟨Nat.zero_le _, Nat.zero_le _⟩ dL_refused_110 rfl (fun g_66 hp_67 => ?_)
  obtain ⟨ho_69, hf_70⟩ := hp_67
  have hfr_71 : ∀ q, 141 ≤ q → g_66 q = g q := fun q hq => (hf_70 q (by omega)).trans (hfr_65 q hq)
  refine w_iconst dL_refused_113 ?_
  refine w_icmp_neS 241 dL_refused_114 (by decide) ?_
  refine w_aload_n dL_refused_117 rfl 4 rfl ?_
  refine w_iconst dL_refused_118 ?_
  refine w_iconst dL_refused_119 ?_
  refine w_iconst dL_refused_120 ?_
  refine w_iconst dL_refused_121 ?_
  obtain ⟨fx_74, hfx_74⟩ := OW_0 ho_69
  refine w_calli (As := [.int (zI 0), .int (zI 0), .int (zI 0), .int (zI (-1))]) (rest := []) (n := 4) (r_set (s := 0) (j := 0) (what := 0) (x := (-1)) (e := (-1)) ho_69 (by omega) (by omega) ⟨by omega, by omega⟩ ⟨by omega, by omega⟩ ⟨by omega, by omega⟩ ⟨by omega, by omega⟩ (set_b hS0 (Or.inr (Or.inr (Or.inl (by omega))))) (by omega)) gL_refused_X10_set rfl rfl rfl (by decide +kernel) ⟨(Nat.le_of_ble_eq_true rfl), (Nat.le_of_ble_eq_true rfl)⟩ rfl (by omega) hfx_74 rfl (Nat.le_of_ble_eq_true rfl) ⟨Nat.zero_le _, Nat.zero_le _⟩ dL_refused_122 rfl (fun g_72 hp_73 => ?_)
  obtain ⟨ho_75, hf_76⟩ := hp_73
  have hfr_77 : ∀ q, 141 ≤ q → g_72 q = g q := fun q hq => (hf_76 q (by omega)).trans (hfr_71 q hq)
  refine w_iconst dL_refused_125 ?_
  refine w_icmp_neS 241 dL_refused_126 (by decide) ?_
  refine w_aload_n dL_refused_129 rfl 4 rfl ?_
  refine w_iconst dL_refused_130 ?_
  refine w_iconst dL_refused_131 ?_
  refine w_iconst dL_refused_132 ?_
  refine w_aload_n dL_refused_133 rfl 4 rfl ?_
  refine w_iconst dL_refused_134 ?_
  refine w_iconst dL_refused_135 ?_
  refine w_iconst dL_refused_136 ?_
  obtain ⟨fx_80, hfx_80⟩ := OW_0 ho_75
  refine w_calli (As := [.int (zI 0), .int (zI 0), .int (zI 1)]) (rest := [.int (zI 0), .int (zI 0), .int (zI 0), .ref (B + 0)]) (n := 3) (a_column (s := 0) (j := 0) (what := 1) ho_75 (by omega) (by omega) ⟨by omega, by omega⟩ ⟨by omega, by omega⟩ ⟨by omega, by omega⟩) gL_refused_X10_column rfl rfl rfl (by decide +kernel) ⟨(Nat.le_of_ble_eq_true rfl), (Nat.le_of_ble_eq_true rfl)⟩ rfl (by omega) hfx_80 rfl (Nat.le_of_ble_eq_true rfl) ⟨Nat.zero_le _, Nat.zero_le _⟩ dL_refused_137 rfl (fun g_78 hp_79 => ?_)
  obtain ⟨ho_81, hf_82⟩ := hp_79
  have hfr_83 : ∀ q, 141 ≤ q → g_78 q = g q := fun q hq => (hf_82 q (by omega)).trans (hfr_77 q hq)
  refine w_as (st' := [.int (zI (coX (S.getD 0 []) 0)), .int (zI 0), .int (zI 0), .int (zI 0), .ref (B + 0)]) (sc_i ((z_col hS0 0 1).trans (col_T (by omega)).2) rfl) ?_
  obtain ⟨fx_86, hfx_86⟩ := OW_0 ho_81
  refine w_calli (As := [.int (zI 0), .int (zI 0), .int (zI 0), .int (zI (coX (S.getD 0 []) 0))]) (rest := []) (n := 4) (r_set (s := 0) (j := 0) (what := 0) (x := (coX (S.getD 0 []) 0)) (e := (-2)) ho_81 (by omega) (by omega) ⟨by omega, by omega⟩ ⟨by omega, by omega⟩ ⟨by omega, by omega⟩ ⟨by omega, by omega⟩ (set_n hS0 (by omega) (by omega) rfl) (by omega)) gL_refused_X10_set rfl rfl rfl (by decide +kernel) ⟨(Nat.le_of_ble_eq_true rfl), (Nat.le_of_ble_eq_true rfl)⟩ rfl (by omega) hfx_86 rfl (Nat.le_of_ble_eq_true rfl) ⟨Nat.zero_le _, Nat.zero_le _⟩ dL_refused_140 rfl (fun g_84 hp_85 => ?_)
  obtain ⟨ho_87, hf_88⟩ := hp_85
  have hfr_89 : ∀ q, 141 ≤ q → g_84 q = g q := fun q hq => (hf_88 q (by omega)).trans (hfr_83 q hq)
  refine w_bipush dL_refused_143 (by decide) ?_
  refine w_icmp_neS 241 dL_refused_145 (by decide) ?_
  refine w_aload_n dL_refused_148 rfl 4 rfl ?_
  refine w_iconst dL_refused_149 ?_
  refine w_iconst dL_refused_150 ?_
  refine w_iconst dL_refused_151 ?_
  obtain ⟨fx_92, hfx_92⟩ := OW_0 ho_87
  refine w_calli (As := [.int (zI 0), .int (zI 0), .int (zI 0)]) (rest := []) (n := 3) (r_move (s := 0) (a := 0) (b := 0) (e := (-1)) ho_87 (by omega) (by omega) ⟨by omega, by omega⟩ ⟨by omega, by omega⟩ ⟨by omega, by omega⟩ (mov_b hS0 (Or.inl rfl)) (by omega)) gL_refused_X10_move rfl rfl rfl (by decide +kernel) ⟨(Nat.le_of_ble_eq_true rfl), (Nat.le_of_ble_eq_true rfl)⟩ rfl (by omega) hfx_92 rfl (Nat.le_of_ble_eq_true rfl) ⟨Nat.zero_le _, Nat.zero_le _⟩ dL_refused_152 rfl (fun g_90 hp_91 => ?_)
  obtain ⟨ho_93, hf_94⟩ := hp_91
  have hfr_95 : ∀ q, 141 ≤ q → g_90 q = g q := fun q hq => (hf_94 q (by omega)).trans (hfr_89 q hq)
  refine w_iconst dL_refused_155 ?_
  refine w_icmp_neS 241 dL_refused_156 (by decide) ?_
  refine w_aload_n dL_refused_159 rfl 4 rfl ?_
  refine w_iconst dL_refused_160 ?_
  refine w_iload dL_refused_161 0 rfl ?_
  refine w_iconst dL_refused_163 ?_
  obtain ⟨fx_98, hfx_98⟩ := OW_0 ho_93
  refine w_calli (As := [.int (zI 0), .int (zI (((S.getD 0 []).length : Nat) : Int)), .int (zI 0)]) (rest := []) (n := 3) (r_move (s := 0) (a := (((S.getD 0 []).length : Nat) : Int)) (b := 0) (e := (-1)) ho_93 (by omega) (by omega) ⟨by omega, by omega⟩ ⟨by omega, by omega⟩ ⟨by omega, by omega⟩ (mov_b hS0 (Or.inr (Or.inl (by omega)))) (by omega)) gL_refused_X10_move rfl rfl rfl (by decide +kernel) ⟨(Nat.le_of_ble_eq_true rfl), (Nat.le_of_ble_eq_true rfl)⟩ rfl (by omega) hfx_98 rfl (Nat.le_of_ble_eq_true rfl) ⟨Nat.zero_le _, Nat.zero_le _⟩ dL_refused_164 rfl (fun g_96 hp_97 => ?_)
  obtain ⟨ho_99, hf_100⟩ := hp_97
  have hfr_101 : ∀ q, 141 ≤ q → g_96 q = g q := fun q hq => (hf_100 q (by omega)).trans (hfr_95 q hq)
  refine w_iconst dL_refused_167 ?_
  refine w_icmp_neS 241 dL_refused_168 (by decide) ?_
  refine w_aload_n dL_refused_171 rfl 4 rfl ?_
  refine w_iload dL_refused_172 1 rfl ?_
  refine w_iconst dL_refused_174 ?_
  refine w_iconst dL_refused_175 ?_
  obtain ⟨fx_104, hfx_104⟩ := OW_0 ho_99
  refine w_calli (As := [.int (zI ((S.length : Nat) : Int)), .int (zI 0), .int (zI 1)]) (rest := []) (n := 3) (r_move (s := ((S.length : Nat) : Int)) (a := 0) (b := 1) (e := (-1)) ho_99 (by omega) (by omega) ⟨by omega, by omega⟩ ⟨by omega, by omega⟩ ⟨by omega, by omega⟩ (mov_s (by omega)) (by omega)) gL_refused_X10_move rfl rfl rfl (by decide +kernel) ⟨(Nat.le_of_ble_eq_true rfl), (Nat.le_of_ble_eq_true rfl)⟩ rfl (by omega) hfx_104 rfl (Nat.le_of_ble_eq_true rfl) ⟨Nat.zero_le _, Nat.zero_le _⟩ dL_refused_176 rfl (fun g_102 hp_103 => ?_)
  obtain ⟨ho_105, hf_106⟩ := hp_103
  have hfr_107 : ∀ q, 141 ≤ q → g_102 q = g q := fun q hq => (hf_106 q (by omega)).trans (hfr_101 q hq)
  refine w_iconst dL_refused_179 ?_
  refine w_icmp_neS 241 dL_refused_180 (by decide) ?_
  refine w_aload_n dL_refused_183 rfl 4 rfl ?_
  refine w_iconst dL_refused_184 ?_
  obtain ⟨fx_110, hfx_110⟩ := OW_0 ho_105
  refine w_calli (As := [.int (zI (-1))]) (rest := []) (n := 1) (r_turn (s := (-1)) (e := (-1)) ho_105 (by omega) (by omega) ⟨by omega, by omega⟩ (trn_s (by omega)) (by omega)) gL_refused_X10_turn rfl rfl rfl (by decide +kernel) ⟨(Nat.le_of_ble_eq_true rfl), (Nat.le_of_ble_eq_true rfl)⟩ rfl (by omega) hfx_110 rfl (Nat.le_of_ble_eq_true rfl) ⟨Nat.zero_le _, Nat.zero_le _⟩ dL_refused_185 rfl (fun g_108 hp_109 => ?_)
  obtain ⟨ho_111, hf_112⟩ := hp_109
  have hfr_113 : ∀ q, 141 ≤ q → g_108 q = g q := fun q hq => (hf_112 q (by omega)).trans (hfr_107 q hq)
  refine w_iconst dL_refused_188 ?_
  refine w_icmp_neS 241 dL_refused_189 (by decide) ?_
  refine w_aload_n dL_refused_192 rfl 4 rfl ?_
  refine w_iconst dL_refused_193 ?_
  refine w_iload dL_refused_194 0 rfl ?_
  refine w_iconst dL_refused_196 ?_
  obtain ⟨fx_116, hfx_116⟩ := OW_0 ho_111
  refine w_calli (As := [.int (zI 0), .int (zI (((S.getD 0 []).length : Nat) : Int)), .int (zI 0)]) (rest := []) (n := 3) (a_column (s := 0) (j := (((S.getD 0 []).length : Nat) : Int)) (what := 0) ho_111 (by omega) (by omega) ⟨by omega, by omega⟩ ⟨by omega, by omega⟩ ⟨by omega, by omega⟩) gL_refused_X10_column rfl rfl rfl (by decide +kernel) ⟨(Nat.le_of_ble_eq_true rfl), (Nat.le_of_ble_eq_true rfl)⟩ rfl (by omega) hfx_116 rfl (Nat.le_of_ble_eq_true rfl) ⟨Nat.zero_le _, Nat.zero_le _⟩ dL_refused_197 rfl (fun g_114 hp_115 => ?_)
  obtain ⟨ho_117, hf_118⟩ := hp_115
  have hfr_119 : ∀ q, 141 ≤ q → g_114 q = g q := fun q hq => (hf_118 q (by omega)).trans (hfr_113 q hq)
  refine w_as (st' := [.int (zI (-1))]) (sc_i ((z_col hS0 _ _).trans (aCol_j (by omega))) rfl) ?_
  refine w_iconst dL_refused_200 ?_
  refine w_icmp_neS 241 dL_refused_201 (by decide) ?_
  refine w_aload_n dL_refused_204 rfl 4 rfl ?_
  refine w_iconst dL_refused_205 ?_
  refine w_iconst dL_refused_206 ?_
  refine w_iconst dL_refused_207 ?_
  obtain ⟨fx_122, hfx_122⟩ := OW_0 ho_117
  refine w_calli (As := [.int (zI 0), .int (zI 0), .int (zI 3)]) (rest := []) (n := 3) (a_column (s := 0) (j := 0) (what := 3) ho_117 (by omega) (by omega) ⟨by omega, by omega⟩ ⟨by omega, by omega⟩ ⟨by omega, by omega⟩) gL_refused_X10_column rfl rfl rfl (by decide +kernel) ⟨(Nat.le_of_ble_eq_true rfl), (Nat.le_of_ble_eq_true rfl)⟩ rfl (by omega) hfx_122 rfl (Nat.le_of_ble_eq_true rfl) ⟨Nat.zero_le _, Nat.zero_le _⟩ dL_refused_208 rfl (fun g_120 hp_121 => ?_)
  obtain ⟨ho_123, hf_124⟩ := hp_121
  have hfr_125 : ∀ q, 141 ≤ q → g_120 q = g q := fun q hq => (hf_124 q (by omega)).trans (hfr_119 q hq)
  refine w_as (st' := [.int (zI (-1))]) (sc_i ((z_col hS0 _ _).trans (aCol_3 _ _)) rfl) ?_
  refine w_iconst dL_refused_211 ?_
  refine w_icmp_neS 241 dL_refused_212 (by decide) ?_
  refine w_aload_n dL_refused_215 rfl 4 rfl ?_
  refine w_iload dL_refused_216 1 rfl ?_
  refine w_iconst dL_refused_218 ?_
  obtain ⟨fx_128, hfx_128⟩ := OW_0 ho_123
  refine w_calli (As := [.int (zI ((S.length : Nat) : Int)), .int (zI 0)]) (rest := []) (n := 2) (a_stratum (s := ((S.length : Nat) : Int)) (what := 0) ho_123 (by omega) (by omega) ⟨by omega, by omega⟩ ⟨by omega, by omega⟩) gL_refused_X10_stratum rfl rfl rfl (by decide +kernel) ⟨(Nat.le_of_ble_eq_true rfl), (Nat.le_of_ble_eq_true rfl)⟩ rfl (by omega) hfx_128 rfl (Nat.le_of_ble_eq_true rfl) ⟨Nat.zero_le _, Nat.zero_le _⟩ dL_refused_219 rfl (fun g_126 hp_127 => ?_)
  obtain ⟨ho_129, hf_130⟩ := hp_127
  have hfr_131 : ∀ q, 141 ≤ q → g_126 q = g q := fun q hq => (hf_130 q (by omega)).trans (hfr_125 q hq)
  refine w_as (st' := [.int (zI (-1))]) (sc_i eN rfl) ?_
  refine w_iconst dL_refused_222 ?_
  refine w_icmp_neS 241 dL_refused_223 (by decide) ?_
  refine w_aload_n dL_refused_226 rfl 4 rfl ?_
  refine w_iconst dL_refused_227 ?_
  refine w_bipush dL_refused_228 (by decide) ?_
  obtain ⟨fx_134, hfx_134⟩ := OW_0 ho_129
  refine w_calli (As := [.int (zI 0), .int (zI 7)]) (rest := []) (n := 2) (a_stratum (s := 0) (what := 7) ho_129 (by omega) (by omega) ⟨by omega, by omega⟩ ⟨by omega, by omega⟩) gL_refused_X10_stratum rfl rfl rfl (by decide +kernel) ⟨(Nat.le_of_ble_eq_true rfl), (Nat.le_of_ble_eq_true rfl)⟩ rfl (by omega) hfx_134 rfl (Nat.le_of_ble_eq_true rfl) ⟨Nat.zero_le _, Nat.zero_le _⟩ dL_refused_230 rfl (fun g_132 hp_133 => ?_)
  obtain ⟨ho_135, hf_136⟩ := hp_133
  have hfr_137 : ∀ q, 141 ≤ q → g_132 q = g q := fun q hq => (hf_136 q (by omega)).trans (hfr_131 q hq)
  refine w_as (st' := [.int (zI (-1))]) (sc_i (z_str hS0 7) rfl) ?_
  refine w_iconst dL_refused_233 ?_
  refine w_icmp_neS 241 dL_refused_234 (by decide) ?_
  refine w_iconst dL_refused_237 ?_
  refine w_goto 242 dL_refused_238 (by decide) ?_
  refine w_istore [(6, .int (zI 1)), (5, .int (zI (((S.getD 0 []).length : Nat) : Int))), (4, .int (zI ((S.length : Nat) : Int))), (3, .int (zI ((P.length : Nat) : Int))), (1, .long (zJ (wh S))), (0, .ref (B + 0))] dL_refused_242 (by decide) rfl ?_
  refine w_iload dL_refused_244 0 rfl ?_
  refine w_if_eq 471 dL_refused_246 (by decide) (by first | omega | with_reducible rfl) (fun c_246 => ?_) (fun c_246 => ?_)
  · exfalso; omega
  · refine w_aload_n dL_refused_249 rfl 5 rfl ?_
    refine w_iconst dL_refused_250 ?_
    refine w_iconst dL_refused_251 ?_
    obtain ⟨fx_140, hfx_140⟩ := OW_0 ho_135
    refine w_calll (As := [.int (zI 0), .int (zI 4)]) (rest := []) (n := 2) (a_ways (s := 0) (what := 4) ho_135 (by omega) (by omega) ⟨by omega, by omega⟩ ⟨by omega, by omega⟩) gL_refused_X10_ways rfl rfl rfl (by decide +kernel) ⟨(Nat.le_of_ble_eq_true rfl), (Nat.le_of_ble_eq_true rfl)⟩ rfl (by omega) hfx_140 rfl (Nat.le_of_ble_eq_true rfl) ⟨Nat.zero_le _, Nat.zero_le _⟩ dL_refused_252 rfl (fun g_138 hp_139 => ?_)
    obtain ⟨ho_141, hf_142⟩ := hp_139
    have hfr_143 : ∀ q, 141 ≤ q → g_138 q = g q := fun q hq => (hf_142 q (by omega)).trans (hfr_137 q hq)
    refine w_as (st' := [.long (zJ (-1))]) (sc_l (z_way hS0 4) rfl) ?_
    refine w_ldc2 (z := -1) (List.mem_of_getElem? (i := 1) rfl) dL_refused_255 ?_
    refine w_lcmp_neS 471 dL_refused_258 dL_refused_259 (by decide) ?_
    refine w_aload_n dL_refused_262 rfl 5 rfl ?_
    refine w_iload dL_refused_263 2 rfl ?_
    refine w_iconst dL_refused_265 ?_
    obtain ⟨fx_146, hfx_146⟩ := OW_0 ho_141
    refine w_calll (As := [.int (zI ((S.length : Nat) : Int)), .int (zI 0)]) (rest := []) (n := 2) (a_ways (s := ((S.length : Nat) : Int)) (what := 0) ho_141 (by omega) (by omega) ⟨by omega, by omega⟩ ⟨by omega, by omega⟩) gL_refused_X10_ways rfl rfl rfl (by decide +kernel) ⟨(Nat.le_of_ble_eq_true rfl), (Nat.le_of_ble_eq_true rfl)⟩ rfl (by omega) hfx_146 rfl (Nat.le_of_ble_eq_true rfl) ⟨Nat.zero_le _, Nat.zero_le _⟩ dL_refused_266 rfl (fun g_144 hp_145 => ?_)
    obtain ⟨ho_147, hf_148⟩ := hp_145
    have hfr_149 : ∀ q, 141 ≤ q → g_144 q = g q := fun q hq => (hf_148 q (by omega)).trans (hfr_143 q hq)
    refine w_as (st' := [.long (zJ (-1))]) (sc_l eN rfl) ?_
    refine w_ldc2 (z := -1) (List.mem_of_getElem? (i := 1) rfl) dL_refused_269 ?_
    refine w_lcmp_neS 471 dL_refused_272 dL_refused_273 (by decide) ?_
    refine w_aload_n dL_refused_276 rfl 5 rfl ?_
    refine w_iconst dL_refused_277 ?_
    refine w_iconst dL_refused_278 ?_
    refine w_iconst dL_refused_279 ?_
    obtain ⟨fx_152, hfx_152⟩ := OW_0 ho_147
    refine w_calll (As := [.int (zI 0), .int (zI 3), .int (zI 0)]) (rest := []) (n := 3) (a_chance (s := 0) (law := 3) (part := 0) ho_147 (by omega) (by omega) ⟨by omega, by omega⟩ ⟨by omega, by omega⟩ ⟨by omega, by omega⟩) gL_refused_X10_chance rfl rfl rfl (by decide +kernel) ⟨(Nat.le_of_ble_eq_true rfl), (Nat.le_of_ble_eq_true rfl)⟩ rfl (by omega) hfx_152 rfl (Nat.le_of_ble_eq_true rfl) ⟨Nat.zero_le _, Nat.zero_le _⟩ dL_refused_280 rfl (fun g_150 hp_151 => ?_)
    obtain ⟨ho_153, hf_154⟩ := hp_151
    have hfr_155 : ∀ q, 141 ≤ q → g_150 q = g q := fun q hq => (hf_154 q (by omega)).trans (hfr_149 q hq)
    refine w_as (st' := [.long (zJ (-1))]) (sc_l ((z_cha hS0 _ _).trans (aCha_b (by omega))) rfl) ?_
    refine w_ldc2 (z := -1) (List.mem_of_getElem? (i := 1) rfl) dL_refused_283 ?_
    refine w_lcmp_neS 471 dL_refused_286 dL_refused_287 (by decide) ?_
    refine w_aload_n dL_refused_290 rfl 5 rfl ?_
    refine w_iconst dL_refused_291 ?_
    refine w_iconst dL_refused_292 ?_
    refine w_iconst dL_refused_293 ?_
    obtain ⟨fx_158, hfx_158⟩ := OW_0 ho_153
    refine w_calll (As := [.int (zI 0), .int (zI 0), .int (zI 2)]) (rest := []) (n := 3) (a_chance (s := 0) (law := 0) (part := 2) ho_153 (by omega) (by omega) ⟨by omega, by omega⟩ ⟨by omega, by omega⟩ ⟨by omega, by omega⟩) gL_refused_X10_chance rfl rfl rfl (by decide +kernel) ⟨(Nat.le_of_ble_eq_true rfl), (Nat.le_of_ble_eq_true rfl)⟩ rfl (by omega) hfx_158 rfl (Nat.le_of_ble_eq_true rfl) ⟨Nat.zero_le _, Nat.zero_le _⟩ dL_refused_294 rfl (fun g_156 hp_157 => ?_)
    obtain ⟨ho_159, hf_160⟩ := hp_157
    have hfr_161 : ∀ q, 141 ≤ q → g_156 q = g q := fun q hq => (hf_160 q (by omega)).trans (hfr_155 q hq)
    refine w_as (st' := [.long (zJ (-1))]) (sc_l ((z_cha hS0 _ _).trans (aCha_b (by omega))) rfl) ?_
    refine w_ldc2 (z := -1) (List.mem_of_getElem? (i := 1) rfl) dL_refused_297 ?_
    refine w_lcmp_neS 471 dL_refused_300 dL_refused_301 (by decide) ?_
    refine w_aload_n dL_refused_304 rfl 5 rfl ?_
    refine w_iconst dL_refused_305 ?_
    refine w_iconst dL_refused_306 ?_
    obtain ⟨fx_164, hfx_164⟩ := OW_0 ho_159
    refine w_calll (As := [.int (zI 0), .int (zI 0)]) (rest := []) (n := 2) (a_joined (law := 0) (part := 0) ho_159 (by omega) (by omega) ⟨by omega, by omega⟩ ⟨by omega, by omega⟩) gL_refused_X10_joined rfl rfl rfl (by decide +kernel) ⟨(Nat.le_of_ble_eq_true rfl), (Nat.le_of_ble_eq_true rfl)⟩ rfl (by omega) hfx_164 rfl (Nat.le_of_ble_eq_true rfl) ⟨Nat.zero_le _, Nat.zero_le _⟩ dL_refused_307 rfl (fun g_162 hp_163 => ?_)
    obtain ⟨ho_165, hf_166⟩ := hp_163
    have hfr_167 : ∀ q, 141 ≤ q → g_162 q = g q := fun q hq => (hf_166 q (by omega)).trans (hfr_161 q hq)
    refine w_as (st' := [.long (zJ (-1))]) (sc_l (eJoi_b (by omega)) rfl) ?_
    refine w_ldc2 (z := -1) (List.mem_of_getElem? (i := 1) rfl) dL_refused_310 ?_
    refine w_lcmp_neS 471 dL_refused_313 dL_refused_314 (by decide) ?_
    refine w_aload_n dL_refused_317 rfl 5 rfl ?_
    refine w_iconst dL_refused_318 ?_
    refine w_iconst dL_refused_319 ?_
    obtain ⟨fx_170, hfx_170⟩ := OW_0 ho_165
    refine w_calll (As := [.int (zI 3), .int (zI 0)]) (rest := []) (n := 2) (a_joined (law := 3) (part := 0) ho_165 (by omega) (by omega) ⟨by omega, by omega⟩ ⟨by omega, by omega⟩) gL_refused_X10_joined rfl rfl rfl (by decide +kernel) ⟨(Nat.le_of_ble_eq_true rfl), (Nat.le_of_ble_eq_true rfl)⟩ rfl (by omega) hfx_170 rfl (Nat.le_of_ble_eq_true rfl) ⟨Nat.zero_le _, Nat.zero_le _⟩ dL_refused_320 rfl (fun g_168 hp_169 => ?_)
    obtain ⟨ho_171, hf_172⟩ := hp_169
    have hfr_173 : ∀ q, 141 ≤ q → g_168 q = g q := fun q hq => (hf_172 q (by omega)).trans (hfr_167 q hq)
    refine w_as (st' := [.long (zJ (-1))]) (sc_l (eJoi_b (by omega)) rfl) ?_
    refine w_ldc2 (z := -1) (List.mem_of_getElem? (i := 1) rfl) dL_refused_323 ?_
    refine w_lcmp_neS 471 dL_refused_326 dL_refused_327 (by decide) ?_
    refine w_aload_n dL_refused_330 rfl 5 rfl ?_
    refine w_iconst dL_refused_331 ?_
    refine w_iconst dL_refused_332 ?_
    obtain ⟨fx_176, hfx_176⟩ := OW_0 ho_171
    refine w_calli (As := [.int (zI 0), .int (zI (-1))]) (rest := []) (n := 2) (a_strange (s := 0) (law := (-1)) ho_171 (by omega) (by omega) ⟨by omega, by omega⟩ ⟨by omega, by omega⟩) gL_refused_X10_strange rfl rfl rfl (by decide +kernel) ⟨(Nat.le_of_ble_eq_true rfl), (Nat.le_of_ble_eq_true rfl)⟩ rfl (by omega) hfx_176 rfl (Nat.le_of_ble_eq_true rfl) ⟨Nat.zero_le _, Nat.zero_le _⟩ dL_refused_333 rfl (fun g_174 hp_175 => ?_)
    obtain ⟨ho_177, hf_178⟩ := hp_175
    have hfr_179 : ∀ q, 141 ≤ q → g_174 q = g q := fun q hq => (hf_178 q (by omega)).trans (hfr_173 q hq)
    refine w_as (st' := [.int (zI (-1))]) (sc_i ((z_sta hS0 _).trans (aSta_b (by omega))) rfl) ?_
    refine w_iconst dL_refused_336 ?_
    refine w_icmp_neS 471 dL_refused_337 (by decide) ?_
    refine w_aload_n dL_refused_340 rfl 5 rfl ?_
    refine w_iconst dL_refused_341 ?_
    refine w_iload dL_refused_342 1 rfl ?_
    refine w_iconst dL_refused_344 ?_
    refine w_iadd dL_refused_345 ?_
    refine w_iconst dL_refused_346 ?_
    refine w_iconst dL_refused_347 ?_
    obtain ⟨fx_182, hfx_182⟩ := OW_0 ho_177
    refine w_calll (As := [.int (zI 0), .int (zI ((((S.getD 0 []).length : Nat) : Int) + 1)), .int (zI 0), .int (zI 0)]) (rest := []) (n := 4) (a_node (s := 0) (j := ((((S.getD 0 []).length : Nat) : Int) + 1)) (a := 0) (what := 0) ho_177 (by omega) (by omega) ⟨by omega, by omega⟩ ⟨by omega, by omega⟩ ⟨by omega, by omega⟩ ⟨by omega, by omega⟩) gL_refused_X10_node rfl rfl rfl (by decide +kernel) ⟨(Nat.le_of_ble_eq_true rfl), (Nat.le_of_ble_eq_true rfl)⟩ rfl (by omega) hfx_182 rfl (Nat.le_of_ble_eq_true rfl) ⟨Nat.zero_le _, Nat.zero_le _⟩ dL_refused_348 rfl (fun g_180 hp_181 => ?_)
    obtain ⟨ho_183, hf_184⟩ := hp_181
    have hfr_185 : ∀ q, 141 ≤ q → g_180 q = g q := fun q hq => (hf_184 q (by omega)).trans (hfr_179 q hq)
    refine w_as (st' := [.long (zJ (-1))]) (sc_l ((z_nod hS0 _ _ _).trans (aNod_b (by omega))) rfl) ?_
    refine w_ldc2 (z := -1) (List.mem_of_getElem? (i := 1) rfl) dL_refused_351 ?_
    refine w_lcmp_neS 471 dL_refused_354 dL_refused_355 (by decide) ?_
    refine w_aload_n dL_refused_358 rfl 5 rfl ?_
    refine w_iconst dL_refused_359 ?_
    refine w_iconst dL_refused_360 ?_
    refine w_iconst dL_refused_361 ?_
    refine w_iconst dL_refused_362 ?_
    obtain ⟨fx_188, hfx_188⟩ := OW_0 ho_183
    refine w_calll (As := [.int (zI 0), .int (zI 0), .int (zI (-1)), .int (zI 0)]) (rest := []) (n := 4) (a_node (s := 0) (j := 0) (a := (-1)) (what := 0) ho_183 (by omega) (by omega) ⟨by omega, by omega⟩ ⟨by omega, by omega⟩ ⟨by omega, by omega⟩ ⟨by omega, by omega⟩) gL_refused_X10_node rfl rfl rfl (by decide +kernel) ⟨(Nat.le_of_ble_eq_true rfl), (Nat.le_of_ble_eq_true rfl)⟩ rfl (by omega) hfx_188 rfl (Nat.le_of_ble_eq_true rfl) ⟨Nat.zero_le _, Nat.zero_le _⟩ dL_refused_363 rfl (fun g_186 hp_187 => ?_)
    obtain ⟨ho_189, hf_190⟩ := hp_187
    have hfr_191 : ∀ q, 141 ≤ q → g_186 q = g q := fun q hq => (hf_190 q (by omega)).trans (hfr_185 q hq)
    refine w_as (st' := [.long (zJ (-1))]) (sc_l ((z_nod hS0 _ _ _).trans (aNod_b (by omega))) rfl) ?_
    refine w_ldc2 (z := -1) (List.mem_of_getElem? (i := 1) rfl) dL_refused_366 ?_
    refine w_lcmp_neS 471 dL_refused_369 dL_refused_370 (by decide) ?_
    refine w_aload_n dL_refused_373 rfl 5 rfl ?_
    refine w_iconst dL_refused_374 ?_
    refine w_iconst dL_refused_375 ?_
    refine w_iconst dL_refused_376 ?_
    refine w_iconst dL_refused_377 ?_
    obtain ⟨fx_194, hfx_194⟩ := OW_0 ho_189
    refine w_calll (As := [.int (zI 0), .int (zI 0), .int (zI 0), .int (zI 4)]) (rest := []) (n := 4) (a_node (s := 0) (j := 0) (a := 0) (what := 4) ho_189 (by omega) (by omega) ⟨by omega, by omega⟩ ⟨by omega, by omega⟩ ⟨by omega, by omega⟩ ⟨by omega, by omega⟩) gL_refused_X10_node rfl rfl rfl (by decide +kernel) ⟨(Nat.le_of_ble_eq_true rfl), (Nat.le_of_ble_eq_true rfl)⟩ rfl (by omega) hfx_194 rfl (Nat.le_of_ble_eq_true rfl) ⟨Nat.zero_le _, Nat.zero_le _⟩ dL_refused_378 rfl (fun g_192 hp_193 => ?_)
    obtain ⟨ho_195, hf_196⟩ := hp_193
    have hfr_197 : ∀ q, 141 ≤ q → g_192 q = g q := fun q hq => (hf_196 q (by omega)).trans (hfr_191 q hq)
    refine w_as (st' := [.long (zJ (-1))]) (sc_l ((z_nod hS0 _ _ _).trans (aNod_b (by omega))) rfl) ?_
    refine w_ldc2 (z := -1) (List.mem_of_getElem? (i := 1) rfl) dL_refused_381 ?_
    refine w_lcmp_neS 471 dL_refused_384 dL_refused_385 (by decide) ?_
    refine w_aload_n dL_refused_388 rfl 5 rfl ?_
    refine w_iconst dL_refused_389 ?_
    refine w_iconst dL_refused_390 ?_
    obtain ⟨fx_200, hfx_200⟩ := OW_0 ho_195
    refine w_calli (As := [.int (zI 0), .int (zI (-1))]) (rest := []) (n := 2) (a_looks (s := 0) (what := (-1)) ho_195 (by omega) (by omega) ⟨by omega, by omega⟩ ⟨by omega, by omega⟩) gL_refused_X10_looks rfl rfl rfl (by decide +kernel) ⟨(Nat.le_of_ble_eq_true rfl), (Nat.le_of_ble_eq_true rfl)⟩ rfl (by omega) hfx_200 rfl (Nat.le_of_ble_eq_true rfl) ⟨Nat.zero_le _, Nat.zero_le _⟩ dL_refused_391 rfl (fun g_198 hp_199 => ?_)
    obtain ⟨ho_201, hf_202⟩ := hp_199
    have hfr_203 : ∀ q, 141 ≤ q → g_198 q = g q := fun q hq => (hf_202 q (by omega)).trans (hfr_197 q hq)
    refine w_as (st' := [.int (zI (-1))]) (sc_i (z_loo hS0 (-1)) rfl) ?_
    refine w_iconst dL_refused_394 ?_
    refine w_icmp_neS 471 dL_refused_395 (by decide) ?_
    refine w_aload_n dL_refused_398 rfl 5 rfl ?_
    refine w_iconst dL_refused_399 ?_
    refine w_iconst dL_refused_400 ?_
    refine w_iconst dL_refused_401 ?_
    obtain ⟨fx_206, hfx_206⟩ := OW_0 ho_201
    refine w_calli (As := [.int (zI 0), .int (zI (-1)), .int (zI 0)]) (rest := []) (n := 3) (a_table (s := 0) (t := (-1)) (j := 0) ho_201 (by omega) (by omega) ⟨by omega, by omega⟩ ⟨by omega, by omega⟩ ⟨by omega, by omega⟩) gL_refused_X10_table rfl rfl rfl (by decide +kernel) ⟨(Nat.le_of_ble_eq_true rfl), (Nat.le_of_ble_eq_true rfl)⟩ rfl (by omega) hfx_206 rfl (Nat.le_of_ble_eq_true rfl) ⟨Nat.zero_le _, Nat.zero_le _⟩ dL_refused_402 rfl (fun g_204 hp_205 => ?_)
    obtain ⟨ho_207, hf_208⟩ := hp_205
    have hfr_209 : ∀ q, 141 ≤ q → g_204 q = g q := fun q hq => (hf_208 q (by omega)).trans (hfr_203 q hq)
    refine w_as (st' := [.int (zI (-1))]) (sc_i ((z_tab hS0 _ _).trans (aTab_b (by omega))) rfl) ?_
    refine w_iconst dL_refused_405 ?_
    refine w_icmp_neS 471 dL_refused_406 (by decide) ?_
    refine w_aload_n dL_refused_409 rfl 5 rfl ?_
    refine w_iconst dL_refused_410 ?_
    refine w_aload_n dL_refused_411 rfl 5 rfl ?_
    refine w_iconst dL_refused_412 ?_
    refine w_iconst dL_refused_413 ?_
    obtain ⟨fx_212, hfx_212⟩ := OW_0 ho_207
    refine w_calli (As := [.int (zI 0), .int (zI 4)]) (rest := [.int (zI 0), .ref (B + 0)]) (n := 2) (a_stratum (s := 0) (what := 4) ho_207 (by omega) (by omega) ⟨by omega, by omega⟩ ⟨by omega, by omega⟩) gL_refused_X10_stratum rfl rfl rfl (by decide +kernel) ⟨(Nat.le_of_ble_eq_true rfl), (Nat.le_of_ble_eq_true rfl)⟩ rfl (by omega) hfx_212 rfl (Nat.le_of_ble_eq_true rfl) ⟨Nat.zero_le _, Nat.zero_le _⟩ dL_refused_414 rfl (fun g_210 hp_211 => ?_)
    obtain ⟨ho_213, hf_214⟩ := hp_211
    have hfr_215 : ∀ q, 141 ≤ q → g_210 q = g q := fun q hq => (hf_214 q (by omega)).trans (hfr_209 q hq)
    refine w_as (st' := [.int (zI (tc (coL (S.getD 0 [])) (coR (S.getD 0 [])))), .int (zI 0), .ref (B + 0)]) (sc_i (z_str hS0 4) rfl) ?_
    refine w_iconst dL_refused_417 ?_
    obtain ⟨fx_218, hfx_218⟩ := OW_0 ho_213
    refine w_calli (As := [.int (zI 0), .int (zI (tc (coL (S.getD 0 [])) (coR (S.getD 0 [])))), .int (zI 0)]) (rest := []) (n := 3) (a_table (s := 0) (t := (tc (coL (S.getD 0 [])) (coR (S.getD 0 [])))) (j := 0) ho_213 (by omega) (by omega) ⟨by omega, by omega⟩ ⟨by omega, by omega⟩ ⟨by omega, by omega⟩) gL_refused_X10_table rfl rfl rfl (by decide +kernel) ⟨(Nat.le_of_ble_eq_true rfl), (Nat.le_of_ble_eq_true rfl)⟩ rfl (by omega) hfx_218 rfl (Nat.le_of_ble_eq_true rfl) ⟨Nat.zero_le _, Nat.zero_le _⟩ dL_refused_418 rfl (fun g_216 hp_217 => ?_)
    obtain ⟨ho_219, hf_220⟩ := hp_217
    have hfr_221 : ∀ q, 141 ≤ q → g_216 q = g q := fun q hq => (hf_220 q (by omega)).trans (hfr_215 q hq)
    refine w_as (st' := [.int (zI (-1))]) (sc_i ((z_tab hS0 _ _).trans (aTab_b (by omega))) rfl) ?_
    refine w_iconst dL_refused_421 ?_
    refine w_icmp_neS 471 dL_refused_422 (by decide) ?_
    refine w_aload_n dL_refused_425 rfl 5 rfl ?_
    refine w_iconst dL_refused_426 ?_
    refine w_iconst dL_refused_427 ?_
    refine w_iload dL_refused_428 1 rfl ?_
    obtain ⟨fx_224, hfx_224⟩ := OW_0 ho_219
    refine w_calli (As := [.int (zI 0), .int (zI 0), .int (zI (((S.getD 0 []).length : Nat) : Int))]) (rest := []) (n := 3) (a_table (s := 0) (t := 0) (j := (((S.getD 0 []).length : Nat) : Int)) ho_219 (by omega) (by omega) ⟨by omega, by omega⟩ ⟨by omega, by omega⟩ ⟨by omega, by omega⟩) gL_refused_X10_table rfl rfl rfl (by decide +kernel) ⟨(Nat.le_of_ble_eq_true rfl), (Nat.le_of_ble_eq_true rfl)⟩ rfl (by omega) hfx_224 rfl (Nat.le_of_ble_eq_true rfl) ⟨Nat.zero_le _, Nat.zero_le _⟩ dL_refused_430 rfl (fun g_222 hp_223 => ?_)
    obtain ⟨ho_225, hf_226⟩ := hp_223
    have hfr_227 : ∀ q, 141 ≤ q → g_222 q = g q := fun q hq => (hf_226 q (by omega)).trans (hfr_221 q hq)
    refine w_as (st' := [.int (zI (-1))]) (sc_i ((z_tab hS0 _ _).trans (aTab_b (by omega))) rfl) ?_
    refine w_iconst dL_refused_433 ?_
    refine w_icmp_neS 471 dL_refused_434 (by decide) ?_
    refine w_aload_n dL_refused_437 rfl 5 rfl ?_
    refine w_iload dL_refused_438 2 rfl ?_
    obtain ⟨fx_230, hfx_230⟩ := OW_0 ho_225
    refine w_calli (As := [.int (zI ((S.length : Nat) : Int))]) (rest := []) (n := 1) (a_rank (s := ((S.length : Nat) : Int)) ho_225 (by omega) (by omega) ⟨by omega, by omega⟩) gL_refused_X10_rank rfl rfl rfl (by decide +kernel) ⟨(Nat.le_of_ble_eq_true rfl), (Nat.le_of_ble_eq_true rfl)⟩ rfl (by omega) hfx_230 rfl (Nat.le_of_ble_eq_true rfl) ⟨Nat.zero_le _, Nat.zero_le _⟩ dL_refused_440 rfl (fun g_228 hp_229 => ?_)
    obtain ⟨ho_231, hf_232⟩ := hp_229
    have hfr_233 : ∀ q, 141 ≤ q → g_228 q = g q := fun q hq => (hf_232 q (by omega)).trans (hfr_227 q hq)
    refine w_as (st' := [.int (zI (-1))]) (sc_i eN rfl) ?_
    refine w_iconst dL_refused_443 ?_
    refine w_icmp_neS 471 dL_refused_444 (by decide) ?_
    refine w_aload_n dL_refused_447 rfl 5 rfl ?_
    refine w_iconst dL_refused_448 ?_
    refine w_iconst dL_refused_449 ?_
    obtain ⟨fx_236, hfx_236⟩ := OW_0 ho_231
    refine w_calli (As := [.int (zI 0), .int (zI (-1))]) (rest := []) (n := 2) (a_likeliest (s := 0) (j := (-1)) ho_231 (by omega) (by omega) ⟨by omega, by omega⟩ ⟨by omega, by omega⟩) gL_refused_X10_likeliest rfl rfl rfl (by decide +kernel) ⟨(Nat.le_of_ble_eq_true rfl), (Nat.le_of_ble_eq_true rfl)⟩ rfl (by omega) hfx_236 rfl (Nat.le_of_ble_eq_true rfl) ⟨Nat.zero_le _, Nat.zero_le _⟩ dL_refused_450 rfl (fun g_234 hp_235 => ?_)
    obtain ⟨ho_237, hf_238⟩ := hp_235
    have hfr_239 : ∀ q, 141 ≤ q → g_234 q = g q := fun q hq => (hf_238 q (by omega)).trans (hfr_233 q hq)
    refine w_as (st' := [.int (zI (-1))]) (sc_i ((z_lik hS0 _).trans (aLik_b (by omega))) rfl) ?_
    refine w_iconst dL_refused_453 ?_
    refine w_icmp_neS 471 dL_refused_454 (by decide) ?_
    refine w_aload_n dL_refused_457 rfl 5 rfl ?_
    refine w_bipush dL_refused_458 (by decide) ?_
    obtain ⟨fx_242, hfx_242⟩ := OW_0 ho_237
    refine w_calli (As := [.int (zI 7)]) (rest := []) (n := 1) (a_count (what := 7) ho_237 (by omega) (by omega) ⟨by omega, by omega⟩) gL_refused_X10_count rfl rfl rfl (by decide +kernel) ⟨(Nat.le_of_ble_eq_true rfl), (Nat.le_of_ble_eq_true rfl)⟩ rfl (by omega) hfx_242 rfl (Nat.le_of_ble_eq_true rfl) ⟨Nat.zero_le _, Nat.zero_le _⟩ dL_refused_460 rfl (fun g_240 hp_241 => ?_)
    obtain ⟨ho_243, hf_244⟩ := hp_241
    have hfr_245 : ∀ q, 141 ≤ q → g_240 q = g q := fun q hq => (hf_244 q (by omega)).trans (hfr_239 q hq)
    refine w_as (st' := [.int (zI (-1))]) (sc_i (eCnt_7 _ _ _) rfl) ?_
    refine w_iconst dL_refused_463 ?_
    refine w_icmp_neS 471 dL_refused_464 (by decide) ?_
    refine w_iconst dL_refused_467 ?_
    refine w_goto 472 dL_refused_468 (by decide) ?_
    refine w_istore [(6, .int (zI 1)), (5, .int (zI (((S.getD 0 []).length : Nat) : Int))), (4, .int (zI ((S.length : Nat) : Int))), (3, .int (zI ((P.length : Nat) : Int))), (1, .long (zJ (wh S))), (0, .ref (B + 0))] dL_refused_472 (by decide) rfl ?_
    refine w_iload dL_refused_474 0 rfl ?_
    refine w_if_eq 501 dL_refused_476 (by decide) (by first | omega | with_reducible rfl) (fun c_476 => ?_) (fun c_476 => ?_)
    · exfalso; omega
    · refine w_aload_n dL_refused_479 rfl 5 rfl ?_
      refine w_calllS (As := [.ref (B + 0)]) (rest := []) (n := 1) (c_whole ho_243 (by omega) (by omega)) gL_refused_L_whole rfl rfl rfl (by decide +kernel) ⟨(Nat.le_of_ble_eq_true rfl), (Nat.le_of_ble_eq_true rfl)⟩ rfl (Nat.le_of_ble_eq_true rfl) ⟨Nat.zero_le _, Nat.zero_le _⟩ dL_refused_480 rfl (fun g_246 hp_247 => ?_)
      obtain ⟨ho_248, hf_249⟩ := hp_247
      have hfr_250 : ∀ q, 141 ≤ q → g_246 q = g q := fun q hq => (hf_249 q (by omega)).trans (hfr_245 q hq)
      refine w_lload_n dL_refused_483 rfl 4 rfl ?_
      refine w_lcmp_neS 501 dL_refused_484 dL_refused_485 (by decide) ?_
      refine w_aload_n dL_refused_488 rfl 5 rfl ?_
      refine w_iconst dL_refused_489 ?_
      obtain ⟨fx_253, hfx_253⟩ := OW_0 ho_248
      refine w_calli (As := [.int (zI 5)]) (rest := []) (n := 1) (a_count (what := 5) ho_248 (by omega) (by omega) ⟨by omega, by omega⟩) gL_refused_X10_count rfl rfl rfl (by decide +kernel) ⟨(Nat.le_of_ble_eq_true rfl), (Nat.le_of_ble_eq_true rfl)⟩ rfl (by omega) hfx_253 rfl (Nat.le_of_ble_eq_true rfl) ⟨Nat.zero_le _, Nat.zero_le _⟩ dL_refused_490 rfl (fun g_251 hp_252 => ?_)
      obtain ⟨ho_254, hf_255⟩ := hp_252
      have hfr_256 : ∀ q, 141 ≤ q → g_251 q = g q := fun q hq => (hf_255 q (by omega)).trans (hfr_250 q hq)
      refine w_iload_n dL_refused_493 rfl 3 rfl ?_
      refine w_as (st' := [.int (zI ((P.length : Nat) : Int)), .int (zI ((P.length : Nat) : Int))]) (lc_s (sc_i rfl rfl)) ?_
      refine w_icmp_neS 501 dL_refused_494 (by decide) ?_
      refine w_iconst dL_refused_497 ?_
      refine w_goto 502 dL_refused_498 (by decide) ?_
      exact w_zret dL_refused_502 rfl rfl (by rfl) ⟨(by have h9 := ho_254; exact OW_up h9 (by omega)), hfr_256⟩

set_option maxHeartbeats 64000000 in
set_option maxRecDepth 100000 in
theorem c_faults {l : Launch} {D : va_G} {cy : Nat → ClassId} {B N : Nat} {g : Nat → va_E} {b L : Nat} {xs : Nat → Int32} {W : List Int} {S : St} {P : List St} {M : Int} (ho : OW cy B g 0 W S P M) (hN : 141 ≤ N) (hM : M < 2147480000) : CTiX l yL_faults wsL_faults (rmc 9 235 22 88) D cy B N g b L xs [.ref (B + 0)] 1 22 88 (fun g' => OW cy B g' 0 ([]) S P M ∧ (∀ q, 141 ≤ q ∧ q < N → g' q = g q)) := by
  refine WW_ofX (cc := cL_faults) (maxL := 2) (ret := (some .boolean)) (own := RL) (by decide) rfl rfl (Nat.le_of_ble_eq_true rfl) rfl ?_
  intro pp ee ss mm bl me co hmn hsx
  have hfr_0 : ∀ q, 141 ≤ q ∧ q < N → g q = g q := fun _ _ => rfl
  refine w_aload_n dL_faults_0 rfl 0 rfl ?_
  obtain ⟨fx_3, hfx_3⟩ := OW_0 ho
  refine w_calli (As := []) (rest := []) (n := 0) (a_wipe ho (by omega) (by omega)) gL_faults_X10_wipe rfl rfl rfl (by decide +kernel) ⟨(Nat.le_of_ble_eq_true rfl), (Nat.le_of_ble_eq_true rfl)⟩ rfl (by omega) hfx_3 rfl (Nat.le_of_ble_eq_true rfl) ⟨(Nat.le_of_ble_eq_true rfl), (Nat.le_of_ble_eq_true rfl)⟩ dL_faults_1 rfl (fun g_1 hp_2 => ?_)
  obtain ⟨ho_4, hf_5⟩ := hp_2
  have hfr_6 : ∀ q, 141 ≤ q ∧ q < N → g_1 q = g q := fun q hq => (hf_5 q (by omega)).trans (hfr_0 q hq)
  refine w_pop dL_faults_4 rfl ?_
  refine w_aload_n dL_faults_5 rfl 0 rfl ?_
  refine w_iconst dL_faults_6 ?_
  refine w_iconst dL_faults_7 ?_
  refine w_iconst dL_faults_8 ?_
  refine w_callvS (As := [.ref (B + 0), .int (zI 4), .int (zI 2), .int (zI 0)]) (rest := []) (n := 4) (c_column (all := 4) (above := 2) (score := 0) ho_4 (by omega) (by omega) (by first | omega | with_reducible rfl) (by first | omega | with_reducible rfl) (by first | omega | with_reducible rfl) (by decide +kernel)) gL_faults_L_column rfl rfl rfl (by decide +kernel) ⟨(Nat.le_of_ble_eq_true rfl), (Nat.le_of_ble_eq_true rfl)⟩ rfl (Nat.le_of_ble_eq_true rfl) ⟨(Nat.le_of_ble_eq_true rfl), (Nat.le_of_ble_eq_true rfl)⟩ dL_faults_9 rfl (fun g_7 hp_8 => ?_)
  obtain ⟨ho_9, hf_10⟩ := hp_8
  have hfr_11 : ∀ q, 141 ≤ q ∧ q < N → g_7 q = g q := fun q hq => (hf_10 q (by omega)).trans (hfr_6 q hq)
  refine w_aload_n dL_faults_12 rfl 0 rfl ?_
  refine w_iconst dL_faults_13 ?_
  refine w_calliS (As := [.ref (B + 0), .int (zI 0)]) (rest := []) (n := 2) (c_isFault (place := 0) ho_9 (by omega) (by omega) (by first | omega | with_reducible rfl) (by decide +kernel) (by decide +kernel)) gL_faults_L_isFault rfl rfl rfl (by decide +kernel) ⟨(Nat.le_of_ble_eq_true rfl), (Nat.le_of_ble_eq_true rfl)⟩ rfl (Nat.le_of_ble_eq_true rfl) ⟨(Nat.le_of_ble_eq_true rfl), (Nat.le_of_ble_eq_true rfl)⟩ dL_faults_14 rfl (fun g_12 hp_13 => ?_)
  obtain ⟨ho_14, hf_15⟩ := hp_13
  have hfr_16 : ∀ q, 141 ≤ q ∧ q < N → g_12 q = g q := fun q hq => (hf_15 q (by omega)).trans (hfr_11 q hq)
  refine w_if_ne 22 dL_faults_17 (by decide) (by first | omega | with_reducible rfl) (fun c_17 => ?_) (fun c_17 => ?_)
  · refine w_aload_n dL_faults_22 rfl 0 rfl ?_
    refine w_bipush dL_faults_23 (by decide) ?_
    refine w_bipush dL_faults_25 (by decide) ?_
    refine w_bipush dL_faults_27 (by decide) ?_
    refine w_iconst dL_faults_29 ?_
    refine w_callvX (As := [.ref (B + 0), .int (zI 115), .int (zI 32), .int (zI 59), .int (zI 0)]) (rest := []) (n := 5) (mc := 1) (ms := 4) hsx (c_says (a := 115) (b1 := 32) (c := 59) (d := 0) ho_14 (by omega) (by omega) (by decide +kernel) (by first | omega | with_reducible rfl) (by first | omega | with_reducible rfl) (by first | omega | with_reducible rfl) (by first | omega | with_reducible rfl)) gL_faults_L_says rfl rfl rfl (by decide +kernel) ⟨(Nat.le_of_ble_eq_true rfl), (Nat.le_of_ble_eq_true rfl)⟩ rfl (Nat.le_of_ble_eq_true rfl) ⟨(Nat.le_of_ble_eq_true rfl), (Nat.le_of_ble_eq_true rfl)⟩ dL_faults_30 rfl (fun g_17 hp_18 => ?_)
    obtain ⟨ho_19, hf_20⟩ := hp_18
    have hfr_21 : ∀ q, 141 ≤ q ∧ q < N → g_17 q = g q := fun q hq => (hf_20 q (by omega)).trans (hfr_16 q hq)
    refine w_aload_n dL_faults_33 rfl 0 rfl ?_
    refine w_iconst dL_faults_34 ?_
    refine w_calliS (As := [.ref (B + 0), .int (zI 0)]) (rest := []) (n := 2) (c_isFault (place := 0) ho_19 (by omega) (by omega) (by first | omega | with_reducible rfl) (by decide +kernel) (by decide +kernel)) gL_faults_L_isFault rfl rfl rfl (by decide +kernel) ⟨(Nat.le_of_ble_eq_true rfl), (Nat.le_of_ble_eq_true rfl)⟩ rfl (Nat.le_of_ble_eq_true rfl) ⟨(Nat.le_of_ble_eq_true rfl), (Nat.le_of_ble_eq_true rfl)⟩ dL_faults_35 rfl (fun g_22 hp_23 => ?_)
    obtain ⟨ho_24, hf_25⟩ := hp_23
    have hfr_26 : ∀ q, 141 ≤ q ∧ q < N → g_22 q = g q := fun q hq => (hf_25 q (by omega)).trans (hfr_21 q hq)
    refine w_if_ne 43 dL_faults_38 (by decide) (by first | omega | with_reducible rfl) (fun c_38 => ?_) (fun c_38 => ?_)
    · refine w_aload_n dL_faults_43 rfl 0 rfl ?_
      refine w_bipush dL_faults_44 (by decide) ?_
      refine w_iconst dL_faults_46 ?_
      refine w_iconst dL_faults_47 ?_
      refine w_iconst dL_faults_48 ?_
      refine w_callvX (As := [.ref (B + 0), .int (zI 115), .int (zI 0), .int (zI 0), .int (zI 0)]) (rest := []) (n := 5) (mc := 1) (ms := 4) hsx (c_says (a := 115) (b1 := 0) (c := 0) (d := 0) ho_24 (by omega) (by omega) (by decide +kernel) (by first | omega | with_reducible rfl) (by first | omega | with_reducible rfl) (by first | omega | with_reducible rfl) (by first | omega | with_reducible rfl)) gL_faults_L_says rfl rfl rfl (by decide +kernel) ⟨(Nat.le_of_ble_eq_true rfl), (Nat.le_of_ble_eq_true rfl)⟩ rfl (Nat.le_of_ble_eq_true rfl) ⟨(Nat.le_of_ble_eq_true rfl), (Nat.le_of_ble_eq_true rfl)⟩ dL_faults_49 rfl (fun g_27 hp_28 => ?_)
      obtain ⟨ho_29, hf_30⟩ := hp_28
      have hfr_31 : ∀ q, 141 ≤ q ∧ q < N → g_27 q = g q := fun q hq => (hf_30 q (by omega)).trans (hfr_26 q hq)
      refine w_aload_n dL_faults_52 rfl 0 rfl ?_
      refine w_iconst dL_faults_53 ?_
      refine w_calliS (As := [.ref (B + 0), .int (zI 0)]) (rest := []) (n := 2) (c_isFault (place := 0) ho_29 (by omega) (by omega) (by first | omega | with_reducible rfl) (by decide +kernel) (by decide +kernel)) gL_faults_L_isFault rfl rfl rfl (by decide +kernel) ⟨(Nat.le_of_ble_eq_true rfl), (Nat.le_of_ble_eq_true rfl)⟩ rfl (Nat.le_of_ble_eq_true rfl) ⟨(Nat.le_of_ble_eq_true rfl), (Nat.le_of_ble_eq_true rfl)⟩ dL_faults_54 rfl (fun g_32 hp_33 => ?_)
      obtain ⟨ho_34, hf_35⟩ := hp_33
      have hfr_36 : ∀ q, 141 ≤ q ∧ q < N → g_32 q = g q := fun q hq => (hf_35 q (by omega)).trans (hfr_31 q hq)
      refine w_if_ne 62 dL_faults_57 (by decide) (by first | omega | with_reducible rfl) (fun c_57 => ?_) (fun c_57 => ?_)
      · refine w_aload_n dL_faults_62 rfl 0 rfl ?_
        refine w_bipush dL_faults_63 (by decide) ?_
        refine w_bipush dL_faults_65 (by decide) ?_
        refine w_iconst dL_faults_67 ?_
        refine w_iconst dL_faults_68 ?_
        refine w_callvX (As := [.ref (B + 0), .int (zI 115), .int (zI 59), .int (zI 0), .int (zI 0)]) (rest := []) (n := 5) (mc := 1) (ms := 4) hsx (c_says (a := 115) (b1 := 59) (c := 0) (d := 0) ho_34 (by omega) (by omega) (by decide +kernel) (by first | omega | with_reducible rfl) (by first | omega | with_reducible rfl) (by first | omega | with_reducible rfl) (by first | omega | with_reducible rfl)) gL_faults_L_says rfl rfl rfl (by decide +kernel) ⟨(Nat.le_of_ble_eq_true rfl), (Nat.le_of_ble_eq_true rfl)⟩ rfl (Nat.le_of_ble_eq_true rfl) ⟨(Nat.le_of_ble_eq_true rfl), (Nat.le_of_ble_eq_true rfl)⟩ dL_faults_69 rfl (fun g_37 hp_38 => ?_)
        obtain ⟨ho_39, hf_40⟩ := hp_38
        have hfr_41 : ∀ q, 141 ≤ q ∧ q < N → g_37 q = g q := fun q hq => (hf_40 q (by omega)).trans (hfr_36 q hq)
        refine w_aload_n dL_faults_72 rfl 0 rfl ?_
        refine w_bipush dL_faults_73 (by decide) ?_
        refine w_iconst dL_faults_75 ?_
        refine w_iconst dL_faults_76 ?_
        refine w_callvS (As := [.ref (B + 0), .int (zI 13), .int (zI 2), .int (zI 0)]) (rest := []) (n := 4) (c_column (all := 13) (above := 2) (score := 0) ho_39 (by omega) (by omega) (by first | omega | with_reducible rfl) (by first | omega | with_reducible rfl) (by first | omega | with_reducible rfl) (by decide +kernel)) gL_faults_L_column rfl rfl rfl (by decide +kernel) ⟨(Nat.le_of_ble_eq_true rfl), (Nat.le_of_ble_eq_true rfl)⟩ rfl (Nat.le_of_ble_eq_true rfl) ⟨(Nat.le_of_ble_eq_true rfl), (Nat.le_of_ble_eq_true rfl)⟩ dL_faults_77 rfl (fun g_42 hp_43 => ?_)
        obtain ⟨ho_44, hf_45⟩ := hp_43
        have hfr_46 : ∀ q, 141 ≤ q ∧ q < N → g_42 q = g q := fun q hq => (hf_45 q (by omega)).trans (hfr_41 q hq)
        refine w_aload_n dL_faults_80 rfl 0 rfl ?_
        refine w_iconst dL_faults_81 ?_
        refine w_calliS (As := [.ref (B + 0), .int (zI 2)]) (rest := []) (n := 2) (c_isFault (place := 2) ho_44 (by omega) (by omega) (by first | omega | with_reducible rfl) (by decide +kernel) (by decide +kernel)) gL_faults_L_isFault rfl rfl rfl (by decide +kernel) ⟨(Nat.le_of_ble_eq_true rfl), (Nat.le_of_ble_eq_true rfl)⟩ rfl (Nat.le_of_ble_eq_true rfl) ⟨(Nat.le_of_ble_eq_true rfl), (Nat.le_of_ble_eq_true rfl)⟩ dL_faults_82 rfl (fun g_47 hp_48 => ?_)
        obtain ⟨ho_49, hf_50⟩ := hp_48
        have hfr_51 : ∀ q, 141 ≤ q ∧ q < N → g_47 q = g q := fun q hq => (hf_50 q (by omega)).trans (hfr_46 q hq)
        refine w_if_ne 90 dL_faults_85 (by decide) (by first | omega | with_reducible rfl) (fun c_85 => ?_) (fun c_85 => ?_)
        · refine w_aload_n dL_faults_90 rfl 0 rfl ?_
          refine w_bipush dL_faults_91 (by decide) ?_
          refine w_bipush dL_faults_93 (by decide) ?_
          refine w_iconst dL_faults_95 ?_
          refine w_iconst dL_faults_96 ?_
          refine w_callvX (As := [.ref (B + 0), .int (zI 115), .int (zI 59), .int (zI 0), .int (zI 0)]) (rest := []) (n := 5) (mc := 1) (ms := 4) hsx (c_says (a := 115) (b1 := 59) (c := 0) (d := 0) ho_49 (by omega) (by omega) (by decide +kernel) (by first | omega | with_reducible rfl) (by first | omega | with_reducible rfl) (by first | omega | with_reducible rfl) (by first | omega | with_reducible rfl)) gL_faults_L_says rfl rfl rfl (by decide +kernel) ⟨(Nat.le_of_ble_eq_true rfl), (Nat.le_of_ble_eq_true rfl)⟩ rfl (Nat.le_of_ble_eq_true rfl) ⟨(Nat.le_of_ble_eq_true rfl), (Nat.le_of_ble_eq_true rfl)⟩ dL_faults_97 rfl (fun g_52 hp_53 => ?_)
          obtain ⟨ho_54, hf_55⟩ := hp_53
          have hfr_56 : ∀ q, 141 ≤ q ∧ q < N → g_52 q = g q := fun q hq => (hf_55 q (by omega)).trans (hfr_51 q hq)
          refine w_aload_n dL_faults_100 rfl 0 rfl ?_
          refine w_iconst dL_faults_101 ?_
          refine w_iconst dL_faults_102 ?_
          refine w_iconst dL_faults_103 ?_
          refine w_callvS (As := [.ref (B + 0), .int (zI 0), .int (zI 0), .int (zI 0)]) (rest := []) (n := 4) (c_column (all := 0) (above := 0) (score := 0) ho_54 (by omega) (by omega) (by first | omega | with_reducible rfl) (by first | omega | with_reducible rfl) (by first | omega | with_reducible rfl) (by decide +kernel)) gL_faults_L_column rfl rfl rfl (by decide +kernel) ⟨(Nat.le_of_ble_eq_true rfl), (Nat.le_of_ble_eq_true rfl)⟩ rfl (Nat.le_of_ble_eq_true rfl) ⟨(Nat.le_of_ble_eq_true rfl), (Nat.le_of_ble_eq_true rfl)⟩ dL_faults_104 rfl (fun g_57 hp_58 => ?_)
          obtain ⟨ho_59, hf_60⟩ := hp_58
          have hfr_61 : ∀ q, 141 ≤ q ∧ q < N → g_57 q = g q := fun q hq => (hf_60 q (by omega)).trans (hfr_56 q hq)
          refine w_aload_n dL_faults_107 rfl 0 rfl ?_
          refine w_iconst dL_faults_108 ?_
          refine w_calliS (As := [.ref (B + 0), .int (zI 2)]) (rest := []) (n := 2) (c_isFault (place := 2) ho_59 (by omega) (by omega) (by first | omega | with_reducible rfl) (by decide +kernel) (by decide +kernel)) gL_faults_L_isFault rfl rfl rfl (by decide +kernel) ⟨(Nat.le_of_ble_eq_true rfl), (Nat.le_of_ble_eq_true rfl)⟩ rfl (Nat.le_of_ble_eq_true rfl) ⟨(Nat.le_of_ble_eq_true rfl), (Nat.le_of_ble_eq_true rfl)⟩ dL_faults_109 rfl (fun g_62 hp_63 => ?_)
          obtain ⟨ho_64, hf_65⟩ := hp_63
          have hfr_66 : ∀ q, 141 ≤ q ∧ q < N → g_62 q = g q := fun q hq => (hf_65 q (by omega)).trans (hfr_61 q hq)
          refine w_if_ne 117 dL_faults_112 (by decide) (by first | omega | with_reducible rfl) (fun c_112 => ?_) (fun c_112 => ?_)
          · refine w_aload_n dL_faults_117 rfl 0 rfl ?_
            refine w_bipush dL_faults_118 (by decide) ?_
            refine w_bipush dL_faults_120 (by decide) ?_
            refine w_iconst dL_faults_122 ?_
            refine w_iconst dL_faults_123 ?_
            refine w_callvX (As := [.ref (B + 0), .int (zI 115), .int (zI 59), .int (zI 0), .int (zI 0)]) (rest := []) (n := 5) (mc := 1) (ms := 4) hsx (c_says (a := 115) (b1 := 59) (c := 0) (d := 0) ho_64 (by omega) (by omega) (by decide +kernel) (by first | omega | with_reducible rfl) (by first | omega | with_reducible rfl) (by first | omega | with_reducible rfl) (by first | omega | with_reducible rfl)) gL_faults_L_says rfl rfl rfl (by decide +kernel) ⟨(Nat.le_of_ble_eq_true rfl), (Nat.le_of_ble_eq_true rfl)⟩ rfl (Nat.le_of_ble_eq_true rfl) ⟨(Nat.le_of_ble_eq_true rfl), (Nat.le_of_ble_eq_true rfl)⟩ dL_faults_124 rfl (fun g_67 hp_68 => ?_)
            obtain ⟨ho_69, hf_70⟩ := hp_68
            have hfr_71 : ∀ q, 141 ≤ q ∧ q < N → g_67 q = g q := fun q hq => (hf_70 q (by omega)).trans (hfr_66 q hq)
            refine w_aload_n dL_faults_127 rfl 0 rfl ?_
            refine w_iconst dL_faults_128 ?_
            refine w_iconst dL_faults_129 ?_
            refine w_iconst dL_faults_130 ?_
            refine w_callvS (As := [.ref (B + 0), .int (zI 4), .int (zI 5), .int (zI 0)]) (rest := []) (n := 4) (c_column (all := 4) (above := 5) (score := 0) ho_69 (by omega) (by omega) (by first | omega | with_reducible rfl) (by first | omega | with_reducible rfl) (by first | omega | with_reducible rfl) (by decide +kernel)) gL_faults_L_column rfl rfl rfl (by decide +kernel) ⟨(Nat.le_of_ble_eq_true rfl), (Nat.le_of_ble_eq_true rfl)⟩ rfl (Nat.le_of_ble_eq_true rfl) ⟨(Nat.le_of_ble_eq_true rfl), (Nat.le_of_ble_eq_true rfl)⟩ dL_faults_131 rfl (fun g_72 hp_73 => ?_)
            obtain ⟨ho_74, hf_75⟩ := hp_73
            have hfr_76 : ∀ q, 141 ≤ q ∧ q < N → g_72 q = g q := fun q hq => (hf_75 q (by omega)).trans (hfr_71 q hq)
            refine w_aload_n dL_faults_134 rfl 0 rfl ?_
            refine w_iconst dL_faults_135 ?_
            refine w_calliS (As := [.ref (B + 0), .int (zI 2)]) (rest := []) (n := 2) (c_isFault (place := 2) ho_74 (by omega) (by omega) (by first | omega | with_reducible rfl) (by decide +kernel) (by decide +kernel)) gL_faults_L_isFault rfl rfl rfl (by decide +kernel) ⟨(Nat.le_of_ble_eq_true rfl), (Nat.le_of_ble_eq_true rfl)⟩ rfl (Nat.le_of_ble_eq_true rfl) ⟨(Nat.le_of_ble_eq_true rfl), (Nat.le_of_ble_eq_true rfl)⟩ dL_faults_136 rfl (fun g_77 hp_78 => ?_)
            obtain ⟨ho_79, hf_80⟩ := hp_78
            have hfr_81 : ∀ q, 141 ≤ q ∧ q < N → g_77 q = g q := fun q hq => (hf_80 q (by omega)).trans (hfr_76 q hq)
            refine w_if_ne 144 dL_faults_139 (by decide) (by first | omega | with_reducible rfl) (fun c_139 => ?_) (fun c_139 => ?_)
            · refine w_aload_n dL_faults_144 rfl 0 rfl ?_
              refine w_bipush dL_faults_145 (by decide) ?_
              refine w_bipush dL_faults_147 (by decide) ?_
              refine w_iconst dL_faults_149 ?_
              refine w_iconst dL_faults_150 ?_
              refine w_callvX (As := [.ref (B + 0), .int (zI 115), .int (zI 59), .int (zI 0), .int (zI 0)]) (rest := []) (n := 5) (mc := 1) (ms := 4) hsx (c_says (a := 115) (b1 := 59) (c := 0) (d := 0) ho_79 (by omega) (by omega) (by decide +kernel) (by first | omega | with_reducible rfl) (by first | omega | with_reducible rfl) (by first | omega | with_reducible rfl) (by first | omega | with_reducible rfl)) gL_faults_L_says rfl rfl rfl (by decide +kernel) ⟨(Nat.le_of_ble_eq_true rfl), (Nat.le_of_ble_eq_true rfl)⟩ rfl (Nat.le_of_ble_eq_true rfl) ⟨(Nat.le_of_ble_eq_true rfl), (Nat.le_of_ble_eq_true rfl)⟩ dL_faults_151 rfl (fun g_82 hp_83 => ?_)
              obtain ⟨ho_84, hf_85⟩ := hp_83
              have hfr_86 : ∀ q, 141 ≤ q ∧ q < N → g_82 q = g q := fun q hq => (hf_85 q (by omega)).trans (hfr_81 q hq)
              refine w_aload_n dL_faults_154 rfl 0 rfl ?_
              refine w_iconst dL_faults_155 ?_
              refine w_iconst dL_faults_156 ?_
              refine w_bipush dL_faults_157 (by decide) ?_
              refine w_callvS (As := [.ref (B + 0), .int (zI 4), .int (zI 2), .int (zI 10)]) (rest := []) (n := 4) (c_column (all := 4) (above := 2) (score := 10) ho_84 (by omega) (by omega) (by first | omega | with_reducible rfl) (by first | omega | with_reducible rfl) (by first | omega | with_reducible rfl) (by decide +kernel)) gL_faults_L_column rfl rfl rfl (by decide +kernel) ⟨(Nat.le_of_ble_eq_true rfl), (Nat.le_of_ble_eq_true rfl)⟩ rfl (Nat.le_of_ble_eq_true rfl) ⟨(Nat.le_of_ble_eq_true rfl), (Nat.le_of_ble_eq_true rfl)⟩ dL_faults_159 rfl (fun g_87 hp_88 => ?_)
              obtain ⟨ho_89, hf_90⟩ := hp_88
              have hfr_91 : ∀ q, 141 ≤ q ∧ q < N → g_87 q = g q := fun q hq => (hf_90 q (by omega)).trans (hfr_86 q hq)
              refine w_aload_n dL_faults_162 rfl 0 rfl ?_
              refine w_iconst dL_faults_163 ?_
              refine w_calliS (As := [.ref (B + 0), .int (zI 2)]) (rest := []) (n := 2) (c_isFault (place := 2) ho_89 (by omega) (by omega) (by first | omega | with_reducible rfl) (by decide +kernel) (by decide +kernel)) gL_faults_L_isFault rfl rfl rfl (by decide +kernel) ⟨(Nat.le_of_ble_eq_true rfl), (Nat.le_of_ble_eq_true rfl)⟩ rfl (Nat.le_of_ble_eq_true rfl) ⟨(Nat.le_of_ble_eq_true rfl), (Nat.le_of_ble_eq_true rfl)⟩ dL_faults_164 rfl (fun g_92 hp_93 => ?_)
              obtain ⟨ho_94, hf_95⟩ := hp_93
              have hfr_96 : ∀ q, 141 ≤ q ∧ q < N → g_92 q = g q := fun q hq => (hf_95 q (by omega)).trans (hfr_91 q hq)
              refine w_if_ne 172 dL_faults_167 (by decide) (by first | omega | with_reducible rfl) (fun c_167 => ?_) (fun c_167 => ?_)
              · refine w_aload_n dL_faults_172 rfl 0 rfl ?_
                refine w_bipush dL_faults_173 (by decide) ?_
                refine w_bipush dL_faults_175 (by decide) ?_
                refine w_bipush dL_faults_177 (by decide) ?_
                refine w_bipush dL_faults_179 (by decide) ?_
                refine w_callvX (As := [.ref (B + 0), .int (zI 115), .int (zI 59), .int (zI 99), .int (zI 48)]) (rest := []) (n := 5) (mc := 1) (ms := 4) hsx (c_says (a := 115) (b1 := 59) (c := 99) (d := 48) ho_94 (by omega) (by omega) (by decide +kernel) (by first | omega | with_reducible rfl) (by first | omega | with_reducible rfl) (by first | omega | with_reducible rfl) (by first | omega | with_reducible rfl)) gL_faults_L_says rfl rfl rfl (by decide +kernel) ⟨(Nat.le_of_ble_eq_true rfl), (Nat.le_of_ble_eq_true rfl)⟩ rfl (Nat.le_of_ble_eq_true rfl) ⟨(Nat.le_of_ble_eq_true rfl), (Nat.le_of_ble_eq_true rfl)⟩ dL_faults_181 rfl (fun g_97 hp_98 => ?_)
                obtain ⟨ho_99, hf_100⟩ := hp_98
                have hfr_101 : ∀ q, 141 ≤ q ∧ q < N → g_97 q = g q := fun q hq => (hf_100 q (by omega)).trans (hfr_96 q hq)
                refine w_aload_n dL_faults_184 rfl 0 rfl ?_
                refine w_bipush dL_faults_185 (by decide) ?_
                refine w_bipush dL_faults_187 (by decide) ?_
                refine w_bipush dL_faults_189 (by decide) ?_
                refine w_bipush dL_faults_191 (by decide) ?_
                refine w_callvX (As := [.ref (B + 0), .int (zI 48), .int (zI 52), .int (zI 44), .int (zI 49)]) (rest := []) (n := 5) (mc := 1) (ms := 4) hsx (c_says (a := 48) (b1 := 52) (c := 44) (d := 49) ho_99 (by omega) (by omega) (by decide +kernel) (by first | omega | with_reducible rfl) (by first | omega | with_reducible rfl) (by first | omega | with_reducible rfl) (by first | omega | with_reducible rfl)) gL_faults_L_says rfl rfl rfl (by decide +kernel) ⟨(Nat.le_of_ble_eq_true rfl), (Nat.le_of_ble_eq_true rfl)⟩ rfl (Nat.le_of_ble_eq_true rfl) ⟨(Nat.le_of_ble_eq_true rfl), (Nat.le_of_ble_eq_true rfl)⟩ dL_faults_193 rfl (fun g_102 hp_103 => ?_)
                obtain ⟨ho_104, hf_105⟩ := hp_103
                have hfr_106 : ∀ q, 141 ≤ q ∧ q < N → g_102 q = g q := fun q hq => (hf_105 q (by omega)).trans (hfr_101 q hq)
                refine w_aload_n dL_faults_196 rfl 0 rfl ?_
                refine w_bipush dL_faults_197 (by decide) ?_
                refine w_bipush dL_faults_199 (by decide) ?_
                refine w_bipush dL_faults_201 (by decide) ?_
                refine w_iconst dL_faults_203 ?_
                refine w_callvX (As := [.ref (B + 0), .int (zI 44), .int (zI 49), .int (zI 59), .int (zI 0)]) (rest := []) (n := 5) (mc := 1) (ms := 4) hsx (c_says (a := 44) (b1 := 49) (c := 59) (d := 0) ho_104 (by omega) (by omega) (by decide +kernel) (by first | omega | with_reducible rfl) (by first | omega | with_reducible rfl) (by first | omega | with_reducible rfl) (by first | omega | with_reducible rfl)) gL_faults_L_says rfl rfl rfl (by decide +kernel) ⟨(Nat.le_of_ble_eq_true rfl), (Nat.le_of_ble_eq_true rfl)⟩ rfl (Nat.le_of_ble_eq_true rfl) ⟨(Nat.le_of_ble_eq_true rfl), (Nat.le_of_ble_eq_true rfl)⟩ dL_faults_204 rfl (fun g_107 hp_108 => ?_)
                obtain ⟨ho_109, hf_110⟩ := hp_108
                have hfr_111 : ∀ q, 141 ≤ q ∧ q < N → g_107 q = g q := fun q hq => (hf_110 q (by omega)).trans (hfr_106 q hq)
                refine w_aload_n dL_faults_207 rfl 0 rfl ?_
                refine w_iconst dL_faults_208 ?_
                refine w_calliS (As := [.ref (B + 0), .int (zI 2)]) (rest := []) (n := 2) (c_isFault (place := 2) ho_109 (by omega) (by omega) (by first | omega | with_reducible rfl) (by decide +kernel) (by decide +kernel)) gL_faults_L_isFault rfl rfl rfl (by decide +kernel) ⟨(Nat.le_of_ble_eq_true rfl), (Nat.le_of_ble_eq_true rfl)⟩ rfl (Nat.le_of_ble_eq_true rfl) ⟨(Nat.le_of_ble_eq_true rfl), (Nat.le_of_ble_eq_true rfl)⟩ dL_faults_209 rfl (fun g_112 hp_113 => ?_)
                obtain ⟨ho_114, hf_115⟩ := hp_113
                have hfr_116 : ∀ q, 141 ≤ q ∧ q < N → g_112 q = g q := fun q hq => (hf_115 q (by omega)).trans (hfr_111 q hq)
                refine w_if_ne 217 dL_faults_212 (by decide) (by first | omega | with_reducible rfl) (fun c_212 => ?_) (fun c_212 => ?_)
                · refine w_aload_n dL_faults_217 rfl 0 rfl ?_
                  refine w_bipush dL_faults_218 (by decide) ?_
                  refine w_bipush dL_faults_220 (by decide) ?_
                  refine w_bipush dL_faults_222 (by decide) ?_
                  refine w_bipush dL_faults_224 (by decide) ?_
                  refine w_callvX (As := [.ref (B + 0), .int (zI 115), .int (zI 59), .int (zI 99), .int (zI 52)]) (rest := []) (n := 5) (mc := 1) (ms := 4) hsx (c_says (a := 115) (b1 := 59) (c := 99) (d := 52) ho_114 (by omega) (by omega) (by decide +kernel) (by first | omega | with_reducible rfl) (by first | omega | with_reducible rfl) (by first | omega | with_reducible rfl) (by first | omega | with_reducible rfl)) gL_faults_L_says rfl rfl rfl (by decide +kernel) ⟨(Nat.le_of_ble_eq_true rfl), (Nat.le_of_ble_eq_true rfl)⟩ rfl (Nat.le_of_ble_eq_true rfl) ⟨(Nat.le_of_ble_eq_true rfl), (Nat.le_of_ble_eq_true rfl)⟩ dL_faults_226 rfl (fun g_117 hp_118 => ?_)
                  obtain ⟨ho_119, hf_120⟩ := hp_118
                  have hfr_121 : ∀ q, 141 ≤ q ∧ q < N → g_117 q = g q := fun q hq => (hf_120 q (by omega)).trans (hfr_116 q hq)
                  refine w_aload_n dL_faults_229 rfl 0 rfl ?_
                  refine w_bipush dL_faults_230 (by decide) ?_
                  refine w_bipush dL_faults_232 (by decide) ?_
                  refine w_bipush dL_faults_234 (by decide) ?_
                  refine w_bipush dL_faults_236 (by decide) ?_
                  refine w_callvX (As := [.ref (B + 0), .int (zI 44), .int (zI 44), .int (zI 49), .int (zI 59)]) (rest := []) (n := 5) (mc := 1) (ms := 4) hsx (c_says (a := 44) (b1 := 44) (c := 49) (d := 59) ho_119 (by omega) (by omega) (by decide +kernel) (by first | omega | with_reducible rfl) (by first | omega | with_reducible rfl) (by first | omega | with_reducible rfl) (by first | omega | with_reducible rfl)) gL_faults_L_says rfl rfl rfl (by decide +kernel) ⟨(Nat.le_of_ble_eq_true rfl), (Nat.le_of_ble_eq_true rfl)⟩ rfl (Nat.le_of_ble_eq_true rfl) ⟨(Nat.le_of_ble_eq_true rfl), (Nat.le_of_ble_eq_true rfl)⟩ dL_faults_238 rfl (fun g_122 hp_123 => ?_)
                  obtain ⟨ho_124, hf_125⟩ := hp_123
                  have hfr_126 : ∀ q, 141 ≤ q ∧ q < N → g_122 q = g q := fun q hq => (hf_125 q (by omega)).trans (hfr_121 q hq)
                  refine w_aload_n dL_faults_241 rfl 0 rfl ?_
                  refine w_iconst dL_faults_242 ?_
                  refine w_calliS (As := [.ref (B + 0), .int (zI 2)]) (rest := []) (n := 2) (c_isFault (place := 2) ho_124 (by omega) (by omega) (by first | omega | with_reducible rfl) (by decide +kernel) (by decide +kernel)) gL_faults_L_isFault rfl rfl rfl (by decide +kernel) ⟨(Nat.le_of_ble_eq_true rfl), (Nat.le_of_ble_eq_true rfl)⟩ rfl (Nat.le_of_ble_eq_true rfl) ⟨(Nat.le_of_ble_eq_true rfl), (Nat.le_of_ble_eq_true rfl)⟩ dL_faults_243 rfl (fun g_127 hp_128 => ?_)
                  obtain ⟨ho_129, hf_130⟩ := hp_128
                  have hfr_131 : ∀ q, 141 ≤ q ∧ q < N → g_127 q = g q := fun q hq => (hf_130 q (by omega)).trans (hfr_126 q hq)
                  refine w_if_ne 251 dL_faults_246 (by decide) (by first | omega | with_reducible rfl) (fun c_246 => ?_) (fun c_246 => ?_)
                  · refine w_aload_n dL_faults_251 rfl 0 rfl ?_
                    refine w_bipush dL_faults_252 (by decide) ?_
                    refine w_bipush dL_faults_254 (by decide) ?_
                    refine w_iconst dL_faults_256 ?_
                    refine w_iconst dL_faults_257 ?_
                    refine w_callvX (As := [.ref (B + 0), .int (zI 115), .int (zI 59), .int (zI 0), .int (zI 0)]) (rest := []) (n := 5) (mc := 1) (ms := 4) hsx (c_says (a := 115) (b1 := 59) (c := 0) (d := 0) ho_129 (by omega) (by omega) (by decide +kernel) (by first | omega | with_reducible rfl) (by first | omega | with_reducible rfl) (by first | omega | with_reducible rfl) (by first | omega | with_reducible rfl)) gL_faults_L_says rfl rfl rfl (by decide +kernel) ⟨(Nat.le_of_ble_eq_true rfl), (Nat.le_of_ble_eq_true rfl)⟩ rfl (Nat.le_of_ble_eq_true rfl) ⟨(Nat.le_of_ble_eq_true rfl), (Nat.le_of_ble_eq_true rfl)⟩ dL_faults_258 rfl (fun g_132 hp_133 => ?_)
                    obtain ⟨ho_134, hf_135⟩ := hp_133
                    have hfr_136 : ∀ q, 141 ≤ q ∧ q < N → g_132 q = g q := fun q hq => (hf_135 q (by omega)).trans (hfr_131 q hq)
                    refine w_iconst dL_faults_261 ?_
                    refine w_istore_n [(1, .int (zI 0)), (0, .ref (B + 0))] dL_faults_262 rfl (by decide) rfl ?_
                    refine w_iload_n dL_faults_263 rfl 0 rfl ?_
                    refine w_bipush dL_faults_264 (by decide) ?_
                    refine w_icmp_ge 282 dL_faults_266 (by decide) (by first | omega | with_reducible rfl) (by first | omega | with_reducible rfl) (fun c_266 => ?_) (fun c_266 => ?_)
                    · exfalso; omega
                    · refine w_aload_n dL_faults_269 rfl 1 rfl ?_
                      refine w_iconst dL_faults_270 ?_
                      refine w_iconst dL_faults_271 ?_
                      refine w_iconst dL_faults_272 ?_
                      refine w_callvS (As := [.ref (B + 0), .int (zI 4), .int (zI 2), .int (zI 1)]) (rest := []) (n := 4) (c_column (all := 4) (above := 2) (score := 1) ho_134 (by omega) (by omega) (by first | omega | with_reducible rfl) (by first | omega | with_reducible rfl) (by first | omega | with_reducible rfl) (by decide +kernel)) gL_faults_L_column rfl rfl rfl (by decide +kernel) ⟨(Nat.le_of_ble_eq_true rfl), (Nat.le_of_ble_eq_true rfl)⟩ rfl (Nat.le_of_ble_eq_true rfl) ⟨(Nat.le_of_ble_eq_true rfl), (Nat.le_of_ble_eq_true rfl)⟩ dL_faults_273 rfl (fun g_137 hp_138 => ?_)
                      obtain ⟨ho_139, hf_140⟩ := hp_138
                      have hfr_141 : ∀ q, 141 ≤ q ∧ q < N → g_137 q = g q := fun q hq => (hf_140 q (by omega)).trans (hfr_136 q hq)
                      refine w_iinc 0 [(1, .int (zI (0 + 1))), (0, .ref (B + 0))] dL_faults_276 rfl (by decide) rfl ?_
                      refine w_goto 263 dL_faults_279 (by decide) ?_
                      refine w_iload_n dL_faults_263 rfl 0 rfl ?_
                      refine w_bipush dL_faults_264 (by decide) ?_
                      refine w_icmp_ge 282 dL_faults_266 (by decide) (by first | omega | with_reducible rfl) (by first | omega | with_reducible rfl) (fun c_266 => ?_) (fun c_266 => ?_)
                      · exfalso; omega
                      · refine w_aload_n dL_faults_269 rfl 1 rfl ?_
                        refine w_iconst dL_faults_270 ?_
                        refine w_iconst dL_faults_271 ?_
                        refine w_iconst dL_faults_272 ?_
                        refine w_callvS (As := [.ref (B + 0), .int (zI 4), .int (zI 2), .int (zI 1)]) (rest := []) (n := 4) (c_column (all := 4) (above := 2) (score := 1) ho_139 (by omega) (by omega) (by first | omega | with_reducible rfl) (by first | omega | with_reducible rfl) (by first | omega | with_reducible rfl) (by decide +kernel)) gL_faults_L_column rfl rfl rfl (by decide +kernel) ⟨(Nat.le_of_ble_eq_true rfl), (Nat.le_of_ble_eq_true rfl)⟩ rfl (Nat.le_of_ble_eq_true rfl) ⟨(Nat.le_of_ble_eq_true rfl), (Nat.le_of_ble_eq_true rfl)⟩ dL_faults_273 rfl (fun g_142 hp_143 => ?_)
                        obtain ⟨ho_144, hf_145⟩ := hp_143
                        have hfr_146 : ∀ q, 141 ≤ q ∧ q < N → g_142 q = g q := fun q hq => (hf_145 q (by omega)).trans (hfr_141 q hq)
                        refine w_iinc 0 [(1, .int (zI ((0 + 1) + 1))), (0, .ref (B + 0))] dL_faults_276 rfl (by decide) rfl ?_
                        refine w_goto 263 dL_faults_279 (by decide) ?_
                        refine w_iload_n dL_faults_263 rfl 0 rfl ?_
                        refine w_bipush dL_faults_264 (by decide) ?_
                        refine w_icmp_ge 282 dL_faults_266 (by decide) (by first | omega | with_reducible rfl) (by first | omega | with_reducible rfl) (fun c_266 => ?_) (fun c_266 => ?_)
                        · exfalso; omega
                        · refine w_aload_n dL_faults_269 rfl 1 rfl ?_
                          refine w_iconst dL_faults_270 ?_
                          refine w_iconst dL_faults_271 ?_
                          refine w_iconst dL_faults_272 ?_
                          refine w_callvS (As := [.ref (B + 0), .int (zI 4), .int (zI 2), .int (zI 1)]) (rest := []) (n := 4) (c_column (all := 4) (above := 2) (score := 1) ho_144 (by omega) (by omega) (by first | omega | with_reducible rfl) (by first | omega | with_reducible rfl) (by first | omega | with_reducible rfl) (by decide +kernel)) gL_faults_L_column rfl rfl rfl (by decide +kernel) ⟨(Nat.le_of_ble_eq_true rfl), (Nat.le_of_ble_eq_true rfl)⟩ rfl (Nat.le_of_ble_eq_true rfl) ⟨(Nat.le_of_ble_eq_true rfl), (Nat.le_of_ble_eq_true rfl)⟩ dL_faults_273 rfl (fun g_147 hp_148 => ?_)
                          obtain ⟨ho_149, hf_150⟩ := hp_148
                          have hfr_151 : ∀ q, 141 ≤ q ∧ q < N → g_147 q = g q := fun q hq => (hf_150 q (by omega)).trans (hfr_146 q hq)
                          refine w_iinc 0 [(1, .int (zI (((0 + 1) + 1) + 1))), (0, .ref (B + 0))] dL_faults_276 rfl (by decide) rfl ?_
                          refine w_goto 263 dL_faults_279 (by decide) ?_
                          refine w_iload_n dL_faults_263 rfl 0 rfl ?_
                          refine w_bipush dL_faults_264 (by decide) ?_
                          refine w_icmp_ge 282 dL_faults_266 (by decide) (by first | omega | with_reducible rfl) (by first | omega | with_reducible rfl) (fun c_266 => ?_) (fun c_266 => ?_)
                          · exfalso; omega
                          · refine w_aload_n dL_faults_269 rfl 1 rfl ?_
                            refine w_iconst dL_faults_270 ?_
                            refine w_iconst dL_faults_271 ?_
                            refine w_iconst dL_faults_272 ?_
                            refine w_callvS (As := [.ref (B + 0), .int (zI 4), .int (zI 2), .int (zI 1)]) (rest := []) (n := 4) (c_column (all := 4) (above := 2) (score := 1) ho_149 (by omega) (by omega) (by first | omega | with_reducible rfl) (by first | omega | with_reducible rfl) (by first | omega | with_reducible rfl) (by decide +kernel)) gL_faults_L_column rfl rfl rfl (by decide +kernel) ⟨(Nat.le_of_ble_eq_true rfl), (Nat.le_of_ble_eq_true rfl)⟩ rfl (Nat.le_of_ble_eq_true rfl) ⟨(Nat.le_of_ble_eq_true rfl), (Nat.le_of_ble_eq_true rfl)⟩ dL_faults_273 rfl (fun g_152 hp_153 => ?_)
                            obtain ⟨ho_154, hf_155⟩ := hp_153
                            have hfr_156 : ∀ q, 141 ≤ q ∧ q < N → g_152 q = g q := fun q hq => (hf_155 q (by omega)).trans (hfr_151 q hq)
                            refine w_iinc 0 [(1, .int (zI ((((0 + 1) + 1) + 1) + 1))), (0, .ref (B + 0))] dL_faults_276 rfl (by decide) rfl ?_
                            refine w_goto 263 dL_faults_279 (by decide) ?_
                            refine w_iload_n dL_faults_263 rfl 0 rfl ?_
                            refine w_bipush dL_faults_264 (by decide) ?_
                            refine w_icmp_ge 282 dL_faults_266 (by decide) (by first | omega | with_reducible rfl) (by first | omega | with_reducible rfl) (fun c_266 => ?_) (fun c_266 => ?_)
                            · exfalso; omega
                            · refine w_aload_n dL_faults_269 rfl 1 rfl ?_
                              refine w_iconst dL_faults_270 ?_
                              refine w_iconst dL_faults_271 ?_
                              refine w_iconst dL_faults_272 ?_
                              refine w_callvS (As := [.ref (B + 0), .int (zI 4), .int (zI 2), .int (zI 1)]) (rest := []) (n := 4) (c_column (all := 4) (above := 2) (score := 1) ho_154 (by omega) (by omega) (by first | omega | with_reducible rfl) (by first | omega | with_reducible rfl) (by first | omega | with_reducible rfl) (by decide +kernel)) gL_faults_L_column rfl rfl rfl (by decide +kernel) ⟨(Nat.le_of_ble_eq_true rfl), (Nat.le_of_ble_eq_true rfl)⟩ rfl (Nat.le_of_ble_eq_true rfl) ⟨(Nat.le_of_ble_eq_true rfl), (Nat.le_of_ble_eq_true rfl)⟩ dL_faults_273 rfl (fun g_157 hp_158 => ?_)
                              obtain ⟨ho_159, hf_160⟩ := hp_158
                              have hfr_161 : ∀ q, 141 ≤ q ∧ q < N → g_157 q = g q := fun q hq => (hf_160 q (by omega)).trans (hfr_156 q hq)
                              refine w_iinc 0 [(1, .int (zI (((((0 + 1) + 1) + 1) + 1) + 1))), (0, .ref (B + 0))] dL_faults_276 rfl (by decide) rfl ?_
                              refine w_goto 263 dL_faults_279 (by decide) ?_
                              refine w_iload_n dL_faults_263 rfl 0 rfl ?_
                              refine w_bipush dL_faults_264 (by decide) ?_
                              refine w_icmp_ge 282 dL_faults_266 (by decide) (by first | omega | with_reducible rfl) (by first | omega | with_reducible rfl) (fun c_266 => ?_) (fun c_266 => ?_)
                              · exfalso; omega
                              · refine w_aload_n dL_faults_269 rfl 1 rfl ?_
                                refine w_iconst dL_faults_270 ?_
                                refine w_iconst dL_faults_271 ?_
                                refine w_iconst dL_faults_272 ?_
                                refine w_callvS (As := [.ref (B + 0), .int (zI 4), .int (zI 2), .int (zI 1)]) (rest := []) (n := 4) (c_column (all := 4) (above := 2) (score := 1) ho_159 (by omega) (by omega) (by first | omega | with_reducible rfl) (by first | omega | with_reducible rfl) (by first | omega | with_reducible rfl) (by decide +kernel)) gL_faults_L_column rfl rfl rfl (by decide +kernel) ⟨(Nat.le_of_ble_eq_true rfl), (Nat.le_of_ble_eq_true rfl)⟩ rfl (Nat.le_of_ble_eq_true rfl) ⟨(Nat.le_of_ble_eq_true rfl), (Nat.le_of_ble_eq_true rfl)⟩ dL_faults_273 rfl (fun g_162 hp_163 => ?_)
                                obtain ⟨ho_164, hf_165⟩ := hp_163
                                have hfr_166 : ∀ q, 141 ≤ q ∧ q < N → g_162 q = g q := fun q hq => (hf_165 q (by omega)).trans (hfr_161 q hq)
                                refine w_iinc 0 [(1, .int (zI ((((((0 + 1) + 1) + 1) + 1) + 1) + 1))), (0, .ref (B + 0))] dL_faults_276 rfl (by decide) rfl ?_
                                refine w_goto 263 dL_faults_279 (by decide) ?_
                                refine w_iload_n dL_faults_263 rfl 0 rfl ?_
                                refine w_bipush dL_faults_264 (by decide) ?_
                                refine w_icmp_ge 282 dL_faults_266 (by decide) (by first | omega | with_reducible rfl) (by first | omega | with_reducible rfl) (fun c_266 => ?_) (fun c_266 => ?_)
                                · refine w_aload_n dL_faults_282 rfl 1 rfl ?_
                                  refine w_bipush dL_faults_283 (by decide) ?_
                                  refine w_calliS (As := [.ref (B + 0), .int (zI 37)]) (rest := []) (n := 2) (c_isFault (place := 37) ho_164 (by omega) (by omega) (by first | omega | with_reducible rfl) (by decide +kernel) (by decide +kernel)) gL_faults_L_isFault rfl rfl rfl (by decide +kernel) ⟨(Nat.le_of_ble_eq_true rfl), (Nat.le_of_ble_eq_true rfl)⟩ rfl (Nat.le_of_ble_eq_true rfl) ⟨(Nat.le_of_ble_eq_true rfl), (Nat.le_of_ble_eq_true rfl)⟩ dL_faults_285 rfl (fun g_167 hp_168 => ?_)
                                  obtain ⟨ho_169, hf_170⟩ := hp_168
                                  have hfr_171 : ∀ q, 141 ≤ q ∧ q < N → g_167 q = g q := fun q hq => (hf_170 q (by omega)).trans (hfr_166 q hq)
                                  refine w_if_ne 293 dL_faults_288 (by decide) (by first | omega | with_reducible rfl) (fun c_288 => ?_) (fun c_288 => ?_)
                                  · refine w_iconst dL_faults_293 ?_
                                    refine w_istore_n [(1, .int (zI 0)), (0, .ref (B + 0))] dL_faults_294 rfl (by decide) rfl ?_
                                    refine w_iload_n dL_faults_295 rfl 0 rfl ?_
                                    refine w_iconst dL_faults_296 ?_
                                    refine w_icmp_ge 316 dL_faults_297 (by decide) (by first | omega | with_reducible rfl) (by first | omega | with_reducible rfl) (fun c_297 => ?_) (fun c_297 => ?_)
                                    · exfalso; omega
                                    · refine w_aload_n dL_faults_300 rfl 1 rfl ?_
                                      refine w_bipush dL_faults_301 (by decide) ?_
                                      refine w_bipush dL_faults_303 (by decide) ?_
                                      refine w_iconst dL_faults_305 ?_
                                      refine w_iconst dL_faults_306 ?_
                                      refine w_callvX (As := [.ref (B + 0), .int (zI 115), .int (zI 59), .int (zI 0), .int (zI 0)]) (rest := []) (n := 5) (mc := 1) (ms := 4) hsx (c_says (a := 115) (b1 := 59) (c := 0) (d := 0) ho_169 (by omega) (by omega) (by decide +kernel) (by first | omega | with_reducible rfl) (by first | omega | with_reducible rfl) (by first | omega | with_reducible rfl) (by first | omega | with_reducible rfl)) gL_faults_L_says rfl rfl rfl (by decide +kernel) ⟨(Nat.le_of_ble_eq_true rfl), (Nat.le_of_ble_eq_true rfl)⟩ rfl (Nat.le_of_ble_eq_true rfl) ⟨(Nat.le_of_ble_eq_true rfl), (Nat.le_of_ble_eq_true rfl)⟩ dL_faults_307 rfl (fun g_172 hp_173 => ?_)
                                      obtain ⟨ho_174, hf_175⟩ := hp_173
                                      have hfr_176 : ∀ q, 141 ≤ q ∧ q < N → g_172 q = g q := fun q hq => (hf_175 q (by omega)).trans (hfr_171 q hq)
                                      refine w_iinc 0 [(1, .int (zI (0 + 1))), (0, .ref (B + 0))] dL_faults_310 rfl (by decide) rfl ?_
                                      refine w_goto 295 dL_faults_313 (by decide) ?_
                                      refine w_iload_n dL_faults_295 rfl 0 rfl ?_
                                      refine w_iconst dL_faults_296 ?_
                                      refine w_icmp_ge 316 dL_faults_297 (by decide) (by first | omega | with_reducible rfl) (by first | omega | with_reducible rfl) (fun c_297 => ?_) (fun c_297 => ?_)
                                      · exfalso; omega
                                      · refine w_aload_n dL_faults_300 rfl 1 rfl ?_
                                        refine w_bipush dL_faults_301 (by decide) ?_
                                        refine w_bipush dL_faults_303 (by decide) ?_
                                        refine w_iconst dL_faults_305 ?_
                                        refine w_iconst dL_faults_306 ?_
                                        refine w_callvX (As := [.ref (B + 0), .int (zI 115), .int (zI 59), .int (zI 0), .int (zI 0)]) (rest := []) (n := 5) (mc := 1) (ms := 4) hsx (c_says (a := 115) (b1 := 59) (c := 0) (d := 0) ho_174 (by omega) (by omega) (by decide +kernel) (by first | omega | with_reducible rfl) (by first | omega | with_reducible rfl) (by first | omega | with_reducible rfl) (by first | omega | with_reducible rfl)) gL_faults_L_says rfl rfl rfl (by decide +kernel) ⟨(Nat.le_of_ble_eq_true rfl), (Nat.le_of_ble_eq_true rfl)⟩ rfl (Nat.le_of_ble_eq_true rfl) ⟨(Nat.le_of_ble_eq_true rfl), (Nat.le_of_ble_eq_true rfl)⟩ dL_faults_307 rfl (fun g_177 hp_178 => ?_)
                                        obtain ⟨ho_179, hf_180⟩ := hp_178
                                        have hfr_181 : ∀ q, 141 ≤ q ∧ q < N → g_177 q = g q := fun q hq => (hf_180 q (by omega)).trans (hfr_176 q hq)
                                        refine w_iinc 0 [(1, .int (zI ((0 + 1) + 1))), (0, .ref (B + 0))] dL_faults_310 rfl (by decide) rfl ?_
                                        refine w_goto 295 dL_faults_313 (by decide) ?_
                                        refine w_iload_n dL_faults_295 rfl 0 rfl ?_
                                        refine w_iconst dL_faults_296 ?_
                                        refine w_icmp_ge 316 dL_faults_297 (by decide) (by first | omega | with_reducible rfl) (by first | omega | with_reducible rfl) (fun c_297 => ?_) (fun c_297 => ?_)
                                        · exfalso; omega
                                        · refine w_aload_n dL_faults_300 rfl 1 rfl ?_
                                          refine w_bipush dL_faults_301 (by decide) ?_
                                          refine w_bipush dL_faults_303 (by decide) ?_
                                          refine w_iconst dL_faults_305 ?_
                                          refine w_iconst dL_faults_306 ?_
                                          refine w_callvX (As := [.ref (B + 0), .int (zI 115), .int (zI 59), .int (zI 0), .int (zI 0)]) (rest := []) (n := 5) (mc := 1) (ms := 4) hsx (c_says (a := 115) (b1 := 59) (c := 0) (d := 0) ho_179 (by omega) (by omega) (by decide +kernel) (by first | omega | with_reducible rfl) (by first | omega | with_reducible rfl) (by first | omega | with_reducible rfl) (by first | omega | with_reducible rfl)) gL_faults_L_says rfl rfl rfl (by decide +kernel) ⟨(Nat.le_of_ble_eq_true rfl), (Nat.le_of_ble_eq_true rfl)⟩ rfl (Nat.le_of_ble_eq_true rfl) ⟨(Nat.le_of_ble_eq_true rfl), (Nat.le_of_ble_eq_true rfl)⟩ dL_faults_307 rfl (fun g_182 hp_183 => ?_)
                                          obtain ⟨ho_184, hf_185⟩ := hp_183
                                          have hfr_186 : ∀ q, 141 ≤ q ∧ q < N → g_182 q = g q := fun q hq => (hf_185 q (by omega)).trans (hfr_181 q hq)
                                          refine w_iinc 0 [(1, .int (zI (((0 + 1) + 1) + 1))), (0, .ref (B + 0))] dL_faults_310 rfl (by decide) rfl ?_
                                          refine w_goto 295 dL_faults_313 (by decide) ?_
                                          refine w_iload_n dL_faults_295 rfl 0 rfl ?_
                                          refine w_iconst dL_faults_296 ?_
                                          refine w_icmp_ge 316 dL_faults_297 (by decide) (by first | omega | with_reducible rfl) (by first | omega | with_reducible rfl) (fun c_297 => ?_) (fun c_297 => ?_)
                                          · exfalso; omega
                                          · refine w_aload_n dL_faults_300 rfl 1 rfl ?_
                                            refine w_bipush dL_faults_301 (by decide) ?_
                                            refine w_bipush dL_faults_303 (by decide) ?_
                                            refine w_iconst dL_faults_305 ?_
                                            refine w_iconst dL_faults_306 ?_
                                            refine w_callvX (As := [.ref (B + 0), .int (zI 115), .int (zI 59), .int (zI 0), .int (zI 0)]) (rest := []) (n := 5) (mc := 1) (ms := 4) hsx (c_says (a := 115) (b1 := 59) (c := 0) (d := 0) ho_184 (by omega) (by omega) (by decide +kernel) (by first | omega | with_reducible rfl) (by first | omega | with_reducible rfl) (by first | omega | with_reducible rfl) (by first | omega | with_reducible rfl)) gL_faults_L_says rfl rfl rfl (by decide +kernel) ⟨(Nat.le_of_ble_eq_true rfl), (Nat.le_of_ble_eq_true rfl)⟩ rfl (Nat.le_of_ble_eq_true rfl) ⟨(Nat.le_of_ble_eq_true rfl), (Nat.le_of_ble_eq_true rfl)⟩ dL_faults_307 rfl (fun g_187 hp_188 => ?_)
                                            obtain ⟨ho_189, hf_190⟩ := hp_188
                                            have hfr_191 : ∀ q, 141 ≤ q ∧ q < N → g_187 q = g q := fun q hq => (hf_190 q (by omega)).trans (hfr_186 q hq)
                                            refine w_iinc 0 [(1, .int (zI ((((0 + 1) + 1) + 1) + 1))), (0, .ref (B + 0))] dL_faults_310 rfl (by decide) rfl ?_
                                            refine w_goto 295 dL_faults_313 (by decide) ?_
                                            refine w_iload_n dL_faults_295 rfl 0 rfl ?_
                                            refine w_iconst dL_faults_296 ?_
                                            refine w_icmp_ge 316 dL_faults_297 (by decide) (by first | omega | with_reducible rfl) (by first | omega | with_reducible rfl) (fun c_297 => ?_) (fun c_297 => ?_)
                                            · refine w_aload_n dL_faults_316 rfl 1 rfl ?_
                                              refine w_bipush dL_faults_317 (by decide) ?_
                                              refine w_calliS (As := [.ref (B + 0), .int (zI 6)]) (rest := []) (n := 2) (c_isFault (place := 6) ho_189 (by omega) (by omega) (by first | omega | with_reducible rfl) (by decide +kernel) (by decide +kernel)) gL_faults_L_isFault rfl rfl rfl (by decide +kernel) ⟨(Nat.le_of_ble_eq_true rfl), (Nat.le_of_ble_eq_true rfl)⟩ rfl (Nat.le_of_ble_eq_true rfl) ⟨(Nat.le_of_ble_eq_true rfl), (Nat.le_of_ble_eq_true rfl)⟩ dL_faults_319 rfl (fun g_192 hp_193 => ?_)
                                              obtain ⟨ho_194, hf_195⟩ := hp_193
                                              have hfr_196 : ∀ q, 141 ≤ q ∧ q < N → g_192 q = g q := fun q hq => (hf_195 q (by omega)).trans (hfr_191 q hq)
                                              refine w_if_ne 327 dL_faults_322 (by decide) (by first | omega | with_reducible rfl) (fun c_322 => ?_) (fun c_322 => ?_)
                                              · refine w_aload_n dL_faults_327 rfl 1 rfl ?_
                                                refine w_bipush dL_faults_328 (by decide) ?_
                                                refine w_bipush dL_faults_330 (by decide) ?_
                                                refine w_bipush dL_faults_332 (by decide) ?_
                                                refine w_bipush dL_faults_334 (by decide) ?_
                                                refine w_callvX (As := [.ref (B + 0), .int (zI 115), .int (zI 59), .int (zI 116), .int (zI 59)]) (rest := []) (n := 5) (mc := 1) (ms := 4) hsx (c_says (a := 115) (b1 := 59) (c := 116) (d := 59) ho_194 (by omega) (by omega) (by decide +kernel) (by first | omega | with_reducible rfl) (by first | omega | with_reducible rfl) (by first | omega | with_reducible rfl) (by first | omega | with_reducible rfl)) gL_faults_L_says rfl rfl rfl (by decide +kernel) ⟨(Nat.le_of_ble_eq_true rfl), (Nat.le_of_ble_eq_true rfl)⟩ rfl (Nat.le_of_ble_eq_true rfl) ⟨(Nat.le_of_ble_eq_true rfl), (Nat.le_of_ble_eq_true rfl)⟩ dL_faults_336 rfl (fun g_197 hp_198 => ?_)
                                                obtain ⟨ho_199, hf_200⟩ := hp_198
                                                have hfr_201 : ∀ q, 141 ≤ q ∧ q < N → g_197 q = g q := fun q hq => (hf_200 q (by omega)).trans (hfr_196 q hq)
                                                refine w_aload_n dL_faults_339 rfl 1 rfl ?_
                                                refine w_iconst dL_faults_340 ?_
                                                refine w_calliS (As := [.ref (B + 0), .int (zI 2)]) (rest := []) (n := 2) (c_isFault (place := 2) ho_199 (by omega) (by omega) (by first | omega | with_reducible rfl) (by decide +kernel) (by decide +kernel)) gL_faults_L_isFault rfl rfl rfl (by decide +kernel) ⟨(Nat.le_of_ble_eq_true rfl), (Nat.le_of_ble_eq_true rfl)⟩ rfl (Nat.le_of_ble_eq_true rfl) ⟨(Nat.le_of_ble_eq_true rfl), (Nat.le_of_ble_eq_true rfl)⟩ dL_faults_341 rfl (fun g_202 hp_203 => ?_)
                                                obtain ⟨ho_204, hf_205⟩ := hp_203
                                                have hfr_206 : ∀ q, 141 ≤ q ∧ q < N → g_202 q = g q := fun q hq => (hf_205 q (by omega)).trans (hfr_201 q hq)
                                                refine w_if_ne 349 dL_faults_344 (by decide) (by first | omega | with_reducible rfl) (fun c_344 => ?_) (fun c_344 => ?_)
                                                · refine w_aload_n dL_faults_349 rfl 1 rfl ?_
                                                  refine w_bipush dL_faults_350 (by decide) ?_
                                                  refine w_bipush dL_faults_352 (by decide) ?_
                                                  refine w_bipush dL_faults_354 (by decide) ?_
                                                  refine w_bipush dL_faults_356 (by decide) ?_
                                                  refine w_callvX (As := [.ref (B + 0), .int (zI 115), .int (zI 59), .int (zI 99), .int (zI 52)]) (rest := []) (n := 5) (mc := 1) (ms := 4) hsx (c_says (a := 115) (b1 := 59) (c := 99) (d := 52) ho_204 (by omega) (by omega) (by decide +kernel) (by first | omega | with_reducible rfl) (by first | omega | with_reducible rfl) (by first | omega | with_reducible rfl) (by first | omega | with_reducible rfl)) gL_faults_L_says rfl rfl rfl (by decide +kernel) ⟨(Nat.le_of_ble_eq_true rfl), (Nat.le_of_ble_eq_true rfl)⟩ rfl (Nat.le_of_ble_eq_true rfl) ⟨(Nat.le_of_ble_eq_true rfl), (Nat.le_of_ble_eq_true rfl)⟩ dL_faults_358 rfl (fun g_207 hp_208 => ?_)
                                                  obtain ⟨ho_209, hf_210⟩ := hp_208
                                                  have hfr_211 : ∀ q, 141 ≤ q ∧ q < N → g_207 q = g q := fun q hq => (hf_210 q (by omega)).trans (hfr_206 q hq)
                                                  refine w_aload_n dL_faults_361 rfl 1 rfl ?_
                                                  refine w_bipush dL_faults_362 (by decide) ?_
                                                  refine w_bipush dL_faults_364 (by decide) ?_
                                                  refine w_bipush dL_faults_366 (by decide) ?_
                                                  refine w_bipush dL_faults_368 (by decide) ?_
                                                  refine w_callvX (As := [.ref (B + 0), .int (zI 44), .int (zI 50), .int (zI 44), .int (zI 49)]) (rest := []) (n := 5) (mc := 1) (ms := 4) hsx (c_says (a := 44) (b1 := 50) (c := 44) (d := 49) ho_209 (by omega) (by omega) (by decide +kernel) (by first | omega | with_reducible rfl) (by first | omega | with_reducible rfl) (by first | omega | with_reducible rfl) (by first | omega | with_reducible rfl)) gL_faults_L_says rfl rfl rfl (by decide +kernel) ⟨(Nat.le_of_ble_eq_true rfl), (Nat.le_of_ble_eq_true rfl)⟩ rfl (Nat.le_of_ble_eq_true rfl) ⟨(Nat.le_of_ble_eq_true rfl), (Nat.le_of_ble_eq_true rfl)⟩ dL_faults_370 rfl (fun g_212 hp_213 => ?_)
                                                  obtain ⟨ho_214, hf_215⟩ := hp_213
                                                  have hfr_216 : ∀ q, 141 ≤ q ∧ q < N → g_212 q = g q := fun q hq => (hf_215 q (by omega)).trans (hfr_211 q hq)
                                                  refine w_aload_n dL_faults_373 rfl 1 rfl ?_
                                                  refine w_iconst dL_faults_374 ?_
                                                  refine w_calliS (As := [.ref (B + 0), .int (zI 2)]) (rest := []) (n := 2) (c_isFault (place := 2) ho_214 (by omega) (by omega) (by first | omega | with_reducible rfl) (by decide +kernel) (by decide +kernel)) gL_faults_L_isFault rfl rfl rfl (by decide +kernel) ⟨(Nat.le_of_ble_eq_true rfl), (Nat.le_of_ble_eq_true rfl)⟩ rfl (Nat.le_of_ble_eq_true rfl) ⟨(Nat.le_of_ble_eq_true rfl), (Nat.le_of_ble_eq_true rfl)⟩ dL_faults_375 rfl (fun g_217 hp_218 => ?_)
                                                  obtain ⟨ho_219, hf_220⟩ := hp_218
                                                  have hfr_221 : ∀ q, 141 ≤ q ∧ q < N → g_217 q = g q := fun q hq => (hf_220 q (by omega)).trans (hfr_216 q hq)
                                                  refine w_if_ne 383 dL_faults_378 (by decide) (by first | omega | with_reducible rfl) (fun c_378 => ?_) (fun c_378 => ?_)
                                                  · refine w_aload_n dL_faults_383 rfl 1 rfl ?_
                                                    refine w_bipush dL_faults_384 (by decide) ?_
                                                    refine w_bipush dL_faults_386 (by decide) ?_
                                                    refine w_iconst dL_faults_388 ?_
                                                    refine w_iconst dL_faults_389 ?_
                                                    refine w_callvX (As := [.ref (B + 0), .int (zI 115), .int (zI 59), .int (zI 0), .int (zI 0)]) (rest := []) (n := 5) (mc := 1) (ms := 4) hsx (c_says (a := 115) (b1 := 59) (c := 0) (d := 0) ho_219 (by omega) (by omega) (by decide +kernel) (by first | omega | with_reducible rfl) (by first | omega | with_reducible rfl) (by first | omega | with_reducible rfl) (by first | omega | with_reducible rfl)) gL_faults_L_says rfl rfl rfl (by decide +kernel) ⟨(Nat.le_of_ble_eq_true rfl), (Nat.le_of_ble_eq_true rfl)⟩ rfl (Nat.le_of_ble_eq_true rfl) ⟨(Nat.le_of_ble_eq_true rfl), (Nat.le_of_ble_eq_true rfl)⟩ dL_faults_390 rfl (fun g_222 hp_223 => ?_)
                                                    obtain ⟨ho_224, hf_225⟩ := hp_223
                                                    have hfr_226 : ∀ q, 141 ≤ q ∧ q < N → g_222 q = g q := fun q hq => (hf_225 q (by omega)).trans (hfr_221 q hq)
                                                    refine w_aload_n dL_faults_393 rfl 1 rfl ?_
                                                    refine w_iconst dL_faults_394 ?_
                                                    refine w_iconst dL_faults_395 ?_
                                                    refine w_iconst dL_faults_396 ?_
                                                    refine w_callvS (As := [.ref (B + 0), .int (zI 4), .int (zI 2), .int (zI 1)]) (rest := []) (n := 4) (c_column (all := 4) (above := 2) (score := 1) ho_224 (by omega) (by omega) (by first | omega | with_reducible rfl) (by first | omega | with_reducible rfl) (by first | omega | with_reducible rfl) (by decide +kernel)) gL_faults_L_column rfl rfl rfl (by decide +kernel) ⟨(Nat.le_of_ble_eq_true rfl), (Nat.le_of_ble_eq_true rfl)⟩ rfl (Nat.le_of_ble_eq_true rfl) ⟨(Nat.le_of_ble_eq_true rfl), (Nat.le_of_ble_eq_true rfl)⟩ dL_faults_397 rfl (fun g_227 hp_228 => ?_)
                                                    obtain ⟨ho_229, hf_230⟩ := hp_228
                                                    have hfr_231 : ∀ q, 141 ≤ q ∧ q < N → g_227 q = g q := fun q hq => (hf_230 q (by omega)).trans (hfr_226 q hq)
                                                    refine w_aload_n dL_faults_400 rfl 1 rfl ?_
                                                    refine w_bipush dL_faults_401 (by decide) ?_
                                                    refine w_calliS (As := [.ref (B + 0), .int (zI (-4))]) (rest := []) (n := 2) (c_isFault (place := (-4)) ho_229 (by omega) (by omega) (by first | omega | with_reducible rfl) (by decide +kernel) (by decide +kernel)) gL_faults_L_isFault rfl rfl rfl (by decide +kernel) ⟨(Nat.le_of_ble_eq_true rfl), (Nat.le_of_ble_eq_true rfl)⟩ rfl (Nat.le_of_ble_eq_true rfl) ⟨(Nat.le_of_ble_eq_true rfl), (Nat.le_of_ble_eq_true rfl)⟩ dL_faults_403 rfl (fun g_232 hp_233 => ?_)
                                                    obtain ⟨ho_234, hf_235⟩ := hp_233
                                                    have hfr_236 : ∀ q, 141 ≤ q ∧ q < N → g_232 q = g q := fun q hq => (hf_235 q (by omega)).trans (hfr_231 q hq)
                                                    refine w_if_ne 411 dL_faults_406 (by decide) (by first | omega | with_reducible rfl) (fun c_406 => ?_) (fun c_406 => ?_)
                                                    · refine w_aload_n dL_faults_411 rfl 1 rfl ?_
                                                      refine w_bipush dL_faults_412 (by decide) ?_
                                                      refine w_bipush dL_faults_414 (by decide) ?_
                                                      refine w_iconst dL_faults_416 ?_
                                                      refine w_iconst dL_faults_417 ?_
                                                      refine w_callvX (As := [.ref (B + 0), .int (zI 115), .int (zI 59), .int (zI 0), .int (zI 0)]) (rest := []) (n := 5) (mc := 1) (ms := 4) hsx (c_says (a := 115) (b1 := 59) (c := 0) (d := 0) ho_234 (by omega) (by omega) (by decide +kernel) (by first | omega | with_reducible rfl) (by first | omega | with_reducible rfl) (by first | omega | with_reducible rfl) (by first | omega | with_reducible rfl)) gL_faults_L_says rfl rfl rfl (by decide +kernel) ⟨(Nat.le_of_ble_eq_true rfl), (Nat.le_of_ble_eq_true rfl)⟩ rfl (Nat.le_of_ble_eq_true rfl) ⟨(Nat.le_of_ble_eq_true rfl), (Nat.le_of_ble_eq_true rfl)⟩ dL_faults_418 rfl (fun g_237 hp_238 => ?_)
                                                      obtain ⟨ho_239, hf_240⟩ := hp_238
                                                      have hfr_241 : ∀ q, 141 ≤ q ∧ q < N → g_237 q = g q := fun q hq => (hf_240 q (by omega)).trans (hfr_236 q hq)
                                                      refine w_aload_n dL_faults_421 rfl 1 rfl ?_
                                                      refine w_iconst dL_faults_422 ?_
                                                      refine w_iconst dL_faults_423 ?_
                                                      refine w_iconst dL_faults_424 ?_
                                                      refine w_callvS (As := [.ref (B + 0), .int (zI 4), .int (zI 2), .int (zI 1)]) (rest := []) (n := 4) (c_column (all := 4) (above := 2) (score := 1) ho_239 (by omega) (by omega) (by first | omega | with_reducible rfl) (by first | omega | with_reducible rfl) (by first | omega | with_reducible rfl) (by decide +kernel)) gL_faults_L_column rfl rfl rfl (by decide +kernel) ⟨(Nat.le_of_ble_eq_true rfl), (Nat.le_of_ble_eq_true rfl)⟩ rfl (Nat.le_of_ble_eq_true rfl) ⟨(Nat.le_of_ble_eq_true rfl), (Nat.le_of_ble_eq_true rfl)⟩ dL_faults_425 rfl (fun g_242 hp_243 => ?_)
                                                      obtain ⟨ho_244, hf_245⟩ := hp_243
                                                      have hfr_246 : ∀ q, 141 ≤ q ∧ q < N → g_242 q = g q := fun q hq => (hf_245 q (by omega)).trans (hfr_241 q hq)
                                                      refine w_aload_n dL_faults_428 rfl 1 rfl ?_
                                                      refine w_iconst dL_faults_429 ?_
                                                      refine w_iconst dL_faults_430 ?_
                                                      refine w_iconst dL_faults_431 ?_
                                                      refine w_callvS (As := [.ref (B + 0), .int (zI 4), .int (zI 2), .int (zI 1)]) (rest := []) (n := 4) (c_column (all := 4) (above := 2) (score := 1) ho_244 (by omega) (by omega) (by first | omega | with_reducible rfl) (by first | omega | with_reducible rfl) (by first | omega | with_reducible rfl) (by decide +kernel)) gL_faults_L_column rfl rfl rfl (by decide +kernel) ⟨(Nat.le_of_ble_eq_true rfl), (Nat.le_of_ble_eq_true rfl)⟩ rfl (Nat.le_of_ble_eq_true rfl) ⟨(Nat.le_of_ble_eq_true rfl), (Nat.le_of_ble_eq_true rfl)⟩ dL_faults_432 rfl (fun g_247 hp_248 => ?_)
                                                      obtain ⟨ho_249, hf_250⟩ := hp_248
                                                      have hfr_251 : ∀ q, 141 ≤ q ∧ q < N → g_247 q = g q := fun q hq => (hf_250 q (by omega)).trans (hfr_246 q hq)
                                                      refine w_aload_n dL_faults_435 rfl 1 rfl ?_
                                                      refine w_bipush dL_faults_436 (by decide) ?_
                                                      refine w_bipush dL_faults_438 (by decide) ?_
                                                      refine w_iconst dL_faults_440 ?_
                                                      refine w_iconst dL_faults_441 ?_
                                                      refine w_callvX (As := [.ref (B + 0), .int (zI 115), .int (zI 59), .int (zI 0), .int (zI 0)]) (rest := []) (n := 5) (mc := 1) (ms := 4) hsx (c_says (a := 115) (b1 := 59) (c := 0) (d := 0) ho_249 (by omega) (by omega) (by decide +kernel) (by first | omega | with_reducible rfl) (by first | omega | with_reducible rfl) (by first | omega | with_reducible rfl) (by first | omega | with_reducible rfl)) gL_faults_L_says rfl rfl rfl (by decide +kernel) ⟨(Nat.le_of_ble_eq_true rfl), (Nat.le_of_ble_eq_true rfl)⟩ rfl (Nat.le_of_ble_eq_true rfl) ⟨(Nat.le_of_ble_eq_true rfl), (Nat.le_of_ble_eq_true rfl)⟩ dL_faults_442 rfl (fun g_252 hp_253 => ?_)
                                                      obtain ⟨ho_254, hf_255⟩ := hp_253
                                                      have hfr_256 : ∀ q, 141 ≤ q ∧ q < N → g_252 q = g q := fun q hq => (hf_255 q (by omega)).trans (hfr_251 q hq)
                                                      refine w_aload_n dL_faults_445 rfl 1 rfl ?_
                                                      refine w_bipush dL_faults_446 (by decide) ?_
                                                      refine w_calliS (As := [.ref (B + 0), .int (zI (-4))]) (rest := []) (n := 2) (c_isFault (place := (-4)) ho_254 (by omega) (by omega) (by first | omega | with_reducible rfl) (by decide +kernel) (by decide +kernel)) gL_faults_L_isFault rfl rfl rfl (by decide +kernel) ⟨(Nat.le_of_ble_eq_true rfl), (Nat.le_of_ble_eq_true rfl)⟩ rfl (Nat.le_of_ble_eq_true rfl) ⟨(Nat.le_of_ble_eq_true rfl), (Nat.le_of_ble_eq_true rfl)⟩ dL_faults_448 rfl (fun g_257 hp_258 => ?_)
                                                      obtain ⟨ho_259, hf_260⟩ := hp_258
                                                      have hfr_261 : ∀ q, 141 ≤ q ∧ q < N → g_257 q = g q := fun q hq => (hf_260 q (by omega)).trans (hfr_256 q hq)
                                                      refine w_if_eq 467 dL_faults_451 (by decide) (by first | omega | with_reducible rfl) (fun c_451 => ?_) (fun c_451 => ?_)
                                                      · exfalso; omega
                                                      · refine w_aload_n dL_faults_454 rfl 1 rfl ?_
                                                        refine w_bipush dL_faults_455 (by decide) ?_
                                                        refine w_calliS (As := [.ref (B + 0), .int (zI (-4))]) (rest := []) (n := 2) (c_isFault (place := (-4)) ho_259 (by omega) (by omega) (by first | omega | with_reducible rfl) (by decide +kernel) (by decide +kernel)) gL_faults_L_isFault rfl rfl rfl (by decide +kernel) ⟨(Nat.le_of_ble_eq_true rfl), (Nat.le_of_ble_eq_true rfl)⟩ rfl (Nat.le_of_ble_eq_true rfl) ⟨(Nat.le_of_ble_eq_true rfl), (Nat.le_of_ble_eq_true rfl)⟩ dL_faults_457 rfl (fun g_262 hp_263 => ?_)
                                                        obtain ⟨ho_264, hf_265⟩ := hp_263
                                                        have hfr_266 : ∀ q, 141 ≤ q ∧ q < N → g_262 q = g q := fun q hq => (hf_265 q (by omega)).trans (hfr_261 q hq)
                                                        refine w_if_eq 467 dL_faults_460 (by decide) (by first | omega | with_reducible rfl) (fun c_460 => ?_) (fun c_460 => ?_)
                                                        · exfalso; omega
                                                        · refine w_iconst dL_faults_463 ?_
                                                          refine w_goto 468 dL_faults_464 (by decide) ?_
                                                          exact w_zret dL_faults_468 rfl rfl (by rfl) ⟨ho_264, hfr_266⟩
                                                    · exfalso; omega
                                                  · exfalso; omega
                                                · exfalso; omega
                                              · exfalso; omega
                                            · exfalso; omega
                                  · exfalso; omega
                                · exfalso; omega
                  · exfalso; omega
                · exfalso; omega
              · exfalso; omega
            · exfalso; omega
          · exfalso; omega
        · exfalso; omega
      · exfalso; omega
    · exfalso; omega
  · exfalso; omega

