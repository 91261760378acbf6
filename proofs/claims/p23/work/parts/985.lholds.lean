/-! ===== tables by number and back; nodes, chances, looks ===== -/
theorem str_0 {S : St} {k : Nat} (h : k < S.length) : eStr S ((k : Nat) : Int) 0 = (((S.getD k []).length : Nat) : Int) := eStr_0 h
theorem str_1 {S : St} {k : Nat} (h : k < S.length) : eStr S ((k : Nat) : Int) 1 = sm (coT (S.getD k [])) (S.getD k []).length := e_str h 1
theorem str_2 {S : St} {k : Nat} (h : k < S.length) : eStr S ((k : Nat) : Int) 2 = ((coR (S.getD k []) : Nat) : Int) := e_str h 2
theorem str_4 {S : St} {k : Nat} (h : k < S.length) : eStr S ((k : Nat) : Int) 4 = tc (coL (S.getD k [])) (coR (S.getD k [])) := e_str h 4
theorem way_0 {S : St} {k : Nat} (h : k < S.length) : eWay S ((k : Nat) : Int) 0 = coP (S.getD k []) := e_way h 0
theorem way_1 {S : St} {k : Nat} (h : k < S.length) : eWay S ((k : Nat) : Int) 1 = bh (coL (S.getD k [])) (coR (S.getD k [])) := e_way h 1
theorem way_2 {S : St} {k : Nat} (h : k < S.length) : eWay S ((k : Nat) : Int) 2 = lg (coL (S.getD k [])) (coR (S.getD k [])) := e_way h 2
theorem way_3 {S : St} {k : Nat} (h : k < S.length) : eWay S ((k : Nat) : Int) 3 = sh (coL (S.getD k [])) (coR (S.getD k [])) := e_way h 3
theorem tbl_at {c : List Co} (hc : cok c) {t j : Nat} (ht : ((t : Nat) : Int) < tc (coL c) (coR c)) (hj : j < c.length) : aTab c ((t : Nat) : Int) ((j : Nat) : Int) = (((tbl c t).getD j 0 : Nat) : Int) := tab_at hc (tbl_in ht) hj
theorem tbl_le {c : List Co} (hc : cok c) {t j : Nat} (ht : ((t : Nat) : Int) < tc (coL c) (coR c)) (hj : j < c.length) : (((tbl c t).getD j 0 : Nat) : Int) ≤ coT c ((j : Nat) : Int) ∧ coT c ((j : Nat) : Int) ≤ 12 := by
  have h1 := (tb_tbc (List.mem_of_getElem? (tbl_in ht))).2 j hj
  have h2 := (hc.2 ((j : Nat) : Int) (by omega) (by omega)).1
  omega
theorem tbl_sum {c : List Co} (hc : cok c) {t : Nat} (ht : ((t : Nat) : Int) < tc (coL c) (coR c)) : sm (fun z : Int => (((tbl c t).getD z.toNat 0 : Nat) : Int)) c.length = ((coR c : Nat) : Int) := by
  have hm := List.mem_of_getElem? (tbl_in ht)
  rw [← lsum_sm (tb_tbc hm).1, tb_sum (coL_S hc).2.2.1 hm]
theorem lex_le {c : List Co} (hc : cok c) {t j : Nat} (ht : ((t + 1 : Nat) : Int) < tc (coL c) (coR c)) (hp : ∀ i, i < j → (tbl c t).getD i 0 = (tbl c (t + 1)).getD i 0) : (tbl c t).getD j 0 ≤ (tbl c (t + 1)).getD j 0 := by
  obtain ⟨m, m1, m2, m3⟩ := tb_lex hc (tbl_in (show ((t : Nat) : Int) < _ by omega)) (tbl_in ht)
  rcases Nat.lt_trichotomy j m with q | q | q
  · exact Nat.le_of_eq (m2 j q)
  · subst q
    exact Nat.le_of_lt m3
  · have := hp m q
    omega
theorem lex_no {c : List Co} (hc : cok c) {t : Nat} (ht : ((t + 1 : Nat) : Int) < tc (coL c) (coR c)) (hp : ∀ i, i < c.length → (tbl c t).getD i 0 = (tbl c (t + 1)).getD i 0) : False := by
  obtain ⟨m, m1, m2, m3⟩ := tb_lex hc (tbl_in (show ((t : Nat) : Int) < _ by omega)) (tbl_in ht)
  have := hp m m1
  omega
theorem tc_sm {c : List Co} (hc : cok c) : tc (coL c) (coR c) ≤ 371293 := (tc_rg (r := coR c) (co_okT hc) (show 0 + c.length ≤ c.length by omega)).2
theorem nodT_neg {c : List Co} {j a : Nat} (h : aNod c ((j : Nat) : Int) ((a : Nat) : Int) 0 < 0) : nodT c j a = 0 := if_pos h
theorem nodT_pos {c : List Co} {j a : Nat} (h : ¬ aNod c ((j : Nat) : Int) ((a : Nat) : Int) 0 < 0) : nodT c j a = aNod c ((j : Nat) : Int) ((a : Nat) : Int) 0 * aNod c ((j : Nat) : Int) ((a : Nat) : Int) 1 := if_neg h
set_option maxHeartbeats 64000000 in
set_option maxRecDepth 100000 in
theorem c_holds {l : Launch} {D : va_G} {cy : Nat → ClassId} {B N : Nat} {g : Nat → va_E} {W : List Int} {S : St} {P : List St} {M : Int} {k : Nat} {x : Int} (ho : OW cy B g 0 W S P M) (hN : 141 ≤ N) (hM : M < 2147480000) (hk : k < S.length) : CTi l yL_holds wsL_holds (rmo 15 387) D cy B N g [.ref (B + 0), .int (zI ((k : Nat) : Int)), .int (zI x)] 1 (fun g' => OW cy B g' 0 W S P M ∧ (∀ q, 141 ≤ q → g' q = g q)) := by
  refine WW_of (cc := cL_holds) (maxL := 20) (ret := (some .boolean)) (own := RL) (by decide) rfl rfl (Nat.le_of_ble_eq_true rfl) rfl ?_
  intro pp ee ss mm bl me co hmn
  have hfr_0 : ∀ q, 141 ≤ q → g q = g q := fun _ _ => rfl
  have hwf := OW_wf ho
  have hS := WF_S hwf
  have hS3 := hS.1
  obtain ⟨hcc, h2⟩ := hS.2 k hk
  obtain ⟨-, hco2, hco3, -⟩ := coL_S hcc
  have hc5 := hcc.1
  obtain ⟨hs1, hs2, -⟩ := seen_at hcc
  have htc := tc_sm hcc
  have hbh := bh_rg hcc
  obtain ⟨hl1, hl2, hl3⟩ := loo_ok hcc h2
  have hcp := coP_rg hcc
  refine w_aload_n dL_holds_0 rfl 0 rfl ?_
  refine w_iload_n dL_holds_1 rfl 1 rfl ?_
  refine w_iconst dL_holds_2 ?_
  obtain ⟨fx_3, hfx_3⟩ := OW_0 ho
  refine w_calli (As := [.int (zI ((k : Nat) : Int)), .int (zI 0)]) (rest := []) (n := 2) (a_stratum (s := ((k : Nat) : Int)) (what := 0) ho (by omega) (by omega) ⟨by omega, by omega⟩ ⟨by omega, by omega⟩) gL_holds_X10_stratum rfl rfl rfl (by decide +kernel) ⟨(Nat.le_of_ble_eq_true rfl), (Nat.le_of_ble_eq_true rfl)⟩ rfl (by omega) hfx_3 rfl (Nat.le_of_ble_eq_true rfl) ⟨Nat.zero_le _, Nat.zero_le _⟩ dL_holds_3 rfl (fun g_1 hp_2 => ?_)
  obtain ⟨ho_4, hf_5⟩ := hp_2
  have hfr_6 : ∀ q, 141 ≤ q → g_1 q = g q := fun q hq => (hf_5 q (by omega)).trans (hfr_0 q hq)
  refine w_as (st' := [.int (zI (((S.getD k []).length : Nat) : Int))]) (sc_i (str_0 hk) rfl) ?_
  refine w_istore_n [(3, .int (zI (((S.getD k []).length : Nat) : Int))), (0, .ref (B + 0)), (1, .int (zI ((k : Nat) : Int))), (2, .int (zI x))] dL_holds_6 rfl (by decide) rfl ?_
  refine w_aload_n dL_holds_7 rfl 1 rfl ?_
  refine w_iload_n dL_holds_8 rfl 2 rfl ?_
  refine w_iconst dL_holds_9 ?_
  obtain ⟨fx_9, hfx_9⟩ := OW_0 ho_4
  refine w_calli (As := [.int (zI ((k : Nat) : Int)), .int (zI 2)]) (rest := []) (n := 2) (a_stratum (s := ((k : Nat) : Int)) (what := 2) ho_4 (by omega) (by omega) ⟨by omega, by omega⟩ ⟨by omega, by omega⟩) gL_holds_X10_stratum rfl rfl rfl (by decide +kernel) ⟨(Nat.le_of_ble_eq_true rfl), (Nat.le_of_ble_eq_true rfl)⟩ rfl (by omega) hfx_9 rfl (Nat.le_of_ble_eq_true rfl) ⟨Nat.zero_le _, Nat.zero_le _⟩ dL_holds_10 rfl (fun g_7 hp_8 => ?_)
  obtain ⟨ho_10, hf_11⟩ := hp_8
  have hfr_12 : ∀ q, 141 ≤ q → g_7 q = g q := fun q hq => (hf_11 q (by omega)).trans (hfr_6 q hq)
  refine w_as (st' := [.int (zI ((coR (S.getD k []) : Nat) : Int))]) (sc_i (str_2 hk) rfl) ?_
  refine w_istore [(4, .int (zI ((coR (S.getD k []) : Nat) : Int))), (3, .int (zI (((S.getD k []).length : Nat) : Int))), (0, .ref (B + 0)), (1, .int (zI ((k : Nat) : Int))), (2, .int (zI x))] dL_holds_13 (by decide) rfl ?_
  refine w_aload_n dL_holds_15 rfl 2 rfl ?_
  refine w_iload_n dL_holds_16 rfl 3 rfl ?_
  refine w_iconst dL_holds_17 ?_
  obtain ⟨fx_15, hfx_15⟩ := OW_0 ho_10
  refine w_calli (As := [.int (zI ((k : Nat) : Int)), .int (zI 4)]) (rest := []) (n := 2) (a_stratum (s := ((k : Nat) : Int)) (what := 4) ho_10 (by omega) (by omega) ⟨by omega, by omega⟩ ⟨by omega, by omega⟩) gL_holds_X10_stratum rfl rfl rfl (by decide +kernel) ⟨(Nat.le_of_ble_eq_true rfl), (Nat.le_of_ble_eq_true rfl)⟩ rfl (by omega) hfx_15 rfl (Nat.le_of_ble_eq_true rfl) ⟨Nat.zero_le _, Nat.zero_le _⟩ dL_holds_18 rfl (fun g_13 hp_14 => ?_)
  obtain ⟨ho_16, hf_17⟩ := hp_14
  have hfr_18 : ∀ q, 141 ≤ q → g_13 q = g q := fun q hq => (hf_17 q (by omega)).trans (hfr_12 q hq)
  refine w_as (st' := [.int (zI (tc (coL (S.getD k [])) (coR (S.getD k []))))]) (sc_i (str_4 hk) rfl) ?_
  refine w_istore [(5, .int (zI (tc (coL (S.getD k [])) (coR (S.getD k []))))), (4, .int (zI ((coR (S.getD k []) : Nat) : Int))), (3, .int (zI (((S.getD k []).length : Nat) : Int))), (0, .ref (B + 0)), (1, .int (zI ((k : Nat) : Int))), (2, .int (zI x))] dL_holds_21 (by decide) rfl ?_
  refine w_aload_n dL_holds_23 rfl 3 rfl ?_
  refine w_iload_n dL_holds_24 rfl 4 rfl ?_
  obtain ⟨fx_21, hfx_21⟩ := OW_0 ho_16
  refine w_calli (As := [.int (zI ((k : Nat) : Int))]) (rest := []) (n := 1) (a_rank (s := ((k : Nat) : Int)) ho_16 (by omega) (by omega) ⟨by omega, by omega⟩) gL_holds_X10_rank rfl rfl rfl (by decide +kernel) ⟨(Nat.le_of_ble_eq_true rfl), (Nat.le_of_ble_eq_true rfl)⟩ rfl (by omega) hfx_21 rfl (Nat.le_of_ble_eq_true rfl) ⟨Nat.zero_le _, Nat.zero_le _⟩ dL_holds_25 rfl (fun g_19 hp_20 => ?_)
  obtain ⟨ho_22, hf_23⟩ := hp_20
  have hfr_24 : ∀ q, 141 ≤ q → g_19 q = g q := fun q hq => (hf_23 q (by omega)).trans (hfr_18 q hq)
  refine w_as (st' := [.int (zI (aRan (S.getD k [])))]) (sc_i (e_ran hk) rfl) ?_
  refine w_istore [(6, .int (zI (aRan (S.getD k [])))), (5, .int (zI (tc (coL (S.getD k [])) (coR (S.getD k []))))), (4, .int (zI ((coR (S.getD k []) : Nat) : Int))), (3, .int (zI (((S.getD k []).length : Nat) : Int))), (0, .ref (B + 0)), (1, .int (zI ((k : Nat) : Int))), (2, .int (zI x))] dL_holds_28 (by decide) rfl ?_
  refine w_iload dL_holds_30 0 rfl ?_
  refine w_if_lt 42 dL_holds_32 (by decide) (by omega) (fun c_32 => ?_) (fun c_32 => ?_)
  · exfalso; omega
  · refine w_iload dL_holds_35 0 rfl ?_
    refine w_iload dL_holds_37 1 rfl ?_
    refine w_icmp_lt 44 dL_holds_39 (by decide) (by omega) (by omega) (fun c_39 => ?_) (fun c_39 => ?_)
    · refine w_iconst dL_holds_44 ?_
      refine w_istore [(7, .int (zI 0)), (6, .int (zI (aRan (S.getD k [])))), (5, .int (zI (tc (coL (S.getD k [])) (coR (S.getD k []))))), (4, .int (zI ((coR (S.getD k []) : Nat) : Int))), (3, .int (zI (((S.getD k []).length : Nat) : Int))), (0, .ref (B + 0)), (1, .int (zI ((k : Nat) : Int))), (2, .int (zI x))] dL_holds_45 (by decide) rfl ?_
      refine w_sub [(0, .ref (B + 0)), (1, .int (zI ((k : Nat) : Int))), (2, .int (zI x)), (3, .int (zI (((S.getD k []).length : Nat) : Int))), (4, .int (zI ((coR (S.getD k []) : Nat) : Int))), (5, .int (zI (tc (coL (S.getD k [])) (coR (S.getD k []))))), (6, .int (zI (aRan (S.getD k [])))), (7, .int (zI 0))] [5, 6, 7, 4, 3, 2, 1, 0] rfl ?_
      refine w_lv (lv' := [(0, .ref (B + 0)), (1, .int (zI ((k : Nat) : Int))), (2, .int (zI x)), (3, .int (zI (((S.getD k []).length : Nat) : Int))), (4, .int (zI ((coR (S.getD k []) : Nat) : Int))), (5, .int (zI (tc (coL (S.getD k [])) (coR (S.getD k []))))), (6, .int (zI (aRan (S.getD k [])))), (7, .int (zI ((0 : Nat) : Int)))]) (lc_s (lc_s (lc_s (lc_s (lc_s (lc_s (lc_s (lc_i (by first | omega | with_reducible rfl) rfl)))))))) ?_
      refine w_loop2 (fun (j : Nat) (gl_25 : (Nat → va_E)) => OW cy B gl_25 0 W S P M ∧ (∀ q, 141 ≤ q → gl_25 q = g q) ∧ j ≤ (S.getD k []).length) (fun (j : Nat) (gl_25 : (Nat → va_E)) => (S.getD k []).length - j) (fun (j : Nat) (gl_25 : (Nat → va_E)) => gl_25) (fun (j : Nat) (gl_25 : (Nat → va_E)) => [(0, .ref (B + 0)), (1, .int (zI ((k : Nat) : Int))), (2, .int (zI x)), (3, .int (zI (((S.getD k []).length : Nat) : Int))), (4, .int (zI ((coR (S.getD k []) : Nat) : Int))), (5, .int (zI (tc (coL (S.getD k [])) (coR (S.getD k []))))), (6, .int (zI (aRan (S.getD k [])))), (7, .int (zI ((j : Nat) : Int)))]) ?_ 0 g_19 ⟨ho_22, hfr_24, (Nat.zero_le _)⟩
      rintro j gl_25 ⟨ho_26, hfr_27, hj⟩ ih_47
      refine w_iload dL_holds_47 7 rfl ?_
      refine w_iload_n dL_holds_49 rfl 3 rfl ?_
      refine w_icmp_ge 81 dL_holds_50 (by decide) (by first | omega | with_reducible rfl) (by first | omega | with_reducible rfl) (fun c_50 => ?_) (fun c_50 => ?_)
      · refine w_iload_n dL_holds_81 rfl 2 rfl ?_
        refine w_iload dL_holds_82 5 rfl ?_
        refine w_calliS (As := [.int (zI x), .int (zI (tc (coL (S.getD k [])) (coR (S.getD k []))))]) (rest := []) (n := 2) (c_part (v := x) (n := (tc (coL (S.getD k [])) (coR (S.getD k [])))) (by first | omega | with_reducible rfl)) gL_holds_L_part rfl rfl rfl (by decide +kernel) ⟨(Nat.le_of_ble_eq_true rfl), (Nat.le_of_ble_eq_true rfl)⟩ rfl (Nat.le_of_ble_eq_true rfl) ⟨Nat.zero_le _, Nat.zero_le _⟩ dL_holds_84 rfl (fun g_28 hp_29 => ?_)
        subst g_28
        obtain ⟨t, ht, htr⟩ : ∃ t : Nat, ((t : Nat) : Int) = ptZ x (tc (coL (S.getD k [])) (coR (S.getD k []))) ∧ ((t : Nat) : Int) < (tc (coL (S.getD k [])) (coR (S.getD k []))) := by have h7 := ptZ_rg x (n := (tc (coL (S.getD k [])) (coR (S.getD k [])))) (by omega); exact ⟨(ptZ x (tc (coL (S.getD k [])) (coR (S.getD k [])))).toNat, by omega, by omega⟩
        refine w_as (st' := [.int (zI ((t : Nat) : Int))]) (sc_i ht.symm rfl) ?_
        refine w_istore [(7, .int (zI ((t : Nat) : Int))), (0, .ref (B + 0)), (1, .int (zI ((k : Nat) : Int))), (2, .int (zI x)), (3, .int (zI (((S.getD k []).length : Nat) : Int))), (4, .int (zI ((coR (S.getD k []) : Nat) : Int))), (5, .int (zI (tc (coL (S.getD k [])) (coR (S.getD k []))))), (6, .int (zI (aRan (S.getD k []))))] dL_holds_87 (by decide) rfl ?_
        refine w_iconst dL_holds_89 ?_
        refine w_istore [(8, .int (zI 0)), (7, .int (zI ((t : Nat) : Int))), (0, .ref (B + 0)), (1, .int (zI ((k : Nat) : Int))), (2, .int (zI x)), (3, .int (zI (((S.getD k []).length : Nat) : Int))), (4, .int (zI ((coR (S.getD k []) : Nat) : Int))), (5, .int (zI (tc (coL (S.getD k [])) (coR (S.getD k []))))), (6, .int (zI (aRan (S.getD k []))))] dL_holds_90 (by decide) rfl ?_
        refine w_join1 106 (fun (ri : Int) => ((ri = 0 ∧ ((t : Nat) : Int) + 1 < (tc (coL (S.getD k [])) (coR (S.getD k [])))) ∨ ri = 1)) (fun (ri : Int) => gl_25) (fun (ri : Int) => [(0, .ref (B + 0)), (1, .int (zI ((k : Nat) : Int))), (2, .int (zI x)), (3, .int (zI (((S.getD k []).length : Nat) : Int))), (4, .int (zI ((coR (S.getD k []) : Nat) : Int))), (5, .int (zI (tc (coL (S.getD k [])) (coR (S.getD k []))))), (6, .int (zI (aRan (S.getD k [])))), (7, .int (zI ((t : Nat) : Int))), (8, .int (zI 0))]) (fun (ri : Int) => [.int (zI ri)]) (fun hj_106 => ?_) ?_
        · refine w_iload dL_holds_92 1 rfl ?_
          refine w_iconst dL_holds_94 ?_
          refine w_iadd dL_holds_95 ?_
          refine w_iload dL_holds_96 7 rfl ?_
          refine w_icmp_lt 105 dL_holds_98 (by decide) (by first | omega | with_reducible rfl) (by first | omega | with_reducible rfl) (fun c_98 => ?_) (fun c_98 => ?_)
          · refine w_iconst dL_holds_105 ?_
            refine w_sub [(0, .ref (B + 0)), (1, .int (zI ((k : Nat) : Int))), (2, .int (zI x)), (3, .int (zI (((S.getD k []).length : Nat) : Int))), (4, .int (zI ((coR (S.getD k []) : Nat) : Int))), (5, .int (zI (tc (coL (S.getD k [])) (coR (S.getD k []))))), (6, .int (zI (aRan (S.getD k [])))), (7, .int (zI ((t : Nat) : Int))), (8, .int (zI 0))] [2, 3, 4, 5, 6, 7, 8, 1, 0] rfl ?_
            refine w_lv (lv' := [(0, .ref (B + 0)), (1, .int (zI ((k : Nat) : Int))), (2, .int (zI x)), (3, .int (zI (((S.getD k []).length : Nat) : Int))), (4, .int (zI ((coR (S.getD k []) : Nat) : Int))), (5, .int (zI (tc (coL (S.getD k [])) (coR (S.getD k []))))), (6, .int (zI (aRan (S.getD k [])))), (7, .int (zI ((t : Nat) : Int))), (8, .int (zI 0))]) (lc_s (lc_s (lc_s (lc_s (lc_s (lc_s (lc_s (lc_s (lc_s rfl))))))))) ?_
            refine w_as (st' := [.int (zI 0)]) (sc_i (by first | omega | with_reducible rfl) rfl) ?_
            exact hj_106 0 (by first | omega | with_reducible rfl)
          · refine w_iconst dL_holds_101 ?_
            refine w_goto 106 dL_holds_102 (by decide) ?_
            refine w_sub [(0, .ref (B + 0)), (1, .int (zI ((k : Nat) : Int))), (2, .int (zI x)), (3, .int (zI (((S.getD k []).length : Nat) : Int))), (4, .int (zI ((coR (S.getD k []) : Nat) : Int))), (5, .int (zI (tc (coL (S.getD k [])) (coR (S.getD k []))))), (6, .int (zI (aRan (S.getD k [])))), (7, .int (zI ((t : Nat) : Int))), (8, .int (zI 0))] [2, 3, 4, 5, 6, 7, 8, 1, 0] rfl ?_
            refine w_lv (lv' := [(0, .ref (B + 0)), (1, .int (zI ((k : Nat) : Int))), (2, .int (zI x)), (3, .int (zI (((S.getD k []).length : Nat) : Int))), (4, .int (zI ((coR (S.getD k []) : Nat) : Int))), (5, .int (zI (tc (coL (S.getD k [])) (coR (S.getD k []))))), (6, .int (zI (aRan (S.getD k [])))), (7, .int (zI ((t : Nat) : Int))), (8, .int (zI 0))]) (lc_s (lc_s (lc_s (lc_s (lc_s (lc_s (lc_s (lc_s (lc_s rfl))))))))) ?_
            refine w_as (st' := [.int (zI 1)]) (sc_i (by first | omega | with_reducible rfl) rfl) ?_
            exact hj_106 1 (by first | omega | with_reducible rfl)
        · rintro ri hri
          refine w_istore [(9, .int (zI ri)), (0, .ref (B + 0)), (1, .int (zI ((k : Nat) : Int))), (2, .int (zI x)), (3, .int (zI (((S.getD k []).length : Nat) : Int))), (4, .int (zI ((coR (S.getD k []) : Nat) : Int))), (5, .int (zI (tc (coL (S.getD k [])) (coR (S.getD k []))))), (6, .int (zI (aRan (S.getD k [])))), (7, .int (zI ((t : Nat) : Int))), (8, .int (zI 0))] dL_holds_106 (by decide) rfl ?_
          refine w_iconst dL_holds_108 ?_
          refine w_istore [(10, .int (zI 0)), (9, .int (zI ri)), (0, .ref (B + 0)), (1, .int (zI ((k : Nat) : Int))), (2, .int (zI x)), (3, .int (zI (((S.getD k []).length : Nat) : Int))), (4, .int (zI ((coR (S.getD k []) : Nat) : Int))), (5, .int (zI (tc (coL (S.getD k [])) (coR (S.getD k []))))), (6, .int (zI (aRan (S.getD k [])))), (7, .int (zI ((t : Nat) : Int))), (8, .int (zI 0))] dL_holds_109 (by decide) rfl ?_
          refine w_sub [(0, .ref (B + 0)), (1, .int (zI ((k : Nat) : Int))), (2, .int (zI x)), (3, .int (zI (((S.getD k []).length : Nat) : Int))), (4, .int (zI ((coR (S.getD k []) : Nat) : Int))), (5, .int (zI (tc (coL (S.getD k [])) (coR (S.getD k []))))), (7, .int (zI ((t : Nat) : Int))), (8, .int (zI 0)), (9, .int (zI ri)), (10, .int (zI 0))] [2, 3, 4, 5, 6, 7, 9, 10, 1, 0] rfl ?_
          refine w_lv (lv' := [(0, .ref (B + 0)), (1, .int (zI ((k : Nat) : Int))), (2, .int (zI x)), (3, .int (zI (((S.getD k []).length : Nat) : Int))), (4, .int (zI ((coR (S.getD k []) : Nat) : Int))), (5, .int (zI (tc (coL (S.getD k [])) (coR (S.getD k []))))), (7, .int (zI ((t : Nat) : Int))), (8, .int (zI (sm (fun z : Int => (((tbl (S.getD k []) t).getD z.toNat 0 : Nat) : Int)) 0))), (9, .int (zI ri)), (10, .int (zI ((0 : Nat) : Int)))]) (lc_s (lc_s (lc_s (lc_s (lc_s (lc_s (lc_s (lc_i rfl (lc_i (by first | omega | with_reducible rfl) (lc_i (by first | omega | with_reducible rfl) rfl)))))))))) ?_
          refine w_loop3 (fun (j : Nat) (rj : Int) (gl_30 : (Nat → va_E)) => OW cy B gl_30 0 W S P M ∧ (∀ q, 141 ≤ q → gl_30 q = g q) ∧ j ≤ (S.getD k []).length ∧ (rj = 0 ∨ rj = 1) ∧ (rj = 0 → ((t : Nat) : Int) + 1 < (tc (coL (S.getD k [])) (coR (S.getD k []))) ∧ ∀ i : Nat, i < j → (tbl (S.getD k []) t).getD i 0 = (tbl (S.getD k []) (t + 1)).getD i 0)) (fun (j : Nat) (rj : Int) (gl_30 : (Nat → va_E)) => (S.getD k []).length - j) (fun (j : Nat) (rj : Int) (gl_30 : (Nat → va_E)) => gl_30) (fun (j : Nat) (rj : Int) (gl_30 : (Nat → va_E)) => [(0, .ref (B + 0)), (1, .int (zI ((k : Nat) : Int))), (2, .int (zI x)), (3, .int (zI (((S.getD k []).length : Nat) : Int))), (4, .int (zI ((coR (S.getD k []) : Nat) : Int))), (5, .int (zI (tc (coL (S.getD k [])) (coR (S.getD k []))))), (7, .int (zI ((t : Nat) : Int))), (8, .int (zI (sm (fun z : Int => (((tbl (S.getD k []) t).getD z.toNat 0 : Nat) : Int)) j))), (9, .int (zI rj)), (10, .int (zI ((j : Nat) : Int)))]) ?_ 0 ri gl_25 ⟨ho_26, hfr_27, (Nat.zero_le _), (by omega), (fun h9 => ⟨by omega, fun i hi => absurd hi (Nat.not_lt_zero i)⟩)⟩
          rintro j rj gl_30 ⟨ho_31, hfr_32, hj, hrj, hr0⟩ ih_111
          refine w_iload dL_holds_111 9 rfl ?_
          refine w_iload_n dL_holds_113 rfl 3 rfl ?_
          refine w_icmp_ge 212 dL_holds_114 (by decide) (by first | omega | with_reducible rfl) (by first | omega | with_reducible rfl) (fun c_114 => ?_) (fun c_114 => ?_)
          · refine w_iload dL_holds_212 7 rfl ?_
            refine w_iload dL_holds_214 4 rfl ?_
            refine w_as (st' := [.int (zI ((coR (S.getD k []) : Nat) : Int)), .int (zI ((coR (S.getD k []) : Nat) : Int))]) (lc_s (sc_i (by rw [show j = (S.getD k []).length by omega]; exact tbl_sum hcc htr) rfl)) ?_
            refine w_icmp_neS 224 dL_holds_216 (by decide) ?_
            refine w_iload dL_holds_219 8 rfl ?_
            refine w_if_ne 226 dL_holds_221 (by decide) (by omega) (fun c_221 => ?_) (fun c_221 => ?_)
            · refine w_aload_n dL_holds_226 rfl 0 rfl ?_
              refine w_iload_n dL_holds_227 rfl 1 rfl ?_
              refine w_iconst dL_holds_228 ?_
              obtain ⟨fx_35, hfx_35⟩ := OW_0 ho_31
              refine w_calll (As := [.int (zI ((k : Nat) : Int)), .int (zI 1)]) (rest := []) (n := 2) (a_ways (s := ((k : Nat) : Int)) (what := 1) ho_31 (by omega) (by omega) ⟨by omega, by omega⟩ ⟨by omega, by omega⟩) gL_holds_X10_ways rfl rfl rfl (by decide +kernel) ⟨(Nat.le_of_ble_eq_true rfl), (Nat.le_of_ble_eq_true rfl)⟩ rfl (by omega) hfx_35 rfl (Nat.le_of_ble_eq_true rfl) ⟨Nat.zero_le _, Nat.zero_le _⟩ dL_holds_229 rfl (fun g_33 hp_34 => ?_)
              obtain ⟨ho_36, hf_37⟩ := hp_34
              have hfr_38 : ∀ q, 141 ≤ q → g_33 q = g q := fun q hq => (hf_37 q (by omega)).trans (hfr_32 q hq)
              refine w_as (st' := [.long (zJ (bh (coL (S.getD k [])) (coR (S.getD k []))))]) (sc_l (way_1 hk) rfl) ?_
              refine w_lstore [(10, .long (zJ (bh (coL (S.getD k [])) (coR (S.getD k []))))), (0, .ref (B + 0)), (1, .int (zI ((k : Nat) : Int))), (2, .int (zI x)), (3, .int (zI (((S.getD k []).length : Nat) : Int))), (4, .int (zI ((coR (S.getD k []) : Nat) : Int))), (5, .int (zI (tc (coL (S.getD k [])) (coR (S.getD k []))))), (7, .int (zI ((t : Nat) : Int))), (8, .int (zI (sm (fun z : Int => (((tbl (S.getD k []) t).getD z.toNat 0 : Nat) : Int)) j))), (9, .int (zI rj))] dL_holds_232 (by decide) rfl ?_
              refine w_lconst0 dL_holds_234 ?_
              refine w_lstore [(12, .long (zJ 0)), (10, .long (zJ (bh (coL (S.getD k [])) (coR (S.getD k []))))), (0, .ref (B + 0)), (1, .int (zI ((k : Nat) : Int))), (2, .int (zI x)), (3, .int (zI (((S.getD k []).length : Nat) : Int))), (4, .int (zI ((coR (S.getD k []) : Nat) : Int))), (5, .int (zI (tc (coL (S.getD k [])) (coR (S.getD k []))))), (7, .int (zI ((t : Nat) : Int))), (8, .int (zI (sm (fun z : Int => (((tbl (S.getD k []) t).getD z.toNat 0 : Nat) : Int)) j))), (9, .int (zI rj))] dL_holds_235 (by decide) rfl ?_
              refine w_iload_n dL_holds_237 rfl 4 rfl ?_
              refine w_iconst dL_holds_238 ?_
              refine w_ishr dL_holds_239 ?_
              refine w_iload_n dL_holds_240 rfl 5 rfl ?_
              refine w_iconst dL_holds_241 ?_
              refine w_iadd dL_holds_242 ?_
              refine w_calliS (As := [.int (zI (shZ x 5)), .int (zI ((((S.getD k []).length : Nat) : Int) + 1))]) (rest := []) (n := 2) (c_part (v := (shZ x 5)) (n := ((((S.getD k []).length : Nat) : Int) + 1)) (by first | omega | with_reducible rfl)) gL_holds_L_part rfl rfl rfl (by decide +kernel) ⟨(Nat.le_of_ble_eq_true rfl), (Nat.le_of_ble_eq_true rfl)⟩ rfl (Nat.le_of_ble_eq_true rfl) ⟨Nat.zero_le _, Nat.zero_le _⟩ dL_holds_243 rfl (fun g_39 hp_40 => ?_)
              subst g_39
              obtain ⟨jq, hjq, hjr⟩ : ∃ jq : Nat, ((jq : Nat) : Int) = ptZ (shZ x 5) ((((S.getD k []).length : Nat) : Int) + 1) ∧ jq ≤ (S.getD k []).length := by have h7 := ptZ_rg (shZ x 5) (n := (((S.getD k []).length : Nat) : Int) + 1) (by omega); exact ⟨(ptZ (shZ x 5) ((((S.getD k []).length : Nat) : Int) + 1)).toNat, by omega, by omega⟩
              refine w_as (st' := [.int (zI ((jq : Nat) : Int))]) (sc_i hjq.symm rfl) ?_
              refine w_istore [(14, .int (zI ((jq : Nat) : Int))), (12, .long (zJ 0)), (10, .long (zJ (bh (coL (S.getD k [])) (coR (S.getD k []))))), (0, .ref (B + 0)), (1, .int (zI ((k : Nat) : Int))), (2, .int (zI x)), (3, .int (zI (((S.getD k []).length : Nat) : Int))), (4, .int (zI ((coR (S.getD k []) : Nat) : Int))), (5, .int (zI (tc (coL (S.getD k [])) (coR (S.getD k []))))), (7, .int (zI ((t : Nat) : Int))), (8, .int (zI (sm (fun z : Int => (((tbl (S.getD k []) t).getD z.toNat 0 : Nat) : Int)) j))), (9, .int (zI rj))] dL_holds_246 (by decide) rfl ?_
              refine w_iconst dL_holds_248 ?_
              refine w_istore [(15, .int (zI 0)), (14, .int (zI ((jq : Nat) : Int))), (12, .long (zJ 0)), (10, .long (zJ (bh (coL (S.getD k [])) (coR (S.getD k []))))), (0, .ref (B + 0)), (1, .int (zI ((k : Nat) : Int))), (2, .int (zI x)), (3, .int (zI (((S.getD k []).length : Nat) : Int))), (4, .int (zI ((coR (S.getD k []) : Nat) : Int))), (5, .int (zI (tc (coL (S.getD k [])) (coR (S.getD k []))))), (7, .int (zI ((t : Nat) : Int))), (8, .int (zI (sm (fun z : Int => (((tbl (S.getD k []) t).getD z.toNat 0 : Nat) : Int)) j))), (9, .int (zI rj))] dL_holds_249 (by decide) rfl ?_
              refine w_sub [(0, .ref (B + 0)), (1, .int (zI ((k : Nat) : Int))), (2, .int (zI x)), (3, .int (zI (((S.getD k []).length : Nat) : Int))), (4, .int (zI ((coR (S.getD k []) : Nat) : Int))), (5, .int (zI (tc (coL (S.getD k [])) (coR (S.getD k []))))), (10, .long (zJ (bh (coL (S.getD k [])) (coR (S.getD k []))))), (12, .long (zJ 0)), (14, .int (zI ((jq : Nat) : Int))), (15, .int (zI 0))] [4, 5, 6, 7, 8, 9, 3, 2, 1, 0] rfl ?_
              refine w_lv (lv' := [(0, .ref (B + 0)), (1, .int (zI ((k : Nat) : Int))), (2, .int (zI x)), (3, .int (zI (((S.getD k []).length : Nat) : Int))), (4, .int (zI ((coR (S.getD k []) : Nat) : Int))), (5, .int (zI (tc (coL (S.getD k [])) (coR (S.getD k []))))), (10, .long (zJ (bh (coL (S.getD k [])) (coR (S.getD k []))))), (12, .long (zJ (srN (nodT (S.getD k []) jq) 0 0))), (14, .int (zI ((jq : Nat) : Int))), (15, .int (zI ((0 : Nat) : Int)))]) (lc_s (lc_s (lc_s (lc_s (lc_s (lc_s (lc_s (lc_l rfl (lc_s (lc_i (by first | omega | with_reducible rfl) rfl)))))))))) ?_
              refine w_loop2 (fun (an : Nat) (gl_41 : (Nat → va_E)) => OW cy B gl_41 0 W S P M ∧ (∀ q, 141 ≤ q → gl_41 q = g q) ∧ an ≤ coR (S.getD k []) + 1) (fun (an : Nat) (gl_41 : (Nat → va_E)) => coR (S.getD k []) + 1 - an) (fun (an : Nat) (gl_41 : (Nat → va_E)) => gl_41) (fun (an : Nat) (gl_41 : (Nat → va_E)) => [(0, .ref (B + 0)), (1, .int (zI ((k : Nat) : Int))), (2, .int (zI x)), (3, .int (zI (((S.getD k []).length : Nat) : Int))), (4, .int (zI ((coR (S.getD k []) : Nat) : Int))), (5, .int (zI (tc (coL (S.getD k [])) (coR (S.getD k []))))), (10, .long (zJ (bh (coL (S.getD k [])) (coR (S.getD k []))))), (12, .long (zJ (srN (nodT (S.getD k []) jq) 0 an))), (14, .int (zI ((jq : Nat) : Int))), (15, .int (zI ((an : Nat) : Int)))]) ?_ 0 g_33 ⟨ho_36, hfr_38, (Nat.zero_le _)⟩
              rintro an gl_41 ⟨ho_42, hfr_43, han⟩ ih_251
              refine w_iload dL_holds_251 9 rfl ?_
              refine w_iload dL_holds_253 4 rfl ?_
              refine w_icmp_gt 309 dL_holds_255 (by decide) (by omega) (by omega) (fun c_255 => ?_) (fun c_255 => ?_)
              · refine w_lload dL_holds_309 7 rfl ?_
                refine w_lload dL_holds_311 6 rfl ?_
                refine w_as (st' := [.long (zJ (bh (coL (S.getD k [])) (coR (S.getD k [])))), .long (zJ (bh (coL (S.getD k [])) (coR (S.getD k []))))]) (lc_s (sc_l (by rw [show an = coR (S.getD k []) + 1 by omega]; exact nod_all hcc (by omega)) rfl)) ?_
                refine w_lcmp_neS 382 dL_holds_313 dL_holds_314 (by decide) ?_
                refine w_aload_n dL_holds_317 rfl 0 rfl ?_
                refine w_iload_n dL_holds_318 rfl 1 rfl ?_
                refine w_iconst dL_holds_319 ?_
                refine w_iconst dL_holds_320 ?_
                refine w_iconst dL_holds_321 ?_
                obtain ⟨fx_46, hfx_46⟩ := OW_0 ho_42
                refine w_calll (As := [.int (zI ((k : Nat) : Int)), .int (zI 0), .int (zI 0), .int (zI 1)]) (rest := []) (n := 4) (a_node (s := ((k : Nat) : Int)) (j := 0) (a := 0) (what := 1) ho_42 (by omega) (by omega) ⟨by omega, by omega⟩ ⟨by omega, by omega⟩ ⟨by omega, by omega⟩ ⟨by omega, by omega⟩) gL_holds_X10_node rfl rfl rfl (by decide +kernel) ⟨(Nat.le_of_ble_eq_true rfl), (Nat.le_of_ble_eq_true rfl)⟩ rfl (by omega) hfx_46 rfl (Nat.le_of_ble_eq_true rfl) ⟨Nat.zero_le _, Nat.zero_le _⟩ dL_holds_322 rfl (fun g_44 hp_45 => ?_)
                obtain ⟨ho_47, hf_48⟩ := hp_45
                have hfr_49 : ∀ q, 141 ≤ q → g_44 q = g q := fun q hq => (hf_48 q (by omega)).trans (hfr_43 q hq)
                refine w_as (st' := [.long (zJ (bh (coL (S.getD k [])) (coR (S.getD k []))))]) (sc_l (by rw [e_nod hk]; exact nod_00 hcc (w := 1) (by omega) (by omega)) rfl) ?_
                refine w_lload dL_holds_325 6 rfl ?_
                refine w_lcmp_neS 382 dL_holds_327 dL_holds_328 (by decide) ?_
                refine w_aload_n dL_holds_331 rfl 0 rfl ?_
                refine w_iload_n dL_holds_332 rfl 1 rfl ?_
                refine w_iload_n dL_holds_333 rfl 3 rfl ?_
                refine w_iload dL_holds_334 4 rfl ?_
                refine w_iconst dL_holds_336 ?_
                obtain ⟨fx_52, hfx_52⟩ := OW_0 ho_47
                refine w_calll (As := [.int (zI ((k : Nat) : Int)), .int (zI (((S.getD k []).length : Nat) : Int)), .int (zI ((coR (S.getD k []) : Nat) : Int)), .int (zI 0)]) (rest := []) (n := 4) (a_node (s := ((k : Nat) : Int)) (j := (((S.getD k []).length : Nat) : Int)) (a := ((coR (S.getD k []) : Nat) : Int)) (what := 0) ho_47 (by omega) (by omega) ⟨by omega, by omega⟩ ⟨by omega, by omega⟩ ⟨by omega, by omega⟩ ⟨by omega, by omega⟩) gL_holds_X10_node rfl rfl rfl (by decide +kernel) ⟨(Nat.le_of_ble_eq_true rfl), (Nat.le_of_ble_eq_true rfl)⟩ rfl (by omega) hfx_52 rfl (Nat.le_of_ble_eq_true rfl) ⟨Nat.zero_le _, Nat.zero_le _⟩ dL_holds_337 rfl (fun g_50 hp_51 => ?_)
                obtain ⟨ho_53, hf_54⟩ := hp_51
                have hfr_55 : ∀ q, 141 ≤ q → g_50 q = g q := fun q hq => (hf_54 q (by omega)).trans (hfr_49 q hq)
                refine w_as (st' := [.long (zJ (bh (coL (S.getD k [])) (coR (S.getD k []))))]) (sc_l (by rw [e_nod hk]; exact nod_nR hcc) rfl) ?_
                refine w_lload dL_holds_340 6 rfl ?_
                refine w_lcmp_neS 382 dL_holds_342 dL_holds_343 (by decide) ?_
                refine w_aload_n dL_holds_346 rfl 0 rfl ?_
                refine w_iload_n dL_holds_347 rfl 1 rfl ?_
                refine w_iconst dL_holds_348 ?_
                refine w_iconst dL_holds_349 ?_
                refine w_iconst dL_holds_350 ?_
                obtain ⟨fx_58, hfx_58⟩ := OW_0 ho_53
                refine w_calll (As := [.int (zI ((k : Nat) : Int)), .int (zI 0), .int (zI 0), .int (zI 2)]) (rest := []) (n := 4) (a_node (s := ((k : Nat) : Int)) (j := 0) (a := 0) (what := 2) ho_53 (by omega) (by omega) ⟨by omega, by omega⟩ ⟨by omega, by omega⟩ ⟨by omega, by omega⟩ ⟨by omega, by omega⟩) gL_holds_X10_node rfl rfl rfl (by decide +kernel) ⟨(Nat.le_of_ble_eq_true rfl), (Nat.le_of_ble_eq_true rfl)⟩ rfl (by omega) hfx_58 rfl (Nat.le_of_ble_eq_true rfl) ⟨Nat.zero_le _, Nat.zero_le _⟩ dL_holds_351 rfl (fun g_56 hp_57 => ?_)
                obtain ⟨ho_59, hf_60⟩ := hp_57
                have hfr_61 : ∀ q, 141 ≤ q → g_56 q = g q := fun q hq => (hf_60 q (by omega)).trans (hfr_55 q hq)
                refine w_as (st' := [.long (zJ (lg (coL (S.getD k [])) (coR (S.getD k []))))]) (sc_l (by rw [e_nod hk]; exact nod_00 hcc (w := 2) (by omega) (by omega)) rfl) ?_
                refine w_aload_n dL_holds_354 rfl 0 rfl ?_
                refine w_iload_n dL_holds_355 rfl 1 rfl ?_
                refine w_iconst dL_holds_356 ?_
                obtain ⟨fx_64, hfx_64⟩ := OW_0 ho_59
                refine w_calll (As := [.int (zI ((k : Nat) : Int)), .int (zI 2)]) (rest := [.long (zJ (lg (coL (S.getD k [])) (coR (S.getD k []))))]) (n := 2) (a_ways (s := ((k : Nat) : Int)) (what := 2) ho_59 (by omega) (by omega) ⟨by omega, by omega⟩ ⟨by omega, by omega⟩) gL_holds_X10_ways rfl rfl rfl (by decide +kernel) ⟨(Nat.le_of_ble_eq_true rfl), (Nat.le_of_ble_eq_true rfl)⟩ rfl (by omega) hfx_64 rfl (Nat.le_of_ble_eq_true rfl) ⟨Nat.zero_le _, Nat.zero_le _⟩ dL_holds_357 rfl (fun g_62 hp_63 => ?_)
                obtain ⟨ho_65, hf_66⟩ := hp_63
                have hfr_67 : ∀ q, 141 ≤ q → g_62 q = g q := fun q hq => (hf_66 q (by omega)).trans (hfr_61 q hq)
                refine w_as (st' := [.long (zJ (lg (coL (S.getD k [])) (coR (S.getD k [])))), .long (zJ (lg (coL (S.getD k [])) (coR (S.getD k []))))]) (sc_l (way_2 hk) rfl) ?_
                refine w_lcmp_neS 382 dL_holds_360 dL_holds_361 (by decide) ?_
                refine w_aload_n dL_holds_364 rfl 0 rfl ?_
                refine w_iload_n dL_holds_365 rfl 1 rfl ?_
                refine w_iconst dL_holds_366 ?_
                refine w_iconst dL_holds_367 ?_
                refine w_iconst dL_holds_368 ?_
                obtain ⟨fx_70, hfx_70⟩ := OW_0 ho_65
                refine w_calll (As := [.int (zI ((k : Nat) : Int)), .int (zI 0), .int (zI 0), .int (zI 3)]) (rest := []) (n := 4) (a_node (s := ((k : Nat) : Int)) (j := 0) (a := 0) (what := 3) ho_65 (by omega) (by omega) ⟨by omega, by omega⟩ ⟨by omega, by omega⟩ ⟨by omega, by omega⟩ ⟨by omega, by omega⟩) gL_holds_X10_node rfl rfl rfl (by decide +kernel) ⟨(Nat.le_of_ble_eq_true rfl), (Nat.le_of_ble_eq_true rfl)⟩ rfl (by omega) hfx_70 rfl (Nat.le_of_ble_eq_true rfl) ⟨Nat.zero_le _, Nat.zero_le _⟩ dL_holds_369 rfl (fun g_68 hp_69 => ?_)
                obtain ⟨ho_71, hf_72⟩ := hp_69
                have hfr_73 : ∀ q, 141 ≤ q → g_68 q = g q := fun q hq => (hf_72 q (by omega)).trans (hfr_67 q hq)
                refine w_as (st' := [.long (zJ (sh (coL (S.getD k [])) (coR (S.getD k []))))]) (sc_l (by rw [e_nod hk]; exact nod_00 hcc (w := 3) (by omega) (by omega)) rfl) ?_
                refine w_aload_n dL_holds_372 rfl 0 rfl ?_
                refine w_iload_n dL_holds_373 rfl 1 rfl ?_
                refine w_iconst dL_holds_374 ?_
                obtain ⟨fx_76, hfx_76⟩ := OW_0 ho_71
                refine w_calll (As := [.int (zI ((k : Nat) : Int)), .int (zI 3)]) (rest := [.long (zJ (sh (coL (S.getD k [])) (coR (S.getD k []))))]) (n := 2) (a_ways (s := ((k : Nat) : Int)) (what := 3) ho_71 (by omega) (by omega) ⟨by omega, by omega⟩ ⟨by omega, by omega⟩) gL_holds_X10_ways rfl rfl rfl (by decide +kernel) ⟨(Nat.le_of_ble_eq_true rfl), (Nat.le_of_ble_eq_true rfl)⟩ rfl (by omega) hfx_76 rfl (Nat.le_of_ble_eq_true rfl) ⟨Nat.zero_le _, Nat.zero_le _⟩ dL_holds_375 rfl (fun g_74 hp_75 => ?_)
                obtain ⟨ho_77, hf_78⟩ := hp_75
                have hfr_79 : ∀ q, 141 ≤ q → g_74 q = g q := fun q hq => (hf_78 q (by omega)).trans (hfr_73 q hq)
                refine w_as (st' := [.long (zJ (sh (coL (S.getD k [])) (coR (S.getD k [])))), .long (zJ (sh (coL (S.getD k [])) (coR (S.getD k []))))]) (sc_l (way_3 hk) rfl) ?_
                refine w_lcmp_eqS 384 dL_holds_378 dL_holds_379 (by decide) ?_
                refine w_iconst dL_holds_384 ?_
                refine w_istore [(15, .int (zI 0)), (0, .ref (B + 0)), (1, .int (zI ((k : Nat) : Int))), (2, .int (zI x)), (3, .int (zI (((S.getD k []).length : Nat) : Int))), (4, .int (zI ((coR (S.getD k []) : Nat) : Int))), (5, .int (zI (tc (coL (S.getD k [])) (coR (S.getD k []))))), (10, .long (zJ (bh (coL (S.getD k [])) (coR (S.getD k []))))), (12, .long (zJ (srN (nodT (S.getD k []) jq) 0 an))), (14, .int (zI ((jq : Nat) : Int)))] dL_holds_385 (by decide) rfl ?_
                refine w_sub [(0, .ref (B + 0)), (1, .int (zI ((k : Nat) : Int))), (3, .int (zI (((S.getD k []).length : Nat) : Int))), (4, .int (zI ((coR (S.getD k []) : Nat) : Int))), (5, .int (zI (tc (coL (S.getD k [])) (coR (S.getD k []))))), (10, .long (zJ (bh (coL (S.getD k [])) (coR (S.getD k []))))), (15, .int (zI 0))] [1, 2, 4, 5, 6, 7, 0] rfl ?_
                refine w_lv (lv' := [(0, .ref (B + 0)), (1, .int (zI ((k : Nat) : Int))), (3, .int (zI (((S.getD k []).length : Nat) : Int))), (4, .int (zI ((coR (S.getD k []) : Nat) : Int))), (5, .int (zI (tc (coL (S.getD k [])) (coR (S.getD k []))))), (10, .long (zJ (bh (coL (S.getD k [])) (coR (S.getD k []))))), (15, .int (zI ((0 : Nat) : Int)))]) (lc_s (lc_s (lc_s (lc_s (lc_s (lc_s (lc_i (by first | omega | with_reducible rfl) rfl))))))) ?_
                refine w_loop2 (fun (lw : Nat) (gl_80 : (Nat → va_E)) => OW cy B gl_80 0 W S P M ∧ (∀ q, 141 ≤ q → gl_80 q = g q) ∧ lw ≤ 3) (fun (lw : Nat) (gl_80 : (Nat → va_E)) => 3 - lw) (fun (lw : Nat) (gl_80 : (Nat → va_E)) => gl_80) (fun (lw : Nat) (gl_80 : (Nat → va_E)) => [(0, .ref (B + 0)), (1, .int (zI ((k : Nat) : Int))), (3, .int (zI (((S.getD k []).length : Nat) : Int))), (4, .int (zI ((coR (S.getD k []) : Nat) : Int))), (5, .int (zI (tc (coL (S.getD k [])) (coR (S.getD k []))))), (10, .long (zJ (bh (coL (S.getD k [])) (coR (S.getD k []))))), (15, .int (zI ((lw : Nat) : Int)))]) ?_ 0 g_74 ⟨ho_77, hfr_79, (by first | omega | with_reducible rfl)⟩
                rintro lw gl_80 ⟨ho_81, hfr_82, hlw⟩ ih_387
                refine w_iload dL_holds_387 6 rfl ?_
                refine w_iconst dL_holds_389 ?_
                refine w_icmp_ge 469 dL_holds_390 (by decide) (by first | omega | with_reducible rfl) (by first | omega | with_reducible rfl) (fun c_390 => ?_) (fun c_390 => ?_)
                · obtain ⟨⟨u1, u2, u3⟩, u4, u5⟩ := cha_ok hcc (law := 1) (by omega)
                  obtain ⟨⟨v1, v2, v3⟩, v4, v5⟩ := cha_ok hcc (law := 2) (by omega)
                  have hw1 := stW_ps hcc 1
                  have hw2 := stW_ps hcc 2
                  have hbW := both_W hcc
                  have hbT := both_T hcc
                  have ht1 := stT_ps hcc 1
                  have ht2 := stT_ps hcc 2
                  refine w_aload_n dL_holds_469 rfl 0 rfl ?_
                  refine w_iload_n dL_holds_470 rfl 1 rfl ?_
                  refine w_iconst dL_holds_471 ?_
                  refine w_iconst dL_holds_472 ?_
                  obtain ⟨fx_85, hfx_85⟩ := OW_0 ho_81
                  refine w_calll (As := [.int (zI ((k : Nat) : Int)), .int (zI 1), .int (zI 0)]) (rest := []) (n := 3) (a_chance (s := ((k : Nat) : Int)) (law := 1) (part := 0) ho_81 (by omega) (by omega) ⟨by omega, by omega⟩ ⟨by omega, by omega⟩ ⟨by omega, by omega⟩) gL_holds_X10_chance rfl rfl rfl (by decide +kernel) ⟨(Nat.le_of_ble_eq_true rfl), (Nat.le_of_ble_eq_true rfl)⟩ rfl (by omega) hfx_85 rfl (Nat.le_of_ble_eq_true rfl) ⟨Nat.zero_le _, Nat.zero_le _⟩ dL_holds_473 rfl (fun g_83 hp_84 => ?_)
                  obtain ⟨ho_86, hf_87⟩ := hp_84
                  have hfr_88 : ∀ q, 141 ≤ q → g_83 q = g q := fun q hq => (hf_87 q (by omega)).trans (hfr_82 q hq)
                  refine w_as (st' := [.long (zJ (aCha (S.getD k []) 1 0))]) (sc_l (e_cha hk _ _) rfl) ?_
                  refine w_lload dL_holds_476 5 rfl ?_
                  refine w_aload_n dL_holds_478 rfl 0 rfl ?_
                  refine w_iload_n dL_holds_479 rfl 1 rfl ?_
                  refine w_iconst dL_holds_480 ?_
                  refine w_iconst dL_holds_481 ?_
                  obtain ⟨fx_91, hfx_91⟩ := OW_0 ho_86
                  refine w_calll (As := [.int (zI ((k : Nat) : Int)), .int (zI 1), .int (zI 1)]) (rest := [.long (zJ (bh (coL (S.getD k [])) (coR (S.getD k [])))), .long (zJ (aCha (S.getD k []) 1 0))]) (n := 3) (a_chance (s := ((k : Nat) : Int)) (law := 1) (part := 1) ho_86 (by omega) (by omega) ⟨by omega, by omega⟩ ⟨by omega, by omega⟩ ⟨by omega, by omega⟩) gL_holds_X10_chance rfl rfl rfl (by decide +kernel) ⟨(Nat.le_of_ble_eq_true rfl), (Nat.le_of_ble_eq_true rfl)⟩ rfl (by omega) hfx_91 rfl (Nat.le_of_ble_eq_true rfl) ⟨Nat.zero_le _, Nat.zero_le _⟩ dL_holds_482 rfl (fun g_89 hp_90 => ?_)
                  obtain ⟨ho_92, hf_93⟩ := hp_90
                  have hfr_94 : ∀ q, 141 ≤ q → g_89 q = g q := fun q hq => (hf_93 q (by omega)).trans (hfr_88 q hq)
                  refine w_as (st' := [.long (zJ (aCha (S.getD k []) 1 1)), .long (zJ (bh (coL (S.getD k [])) (coR (S.getD k [])))), .long (zJ (aCha (S.getD k []) 1 0))]) (sc_l (e_cha hk _ _) rfl) ?_
                  refine w_ldiv dL_holds_485 (by omega) (by omega) ?_
                  refine w_lmul dL_holds_486 ?_
                  refine w_as (st' := [.long (zJ (stW (S.getD k []) 1))]) (sc_l u5 rfl) ?_
                  refine w_lstore [(15, .long (zJ (stW (S.getD k []) 1))), (0, .ref (B + 0)), (1, .int (zI ((k : Nat) : Int))), (3, .int (zI (((S.getD k []).length : Nat) : Int))), (4, .int (zI ((coR (S.getD k []) : Nat) : Int))), (5, .int (zI (tc (coL (S.getD k [])) (coR (S.getD k []))))), (10, .long (zJ (bh (coL (S.getD k [])) (coR (S.getD k [])))))] dL_holds_487 (by decide) rfl ?_
                  refine w_aload_n dL_holds_489 rfl 1 rfl ?_
                  refine w_iload_n dL_holds_490 rfl 2 rfl ?_
                  refine w_iconst dL_holds_491 ?_
                  refine w_iconst dL_holds_492 ?_
                  obtain ⟨fx_97, hfx_97⟩ := OW_0 ho_92
                  refine w_calll (As := [.int (zI ((k : Nat) : Int)), .int (zI 2), .int (zI 0)]) (rest := []) (n := 3) (a_chance (s := ((k : Nat) : Int)) (law := 2) (part := 0) ho_92 (by omega) (by omega) ⟨by omega, by omega⟩ ⟨by omega, by omega⟩ ⟨by omega, by omega⟩) gL_holds_X10_chance rfl rfl rfl (by decide +kernel) ⟨(Nat.le_of_ble_eq_true rfl), (Nat.le_of_ble_eq_true rfl)⟩ rfl (by omega) hfx_97 rfl (Nat.le_of_ble_eq_true rfl) ⟨Nat.zero_le _, Nat.zero_le _⟩ dL_holds_493 rfl (fun g_95 hp_96 => ?_)
                  obtain ⟨ho_98, hf_99⟩ := hp_96
                  have hfr_100 : ∀ q, 141 ≤ q → g_95 q = g q := fun q hq => (hf_99 q (by omega)).trans (hfr_94 q hq)
                  refine w_as (st' := [.long (zJ (aCha (S.getD k []) 2 0))]) (sc_l (e_cha hk _ _) rfl) ?_
                  refine w_lload dL_holds_496 6 rfl ?_
                  refine w_aload_n dL_holds_498 rfl 1 rfl ?_
                  refine w_iload_n dL_holds_499 rfl 2 rfl ?_
                  refine w_iconst dL_holds_500 ?_
                  refine w_iconst dL_holds_501 ?_
                  obtain ⟨fx_103, hfx_103⟩ := OW_0 ho_98
                  refine w_calll (As := [.int (zI ((k : Nat) : Int)), .int (zI 2), .int (zI 1)]) (rest := [.long (zJ (bh (coL (S.getD k [])) (coR (S.getD k [])))), .long (zJ (aCha (S.getD k []) 2 0))]) (n := 3) (a_chance (s := ((k : Nat) : Int)) (law := 2) (part := 1) ho_98 (by omega) (by omega) ⟨by omega, by omega⟩ ⟨by omega, by omega⟩ ⟨by omega, by omega⟩) gL_holds_X10_chance rfl rfl rfl (by decide +kernel) ⟨(Nat.le_of_ble_eq_true rfl), (Nat.le_of_ble_eq_true rfl)⟩ rfl (by omega) hfx_103 rfl (Nat.le_of_ble_eq_true rfl) ⟨Nat.zero_le _, Nat.zero_le _⟩ dL_holds_502 rfl (fun g_101 hp_102 => ?_)
                  obtain ⟨ho_104, hf_105⟩ := hp_102
                  have hfr_106 : ∀ q, 141 ≤ q → g_101 q = g q := fun q hq => (hf_105 q (by omega)).trans (hfr_100 q hq)
                  refine w_as (st' := [.long (zJ (aCha (S.getD k []) 2 1)), .long (zJ (bh (coL (S.getD k [])) (coR (S.getD k [])))), .long (zJ (aCha (S.getD k []) 2 0))]) (sc_l (e_cha hk _ _) rfl) ?_
                  refine w_ldiv dL_holds_505 (by omega) (by omega) ?_
                  refine w_lmul dL_holds_506 ?_
                  refine w_as (st' := [.long (zJ (stW (S.getD k []) 2))]) (sc_l v5 rfl) ?_
                  refine w_lstore [(17, .long (zJ (stW (S.getD k []) 2))), (15, .long (zJ (stW (S.getD k []) 1))), (0, .ref (B + 0)), (1, .int (zI ((k : Nat) : Int))), (3, .int (zI (((S.getD k []).length : Nat) : Int))), (4, .int (zI ((coR (S.getD k []) : Nat) : Int))), (5, .int (zI (tc (coL (S.getD k [])) (coR (S.getD k []))))), (10, .long (zJ (bh (coL (S.getD k [])) (coR (S.getD k [])))))] dL_holds_507 (by decide) rfl ?_
                  refine w_lload dL_holds_509 1 rfl ?_
                  refine w_lload dL_holds_511 0 rfl ?_
                  refine w_ladd dL_holds_513 ?_
                  refine w_lload dL_holds_514 7 rfl ?_
                  refine w_aload_n dL_holds_516 rfl 2 rfl ?_
                  refine w_iload_n dL_holds_517 rfl 3 rfl ?_
                  refine w_iconst dL_holds_518 ?_
                  obtain ⟨fx_109, hfx_109⟩ := OW_0 ho_104
                  refine w_calll (As := [.int (zI ((k : Nat) : Int)), .int (zI 0)]) (rest := [.long (zJ (bh (coL (S.getD k [])) (coR (S.getD k [])))), .long (zJ ((stW (S.getD k []) 1) + (stW (S.getD k []) 2)))]) (n := 2) (a_ways (s := ((k : Nat) : Int)) (what := 0) ho_104 (by omega) (by omega) ⟨by omega, by omega⟩ ⟨by omega, by omega⟩) gL_holds_X10_ways rfl rfl rfl (by decide +kernel) ⟨(Nat.le_of_ble_eq_true rfl), (Nat.le_of_ble_eq_true rfl)⟩ rfl (by omega) hfx_109 rfl (Nat.le_of_ble_eq_true rfl) ⟨Nat.zero_le _, Nat.zero_le _⟩ dL_holds_519 rfl (fun g_107 hp_108 => ?_)
                  obtain ⟨ho_110, hf_111⟩ := hp_108
                  have hfr_112 : ∀ q, 141 ≤ q → g_107 q = g q := fun q hq => (hf_111 q (by omega)).trans (hfr_106 q hq)
                  refine w_as (st' := [.long (zJ (coP (S.getD k []))), .long (zJ (bh (coL (S.getD k [])) (coR (S.getD k [])))), .long (zJ ((stW (S.getD k []) 1) + (stW (S.getD k []) 2)))]) (sc_l (way_0 hk) rfl) ?_
                  refine w_ladd dL_holds_522 ?_
                  refine w_lcmp_lt 545 dL_holds_523 dL_holds_524 (by decide) (by omega) (by omega) (fun c_523 => ?_) (fun c_523 => ?_)
                  · exfalso; omega
                  · refine w_aload_n dL_holds_527 rfl 2 rfl ?_
                    refine w_iload_n dL_holds_528 rfl 3 rfl ?_
                    refine w_iconst dL_holds_529 ?_
                    obtain ⟨fx_115, hfx_115⟩ := OW_0 ho_110
                    refine w_calli (As := [.int (zI ((k : Nat) : Int)), .int (zI 1)]) (rest := []) (n := 2) (a_strange (s := ((k : Nat) : Int)) (law := 1) ho_110 (by omega) (by omega) ⟨by omega, by omega⟩ ⟨by omega, by omega⟩) gL_holds_X10_strange rfl rfl rfl (by decide +kernel) ⟨(Nat.le_of_ble_eq_true rfl), (Nat.le_of_ble_eq_true rfl)⟩ rfl (by omega) hfx_115 rfl (Nat.le_of_ble_eq_true rfl) ⟨Nat.zero_le _, Nat.zero_le _⟩ dL_holds_530 rfl (fun g_113 hp_114 => ?_)
                    obtain ⟨ho_116, hf_117⟩ := hp_114
                    have hfr_118 : ∀ q, 141 ≤ q → g_113 q = g q := fun q hq => (hf_117 q (by omega)).trans (hfr_112 q hq)
                    refine w_as (st' := [.int (zI (stT (S.getD k []) 1))]) (sc_i (e_sta hk (by omega)) rfl) ?_
                    refine w_aload_n dL_holds_533 rfl 2 rfl ?_
                    refine w_iload_n dL_holds_534 rfl 3 rfl ?_
                    refine w_iconst dL_holds_535 ?_
                    obtain ⟨fx_121, hfx_121⟩ := OW_0 ho_116
                    refine w_calli (As := [.int (zI ((k : Nat) : Int)), .int (zI 2)]) (rest := [.int (zI (stT (S.getD k []) 1))]) (n := 2) (a_strange (s := ((k : Nat) : Int)) (law := 2) ho_116 (by omega) (by omega) ⟨by omega, by omega⟩ ⟨by omega, by omega⟩) gL_holds_X10_strange rfl rfl rfl (by decide +kernel) ⟨(Nat.le_of_ble_eq_true rfl), (Nat.le_of_ble_eq_true rfl)⟩ rfl (by omega) hfx_121 rfl (Nat.le_of_ble_eq_true rfl) ⟨Nat.zero_le _, Nat.zero_le _⟩ dL_holds_536 rfl (fun g_119 hp_120 => ?_)
                    obtain ⟨ho_122, hf_123⟩ := hp_120
                    have hfr_124 : ∀ q, 141 ≤ q → g_119 q = g q := fun q hq => (hf_123 q (by omega)).trans (hfr_118 q hq)
                    refine w_as (st' := [.int (zI (stT (S.getD k []) 2)), .int (zI (stT (S.getD k []) 1))]) (sc_i (e_sta hk (by omega)) rfl) ?_
                    refine w_iadd dL_holds_539 ?_
                    refine w_iload dL_holds_540 6 rfl ?_
                    refine w_icmp_gt 547 dL_holds_542 (by decide) (by omega) (by omega) (fun c_542 => ?_) (fun c_542 => ?_)
                    · refine w_iload dL_holds_547 5 rfl ?_
                      refine w_if_eq 563 dL_holds_549 (by decide) (by omega) (fun c_549 => ?_) (fun c_549 => ?_)
                      · refine w_iload dL_holds_563 6 rfl ?_
                        refine w_iconst dL_holds_565 ?_
                        refine w_as (st' := [.int (zI 1), .int (zI 1)]) (lc_s (sc_i (one_tb hcc (by omega)) rfl)) ?_
                        refine w_icmp_neS 598 dL_holds_566 (by decide) ?_
                        refine w_aload_n dL_holds_569 rfl 2 rfl ?_
                        refine w_iload_n dL_holds_570 rfl 3 rfl ?_
                        refine w_iconst dL_holds_571 ?_
                        obtain ⟨fx_127, hfx_127⟩ := OW_0 ho_122
                        refine w_calli (As := [.int (zI ((k : Nat) : Int)), .int (zI 0)]) (rest := []) (n := 2) (a_looks (s := ((k : Nat) : Int)) (what := 0) ho_122 (by omega) (by omega) ⟨by omega, by omega⟩ ⟨by omega, by omega⟩) gL_holds_X10_looks rfl rfl rfl (by decide +kernel) ⟨(Nat.le_of_ble_eq_true rfl), (Nat.le_of_ble_eq_true rfl)⟩ rfl (by omega) hfx_127 rfl (Nat.le_of_ble_eq_true rfl) ⟨Nat.zero_le _, Nat.zero_le _⟩ dL_holds_572 rfl (fun g_125 hp_126 => ?_)
                        obtain ⟨ho_128, hf_129⟩ := hp_126
                        have hfr_130 : ∀ q, 141 ≤ q → g_125 q = g q := fun q hq => (hf_129 q (by omega)).trans (hfr_124 q hq)
                        refine w_as (st' := [.int (zI (aLoo (S.getD k []) 0))]) (sc_i (e_loo hk _) rfl) ?_
                        refine w_aload_n dL_holds_575 rfl 2 rfl ?_
                        refine w_iload_n dL_holds_576 rfl 3 rfl ?_
                        refine w_iconst dL_holds_577 ?_
                        obtain ⟨fx_133, hfx_133⟩ := OW_0 ho_128
                        refine w_calli (As := [.int (zI ((k : Nat) : Int)), .int (zI 1)]) (rest := [.int (zI (aLoo (S.getD k []) 0))]) (n := 2) (a_looks (s := ((k : Nat) : Int)) (what := 1) ho_128 (by omega) (by omega) ⟨by omega, by omega⟩ ⟨by omega, by omega⟩) gL_holds_X10_looks rfl rfl rfl (by decide +kernel) ⟨(Nat.le_of_ble_eq_true rfl), (Nat.le_of_ble_eq_true rfl)⟩ rfl (by omega) hfx_133 rfl (Nat.le_of_ble_eq_true rfl) ⟨Nat.zero_le _, Nat.zero_le _⟩ dL_holds_578 rfl (fun g_131 hp_132 => ?_)
                        obtain ⟨ho_134, hf_135⟩ := hp_132
                        have hfr_136 : ∀ q, 141 ≤ q → g_131 q = g q := fun q hq => (hf_135 q (by omega)).trans (hfr_130 q hq)
                        refine w_as (st' := [.int (zI (aLoo (S.getD k []) 1)), .int (zI (aLoo (S.getD k []) 0))]) (sc_i (e_loo hk _) rfl) ?_
                        refine w_icmp_gt 598 dL_holds_581 (by decide) (by omega) (by omega) (fun c_581 => ?_) (fun c_581 => ?_)
                        · exfalso; omega
                        · refine w_aload_n dL_holds_584 rfl 2 rfl ?_
                          refine w_iload_n dL_holds_585 rfl 3 rfl ?_
                          refine w_iconst dL_holds_586 ?_
                          obtain ⟨fx_139, hfx_139⟩ := OW_0 ho_134
                          refine w_calli (As := [.int (zI ((k : Nat) : Int)), .int (zI 0)]) (rest := []) (n := 2) (a_looks (s := ((k : Nat) : Int)) (what := 0) ho_134 (by omega) (by omega) ⟨by omega, by omega⟩ ⟨by omega, by omega⟩) gL_holds_X10_looks rfl rfl rfl (by decide +kernel) ⟨(Nat.le_of_ble_eq_true rfl), (Nat.le_of_ble_eq_true rfl)⟩ rfl (by omega) hfx_139 rfl (Nat.le_of_ble_eq_true rfl) ⟨Nat.zero_le _, Nat.zero_le _⟩ dL_holds_587 rfl (fun g_137 hp_138 => ?_)
                          obtain ⟨ho_140, hf_141⟩ := hp_138
                          have hfr_142 : ∀ q, 141 ≤ q → g_137 q = g q := fun q hq => (hf_141 q (by omega)).trans (hfr_136 q hq)
                          refine w_as (st' := [.int (zI (aLoo (S.getD k []) 0))]) (sc_i (e_loo hk _) rfl) ?_
                          refine w_iconst dL_holds_590 ?_
                          refine w_icmp_lt 598 dL_holds_591 (by decide) (by omega) (by omega) (fun c_591 => ?_) (fun c_591 => ?_)
                          · exfalso; omega
                          · refine w_iconst dL_holds_594 ?_
                            refine w_goto 599 dL_holds_595 (by decide) ?_
                            exact w_zret dL_holds_599 rfl rfl (by rfl) ⟨ho_140, hfr_142⟩
                      · refine w_iload dL_holds_552 5 rfl ?_
                        refine w_aload_n dL_holds_554 rfl 2 rfl ?_
                        refine w_iload_n dL_holds_555 rfl 3 rfl ?_
                        refine w_iconst dL_holds_556 ?_
                        obtain ⟨fx_145, hfx_145⟩ := OW_0 ho_122
                        refine w_calli (As := [.int (zI ((k : Nat) : Int)), .int (zI 1)]) (rest := [.int (zI ((coR (S.getD k []) : Nat) : Int))]) (n := 2) (a_stratum (s := ((k : Nat) : Int)) (what := 1) ho_122 (by omega) (by omega) ⟨by omega, by omega⟩ ⟨by omega, by omega⟩) gL_holds_X10_stratum rfl rfl rfl (by decide +kernel) ⟨(Nat.le_of_ble_eq_true rfl), (Nat.le_of_ble_eq_true rfl)⟩ rfl (by omega) hfx_145 rfl (Nat.le_of_ble_eq_true rfl) ⟨Nat.zero_le _, Nat.zero_le _⟩ dL_holds_557 rfl (fun g_143 hp_144 => ?_)
                        obtain ⟨ho_146, hf_147⟩ := hp_144
                        have hfr_148 : ∀ q, 141 ≤ q → g_143 q = g q := fun q hq => (hf_147 q (by omega)).trans (hfr_124 q hq)
                        refine w_as (st' := [.int (zI (sm (coT (S.getD k [])) (S.getD k []).length)), .int (zI ((coR (S.getD k []) : Nat) : Int))]) (sc_i (str_1 hk) rfl) ?_
                        refine w_icmp_ne 569 dL_holds_560 (by decide) (by omega) (by have h7 := sm_ts hcc; omega) (fun c_560 => ?_) (fun c_560 => ?_)
                        · refine w_aload_n dL_holds_569 rfl 2 rfl ?_
                          refine w_iload_n dL_holds_570 rfl 3 rfl ?_
                          refine w_iconst dL_holds_571 ?_
                          obtain ⟨fx_151, hfx_151⟩ := OW_0 ho_146
                          refine w_calli (As := [.int (zI ((k : Nat) : Int)), .int (zI 0)]) (rest := []) (n := 2) (a_looks (s := ((k : Nat) : Int)) (what := 0) ho_146 (by omega) (by omega) ⟨by omega, by omega⟩ ⟨by omega, by omega⟩) gL_holds_X10_looks rfl rfl rfl (by decide +kernel) ⟨(Nat.le_of_ble_eq_true rfl), (Nat.le_of_ble_eq_true rfl)⟩ rfl (by omega) hfx_151 rfl (Nat.le_of_ble_eq_true rfl) ⟨Nat.zero_le _, Nat.zero_le _⟩ dL_holds_572 rfl (fun g_149 hp_150 => ?_)
                          obtain ⟨ho_152, hf_153⟩ := hp_150
                          have hfr_154 : ∀ q, 141 ≤ q → g_149 q = g q := fun q hq => (hf_153 q (by omega)).trans (hfr_148 q hq)
                          refine w_as (st' := [.int (zI (aLoo (S.getD k []) 0))]) (sc_i (e_loo hk _) rfl) ?_
                          refine w_aload_n dL_holds_575 rfl 2 rfl ?_
                          refine w_iload_n dL_holds_576 rfl 3 rfl ?_
                          refine w_iconst dL_holds_577 ?_
                          obtain ⟨fx_157, hfx_157⟩ := OW_0 ho_152
                          refine w_calli (As := [.int (zI ((k : Nat) : Int)), .int (zI 1)]) (rest := [.int (zI (aLoo (S.getD k []) 0))]) (n := 2) (a_looks (s := ((k : Nat) : Int)) (what := 1) ho_152 (by omega) (by omega) ⟨by omega, by omega⟩ ⟨by omega, by omega⟩) gL_holds_X10_looks rfl rfl rfl (by decide +kernel) ⟨(Nat.le_of_ble_eq_true rfl), (Nat.le_of_ble_eq_true rfl)⟩ rfl (by omega) hfx_157 rfl (Nat.le_of_ble_eq_true rfl) ⟨Nat.zero_le _, Nat.zero_le _⟩ dL_holds_578 rfl (fun g_155 hp_156 => ?_)
                          obtain ⟨ho_158, hf_159⟩ := hp_156
                          have hfr_160 : ∀ q, 141 ≤ q → g_155 q = g q := fun q hq => (hf_159 q (by omega)).trans (hfr_154 q hq)
                          refine w_as (st' := [.int (zI (aLoo (S.getD k []) 1)), .int (zI (aLoo (S.getD k []) 0))]) (sc_i (e_loo hk _) rfl) ?_
                          refine w_icmp_gt 598 dL_holds_581 (by decide) (by omega) (by omega) (fun c_581 => ?_) (fun c_581 => ?_)
                          · exfalso; omega
                          · refine w_aload_n dL_holds_584 rfl 2 rfl ?_
                            refine w_iload_n dL_holds_585 rfl 3 rfl ?_
                            refine w_iconst dL_holds_586 ?_
                            obtain ⟨fx_163, hfx_163⟩ := OW_0 ho_158
                            refine w_calli (As := [.int (zI ((k : Nat) : Int)), .int (zI 0)]) (rest := []) (n := 2) (a_looks (s := ((k : Nat) : Int)) (what := 0) ho_158 (by omega) (by omega) ⟨by omega, by omega⟩ ⟨by omega, by omega⟩) gL_holds_X10_looks rfl rfl rfl (by decide +kernel) ⟨(Nat.le_of_ble_eq_true rfl), (Nat.le_of_ble_eq_true rfl)⟩ rfl (by omega) hfx_163 rfl (Nat.le_of_ble_eq_true rfl) ⟨Nat.zero_le _, Nat.zero_le _⟩ dL_holds_587 rfl (fun g_161 hp_162 => ?_)
                            obtain ⟨ho_164, hf_165⟩ := hp_162
                            have hfr_166 : ∀ q, 141 ≤ q → g_161 q = g q := fun q hq => (hf_165 q (by omega)).trans (hfr_160 q hq)
                            refine w_as (st' := [.int (zI (aLoo (S.getD k []) 0))]) (sc_i (e_loo hk _) rfl) ?_
                            refine w_iconst dL_holds_590 ?_
                            refine w_icmp_lt 598 dL_holds_591 (by decide) (by omega) (by omega) (fun c_591 => ?_) (fun c_591 => ?_)
                            · exfalso; omega
                            · refine w_iconst dL_holds_594 ?_
                              refine w_goto 599 dL_holds_595 (by decide) ?_
                              exact w_zret dL_holds_599 rfl rfl (by rfl) ⟨ho_164, hfr_166⟩
                        · refine w_iload dL_holds_563 6 rfl ?_
                          refine w_iconst dL_holds_565 ?_
                          refine w_as (st' := [.int (zI 1), .int (zI 1)]) (lc_s (sc_i (one_tb hcc (by omega)) rfl)) ?_
                          refine w_icmp_neS 598 dL_holds_566 (by decide) ?_
                          refine w_aload_n dL_holds_569 rfl 2 rfl ?_
                          refine w_iload_n dL_holds_570 rfl 3 rfl ?_
                          refine w_iconst dL_holds_571 ?_
                          obtain ⟨fx_169, hfx_169⟩ := OW_0 ho_146
                          refine w_calli (As := [.int (zI ((k : Nat) : Int)), .int (zI 0)]) (rest := []) (n := 2) (a_looks (s := ((k : Nat) : Int)) (what := 0) ho_146 (by omega) (by omega) ⟨by omega, by omega⟩ ⟨by omega, by omega⟩) gL_holds_X10_looks rfl rfl rfl (by decide +kernel) ⟨(Nat.le_of_ble_eq_true rfl), (Nat.le_of_ble_eq_true rfl)⟩ rfl (by omega) hfx_169 rfl (Nat.le_of_ble_eq_true rfl) ⟨Nat.zero_le _, Nat.zero_le _⟩ dL_holds_572 rfl (fun g_167 hp_168 => ?_)
                          obtain ⟨ho_170, hf_171⟩ := hp_168
                          have hfr_172 : ∀ q, 141 ≤ q → g_167 q = g q := fun q hq => (hf_171 q (by omega)).trans (hfr_148 q hq)
                          refine w_as (st' := [.int (zI (aLoo (S.getD k []) 0))]) (sc_i (e_loo hk _) rfl) ?_
                          refine w_aload_n dL_holds_575 rfl 2 rfl ?_
                          refine w_iload_n dL_holds_576 rfl 3 rfl ?_
                          refine w_iconst dL_holds_577 ?_
                          obtain ⟨fx_175, hfx_175⟩ := OW_0 ho_170
                          refine w_calli (As := [.int (zI ((k : Nat) : Int)), .int (zI 1)]) (rest := [.int (zI (aLoo (S.getD k []) 0))]) (n := 2) (a_looks (s := ((k : Nat) : Int)) (what := 1) ho_170 (by omega) (by omega) ⟨by omega, by omega⟩ ⟨by omega, by omega⟩) gL_holds_X10_looks rfl rfl rfl (by decide +kernel) ⟨(Nat.le_of_ble_eq_true rfl), (Nat.le_of_ble_eq_true rfl)⟩ rfl (by omega) hfx_175 rfl (Nat.le_of_ble_eq_true rfl) ⟨Nat.zero_le _, Nat.zero_le _⟩ dL_holds_578 rfl (fun g_173 hp_174 => ?_)
                          obtain ⟨ho_176, hf_177⟩ := hp_174
                          have hfr_178 : ∀ q, 141 ≤ q → g_173 q = g q := fun q hq => (hf_177 q (by omega)).trans (hfr_172 q hq)
                          refine w_as (st' := [.int (zI (aLoo (S.getD k []) 1)), .int (zI (aLoo (S.getD k []) 0))]) (sc_i (e_loo hk _) rfl) ?_
                          refine w_icmp_gt 598 dL_holds_581 (by decide) (by omega) (by omega) (fun c_581 => ?_) (fun c_581 => ?_)
                          · exfalso; omega
                          · refine w_aload_n dL_holds_584 rfl 2 rfl ?_
                            refine w_iload_n dL_holds_585 rfl 3 rfl ?_
                            refine w_iconst dL_holds_586 ?_
                            obtain ⟨fx_181, hfx_181⟩ := OW_0 ho_176
                            refine w_calli (As := [.int (zI ((k : Nat) : Int)), .int (zI 0)]) (rest := []) (n := 2) (a_looks (s := ((k : Nat) : Int)) (what := 0) ho_176 (by omega) (by omega) ⟨by omega, by omega⟩ ⟨by omega, by omega⟩) gL_holds_X10_looks rfl rfl rfl (by decide +kernel) ⟨(Nat.le_of_ble_eq_true rfl), (Nat.le_of_ble_eq_true rfl)⟩ rfl (by omega) hfx_181 rfl (Nat.le_of_ble_eq_true rfl) ⟨Nat.zero_le _, Nat.zero_le _⟩ dL_holds_587 rfl (fun g_179 hp_180 => ?_)
                            obtain ⟨ho_182, hf_183⟩ := hp_180
                            have hfr_184 : ∀ q, 141 ≤ q → g_179 q = g q := fun q hq => (hf_183 q (by omega)).trans (hfr_178 q hq)
                            refine w_as (st' := [.int (zI (aLoo (S.getD k []) 0))]) (sc_i (e_loo hk _) rfl) ?_
                            refine w_iconst dL_holds_590 ?_
                            refine w_icmp_lt 598 dL_holds_591 (by decide) (by omega) (by omega) (fun c_591 => ?_) (fun c_591 => ?_)
                            · exfalso; omega
                            · refine w_iconst dL_holds_594 ?_
                              refine w_goto 599 dL_holds_595 (by decide) ?_
                              exact w_zret dL_holds_599 rfl rfl (by rfl) ⟨ho_182, hfr_184⟩
                    · exfalso; omega
                · obtain ⟨⟨q1, q2, q3⟩, q4, q5⟩ := cha_ok hcc (law := ((lw : Nat) : Int)) (by omega)
                  have hst := stT_ps hcc ((lw : Nat) : Int)
                  refine w_aload_n dL_holds_393 rfl 0 rfl ?_
                  refine w_iload_n dL_holds_394 rfl 1 rfl ?_
                  refine w_iload dL_holds_395 6 rfl ?_
                  refine w_iconst dL_holds_397 ?_
                  obtain ⟨fx_187, hfx_187⟩ := OW_0 ho_81
                  refine w_calll (As := [.int (zI ((k : Nat) : Int)), .int (zI ((lw : Nat) : Int)), .int (zI 0)]) (rest := []) (n := 3) (a_chance (s := ((k : Nat) : Int)) (law := ((lw : Nat) : Int)) (part := 0) ho_81 (by omega) (by omega) ⟨by omega, by omega⟩ ⟨by omega, by omega⟩ ⟨by omega, by omega⟩) gL_holds_X10_chance rfl rfl rfl (by decide +kernel) ⟨(Nat.le_of_ble_eq_true rfl), (Nat.le_of_ble_eq_true rfl)⟩ rfl (by omega) hfx_187 rfl (Nat.le_of_ble_eq_true rfl) ⟨Nat.zero_le _, Nat.zero_le _⟩ dL_holds_398 rfl (fun g_185 hp_186 => ?_)
                  obtain ⟨ho_188, hf_189⟩ := hp_186
                  have hfr_190 : ∀ q, 141 ≤ q → g_185 q = g q := fun q hq => (hf_189 q (by omega)).trans (hfr_82 q hq)
                  refine w_as (st' := [.long (zJ (aCha (S.getD k []) ((lw : Nat) : Int) 0))]) (sc_l (e_cha hk _ _) rfl) ?_
                  refine w_lstore [(16, .long (zJ (aCha (S.getD k []) ((lw : Nat) : Int) 0))), (0, .ref (B + 0)), (1, .int (zI ((k : Nat) : Int))), (3, .int (zI (((S.getD k []).length : Nat) : Int))), (4, .int (zI ((coR (S.getD k []) : Nat) : Int))), (5, .int (zI (tc (coL (S.getD k [])) (coR (S.getD k []))))), (10, .long (zJ (bh (coL (S.getD k [])) (coR (S.getD k []))))), (15, .int (zI ((lw : Nat) : Int)))] dL_holds_401 (by decide) rfl ?_
                  refine w_aload_n dL_holds_403 rfl 1 rfl ?_
                  refine w_iload_n dL_holds_404 rfl 2 rfl ?_
                  refine w_iload dL_holds_405 7 rfl ?_
                  refine w_iconst dL_holds_407 ?_
                  obtain ⟨fx_193, hfx_193⟩ := OW_0 ho_188
                  refine w_calll (As := [.int (zI ((k : Nat) : Int)), .int (zI ((lw : Nat) : Int)), .int (zI 1)]) (rest := []) (n := 3) (a_chance (s := ((k : Nat) : Int)) (law := ((lw : Nat) : Int)) (part := 1) ho_188 (by omega) (by omega) ⟨by omega, by omega⟩ ⟨by omega, by omega⟩ ⟨by omega, by omega⟩) gL_holds_X10_chance rfl rfl rfl (by decide +kernel) ⟨(Nat.le_of_ble_eq_true rfl), (Nat.le_of_ble_eq_true rfl)⟩ rfl (by omega) hfx_193 rfl (Nat.le_of_ble_eq_true rfl) ⟨Nat.zero_le _, Nat.zero_le _⟩ dL_holds_408 rfl (fun g_191 hp_192 => ?_)
                  obtain ⟨ho_194, hf_195⟩ := hp_192
                  have hfr_196 : ∀ q, 141 ≤ q → g_191 q = g q := fun q hq => (hf_195 q (by omega)).trans (hfr_190 q hq)
                  refine w_as (st' := [.long (zJ (aCha (S.getD k []) ((lw : Nat) : Int) 1))]) (sc_l (e_cha hk _ _) rfl) ?_
                  refine w_lstore [(18, .long (zJ (aCha (S.getD k []) ((lw : Nat) : Int) 1))), (16, .long (zJ (aCha (S.getD k []) ((lw : Nat) : Int) 0))), (0, .ref (B + 0)), (1, .int (zI ((k : Nat) : Int))), (3, .int (zI (((S.getD k []).length : Nat) : Int))), (4, .int (zI ((coR (S.getD k []) : Nat) : Int))), (5, .int (zI (tc (coL (S.getD k [])) (coR (S.getD k []))))), (10, .long (zJ (bh (coL (S.getD k [])) (coR (S.getD k []))))), (15, .int (zI ((lw : Nat) : Int)))] dL_holds_411 (by decide) rfl ?_
                  refine w_lload dL_holds_413 1 rfl ?_
                  refine w_lconst1 dL_holds_415 ?_
                  refine w_lcmp_lt 461 dL_holds_416 dL_holds_417 (by decide) (by omega) (by omega) (fun c_416 => ?_) (fun c_416 => ?_)
                  · exfalso; omega
                  · refine w_lload dL_holds_420 1 rfl ?_
                    refine w_lload dL_holds_422 0 rfl ?_
                    refine w_lcmp_gt 461 dL_holds_424 dL_holds_425 (by decide) (by omega) (by omega) (fun c_424 => ?_) (fun c_424 => ?_)
                    · exfalso; omega
                    · refine w_lload dL_holds_428 7 rfl ?_
                      refine w_lload dL_holds_430 0 rfl ?_
                      refine w_lrem dL_holds_432 (by omega) (by omega) ?_
                      refine w_lconst0 dL_holds_433 ?_
                      refine w_as (st' := [.long (zJ 0), .long (zJ 0)]) (lc_s (sc_l q4 rfl)) ?_
                      refine w_lcmp_neS 461 dL_holds_434 dL_holds_435 (by decide) ?_
                      refine w_aload_n dL_holds_438 rfl 2 rfl ?_
                      refine w_iload_n dL_holds_439 rfl 3 rfl ?_
                      refine w_iload dL_holds_440 8 rfl ?_
                      obtain ⟨fx_199, hfx_199⟩ := OW_0 ho_194
                      refine w_calli (As := [.int (zI ((k : Nat) : Int)), .int (zI ((lw : Nat) : Int))]) (rest := []) (n := 2) (a_strange (s := ((k : Nat) : Int)) (law := ((lw : Nat) : Int)) ho_194 (by omega) (by omega) ⟨by omega, by omega⟩ ⟨by omega, by omega⟩) gL_holds_X10_strange rfl rfl rfl (by decide +kernel) ⟨(Nat.le_of_ble_eq_true rfl), (Nat.le_of_ble_eq_true rfl)⟩ rfl (by omega) hfx_199 rfl (Nat.le_of_ble_eq_true rfl) ⟨Nat.zero_le _, Nat.zero_le _⟩ dL_holds_442 rfl (fun g_197 hp_198 => ?_)
                      obtain ⟨ho_200, hf_201⟩ := hp_198
                      have hfr_202 : ∀ q, 141 ≤ q → g_197 q = g q := fun q hq => (hf_201 q (by omega)).trans (hfr_196 q hq)
                      refine w_as (st' := [.int (zI (stT (S.getD k []) ((lw : Nat) : Int)))]) (sc_i (e_sta hk (by omega)) rfl) ?_
                      refine w_iconst dL_holds_445 ?_
                      refine w_icmp_lt 461 dL_holds_446 (by decide) (by omega) (by omega) (fun c_446 => ?_) (fun c_446 => ?_)
                      · exfalso; omega
                      · refine w_aload_n dL_holds_449 rfl 2 rfl ?_
                        refine w_iload_n dL_holds_450 rfl 3 rfl ?_
                        refine w_iload dL_holds_451 8 rfl ?_
                        obtain ⟨fx_205, hfx_205⟩ := OW_0 ho_200
                        refine w_calli (As := [.int (zI ((k : Nat) : Int)), .int (zI ((lw : Nat) : Int))]) (rest := []) (n := 2) (a_strange (s := ((k : Nat) : Int)) (law := ((lw : Nat) : Int)) ho_200 (by omega) (by omega) ⟨by omega, by omega⟩ ⟨by omega, by omega⟩) gL_holds_X10_strange rfl rfl rfl (by decide +kernel) ⟨(Nat.le_of_ble_eq_true rfl), (Nat.le_of_ble_eq_true rfl)⟩ rfl (by omega) hfx_205 rfl (Nat.le_of_ble_eq_true rfl) ⟨Nat.zero_le _, Nat.zero_le _⟩ dL_holds_453 rfl (fun g_203 hp_204 => ?_)
                        obtain ⟨ho_206, hf_207⟩ := hp_204
                        have hfr_208 : ∀ q, 141 ≤ q → g_203 q = g q := fun q hq => (hf_207 q (by omega)).trans (hfr_202 q hq)
                        refine w_as (st' := [.int (zI (stT (S.getD k []) ((lw : Nat) : Int)))]) (sc_i (e_sta hk (by omega)) rfl) ?_
                        refine w_iload dL_holds_456 6 rfl ?_
                        refine w_icmp_le 463 dL_holds_458 (by decide) (by omega) (by omega) (fun c_458 => ?_) (fun c_458 => ?_)
                        · refine w_iinc 8 [(15, .int (zI (((lw : Nat) : Int) + 1))), (18, .long (zJ (aCha (S.getD k []) ((lw : Nat) : Int) 1))), (16, .long (zJ (aCha (S.getD k []) ((lw : Nat) : Int) 0))), (0, .ref (B + 0)), (1, .int (zI ((k : Nat) : Int))), (3, .int (zI (((S.getD k []).length : Nat) : Int))), (4, .int (zI ((coR (S.getD k []) : Nat) : Int))), (5, .int (zI (tc (coL (S.getD k [])) (coR (S.getD k []))))), (10, .long (zJ (bh (coL (S.getD k [])) (coR (S.getD k [])))))] dL_holds_463 rfl (by decide) rfl ?_
                          refine w_goto 387 dL_holds_466 (by decide) ?_
                          refine w_sub [(0, .ref (B + 0)), (1, .int (zI ((k : Nat) : Int))), (3, .int (zI (((S.getD k []).length : Nat) : Int))), (4, .int (zI ((coR (S.getD k []) : Nat) : Int))), (5, .int (zI (tc (coL (S.getD k [])) (coR (S.getD k []))))), (10, .long (zJ (bh (coL (S.getD k [])) (coR (S.getD k []))))), (15, .int (zI (((lw : Nat) : Int) + 1)))] [3, 4, 5, 6, 7, 8, 0] rfl ?_
                          refine w_lv (lv' := [(0, .ref (B + 0)), (1, .int (zI ((k : Nat) : Int))), (3, .int (zI (((S.getD k []).length : Nat) : Int))), (4, .int (zI ((coR (S.getD k []) : Nat) : Int))), (5, .int (zI (tc (coL (S.getD k [])) (coR (S.getD k []))))), (10, .long (zJ (bh (coL (S.getD k [])) (coR (S.getD k []))))), (15, .int (zI (((lw + 1) : Nat) : Int)))]) (lc_s (lc_s (lc_s (lc_s (lc_s (lc_s (lc_i (by first | omega | with_reducible rfl) rfl))))))) ?_
                          exact ih_387 (lw + 1) g_203 ⟨ho_206, hfr_208, (by first | omega | with_reducible rfl)⟩ (by first | omega | with_reducible rfl)
                        · exfalso; omega
              · refine w_lload dL_holds_258 7 rfl ?_
                refine w_aload_n dL_holds_260 rfl 0 rfl ?_
                refine w_iload_n dL_holds_261 rfl 1 rfl ?_
                refine w_iload dL_holds_262 8 rfl ?_
                refine w_iload dL_holds_264 9 rfl ?_
                refine w_iconst dL_holds_266 ?_
                obtain ⟨fx_211, hfx_211⟩ := OW_0 ho_42
                refine w_calll (As := [.int (zI ((k : Nat) : Int)), .int (zI ((jq : Nat) : Int)), .int (zI ((an : Nat) : Int)), .int (zI 0)]) (rest := [.long (zJ (srN (nodT (S.getD k []) jq) 0 an))]) (n := 4) (a_node (s := ((k : Nat) : Int)) (j := ((jq : Nat) : Int)) (a := ((an : Nat) : Int)) (what := 0) ho_42 (by omega) (by omega) ⟨by omega, by omega⟩ ⟨by omega, by omega⟩ ⟨by omega, by omega⟩ ⟨by omega, by omega⟩) gL_holds_X10_node rfl rfl rfl (by decide +kernel) ⟨(Nat.le_of_ble_eq_true rfl), (Nat.le_of_ble_eq_true rfl)⟩ rfl (by omega) hfx_211 rfl (Nat.le_of_ble_eq_true rfl) ⟨Nat.zero_le _, Nat.zero_le _⟩ dL_holds_267 rfl (fun g_209 hp_210 => ?_)
                obtain ⟨ho_212, hf_213⟩ := hp_210
                have hfr_214 : ∀ q, 141 ≤ q → g_209 q = g q := fun q hq => (hf_213 q (by omega)).trans (hfr_43 q hq)
                have hn0 : -4 ≤ aNod (S.getD k []) ((jq : Nat) : Int) ((an : Nat) : Int) 0 ∧ aNod (S.getD k []) ((jq : Nat) : Int) ((an : Nat) : Int) 0 ≤ 1152921504606846976 := nod_rg hcc (by omega) (by omega) 0 (by omega)
                refine w_as (st' := [.long (zJ (aNod (S.getD k []) ((jq : Nat) : Int) ((an : Nat) : Int) 0)), .long (zJ (srN (nodT (S.getD k []) jq) 0 an))]) (sc_l (e_nod hk _ _ _) rfl) ?_
                refine w_lconst0 dL_holds_270 ?_
                refine w_lcmp_ge 279 dL_holds_271 dL_holds_272 (by decide) (by omega) (by omega) (fun c_271 => ?_) (fun c_271 => ?_)
                · refine w_aload_n dL_holds_279 rfl 0 rfl ?_
                  refine w_iload_n dL_holds_280 rfl 1 rfl ?_
                  refine w_iload dL_holds_281 8 rfl ?_
                  refine w_iload dL_holds_283 9 rfl ?_
                  refine w_iconst dL_holds_285 ?_
                  obtain ⟨fx_217, hfx_217⟩ := OW_0 ho_212
                  refine w_calll (As := [.int (zI ((k : Nat) : Int)), .int (zI ((jq : Nat) : Int)), .int (zI ((an : Nat) : Int)), .int (zI 0)]) (rest := [.long (zJ (srN (nodT (S.getD k []) jq) 0 an))]) (n := 4) (a_node (s := ((k : Nat) : Int)) (j := ((jq : Nat) : Int)) (a := ((an : Nat) : Int)) (what := 0) ho_212 (by omega) (by omega) ⟨by omega, by omega⟩ ⟨by omega, by omega⟩ ⟨by omega, by omega⟩ ⟨by omega, by omega⟩) gL_holds_X10_node rfl rfl rfl (by decide +kernel) ⟨(Nat.le_of_ble_eq_true rfl), (Nat.le_of_ble_eq_true rfl)⟩ rfl (by omega) hfx_217 rfl (Nat.le_of_ble_eq_true rfl) ⟨Nat.zero_le _, Nat.zero_le _⟩ dL_holds_286 rfl (fun g_215 hp_216 => ?_)
                  obtain ⟨ho_218, hf_219⟩ := hp_216
                  have hfr_220 : ∀ q, 141 ≤ q → g_215 q = g q := fun q hq => (hf_219 q (by omega)).trans (hfr_214 q hq)
                  refine w_as (st' := [.long (zJ (aNod (S.getD k []) ((jq : Nat) : Int) ((an : Nat) : Int) 0)), .long (zJ (srN (nodT (S.getD k []) jq) 0 an))]) (sc_l (e_nod hk _ _ _) rfl) ?_
                  refine w_aload_n dL_holds_289 rfl 0 rfl ?_
                  refine w_iload_n dL_holds_290 rfl 1 rfl ?_
                  refine w_iload dL_holds_291 8 rfl ?_
                  refine w_iload dL_holds_293 9 rfl ?_
                  refine w_iconst dL_holds_295 ?_
                  obtain ⟨fx_223, hfx_223⟩ := OW_0 ho_218
                  refine w_calll (As := [.int (zI ((k : Nat) : Int)), .int (zI ((jq : Nat) : Int)), .int (zI ((an : Nat) : Int)), .int (zI 1)]) (rest := [.long (zJ (aNod (S.getD k []) ((jq : Nat) : Int) ((an : Nat) : Int) 0)), .long (zJ (srN (nodT (S.getD k []) jq) 0 an))]) (n := 4) (a_node (s := ((k : Nat) : Int)) (j := ((jq : Nat) : Int)) (a := ((an : Nat) : Int)) (what := 1) ho_218 (by omega) (by omega) ⟨by omega, by omega⟩ ⟨by omega, by omega⟩ ⟨by omega, by omega⟩ ⟨by omega, by omega⟩) gL_holds_X10_node rfl rfl rfl (by decide +kernel) ⟨(Nat.le_of_ble_eq_true rfl), (Nat.le_of_ble_eq_true rfl)⟩ rfl (by omega) hfx_223 rfl (Nat.le_of_ble_eq_true rfl) ⟨Nat.zero_le _, Nat.zero_le _⟩ dL_holds_296 rfl (fun g_221 hp_222 => ?_)
                  obtain ⟨ho_224, hf_225⟩ := hp_222
                  have hfr_226 : ∀ q, 141 ≤ q → g_221 q = g q := fun q hq => (hf_225 q (by omega)).trans (hfr_220 q hq)
                  refine w_as (st' := [.long (zJ (aNod (S.getD k []) ((jq : Nat) : Int) ((an : Nat) : Int) 1)), .long (zJ (aNod (S.getD k []) ((jq : Nat) : Int) ((an : Nat) : Int) 0)), .long (zJ (srN (nodT (S.getD k []) jq) 0 an))]) (sc_l (e_nod hk _ _ _) rfl) ?_
                  refine w_lmul dL_holds_299 ?_
                  refine w_ladd dL_holds_300 ?_
                  refine w_lstore [(12, .long (zJ ((srN (nodT (S.getD k []) jq) 0 an) + ((aNod (S.getD k []) ((jq : Nat) : Int) ((an : Nat) : Int) 0) * (aNod (S.getD k []) ((jq : Nat) : Int) ((an : Nat) : Int) 1))))), (0, .ref (B + 0)), (1, .int (zI ((k : Nat) : Int))), (2, .int (zI x)), (3, .int (zI (((S.getD k []).length : Nat) : Int))), (4, .int (zI ((coR (S.getD k []) : Nat) : Int))), (5, .int (zI (tc (coL (S.getD k [])) (coR (S.getD k []))))), (10, .long (zJ (bh (coL (S.getD k [])) (coR (S.getD k []))))), (14, .int (zI ((jq : Nat) : Int))), (15, .int (zI ((an : Nat) : Int)))] dL_holds_301 (by decide) rfl ?_
                  refine w_iinc 9 [(15, .int (zI (((an : Nat) : Int) + 1))), (12, .long (zJ ((srN (nodT (S.getD k []) jq) 0 an) + ((aNod (S.getD k []) ((jq : Nat) : Int) ((an : Nat) : Int) 0) * (aNod (S.getD k []) ((jq : Nat) : Int) ((an : Nat) : Int) 1))))), (0, .ref (B + 0)), (1, .int (zI ((k : Nat) : Int))), (2, .int (zI x)), (3, .int (zI (((S.getD k []).length : Nat) : Int))), (4, .int (zI ((coR (S.getD k []) : Nat) : Int))), (5, .int (zI (tc (coL (S.getD k [])) (coR (S.getD k []))))), (10, .long (zJ (bh (coL (S.getD k [])) (coR (S.getD k []))))), (14, .int (zI ((jq : Nat) : Int)))] dL_holds_303 rfl (by decide) rfl ?_
                  refine w_goto 251 dL_holds_306 (by decide) ?_
                  refine w_sub [(0, .ref (B + 0)), (1, .int (zI ((k : Nat) : Int))), (2, .int (zI x)), (3, .int (zI (((S.getD k []).length : Nat) : Int))), (4, .int (zI ((coR (S.getD k []) : Nat) : Int))), (5, .int (zI (tc (coL (S.getD k [])) (coR (S.getD k []))))), (10, .long (zJ (bh (coL (S.getD k [])) (coR (S.getD k []))))), (12, .long (zJ ((srN (nodT (S.getD k []) jq) 0 an) + ((aNod (S.getD k []) ((jq : Nat) : Int) ((an : Nat) : Int) 0) * (aNod (S.getD k []) ((jq : Nat) : Int) ((an : Nat) : Int) 1))))), (14, .int (zI ((jq : Nat) : Int))), (15, .int (zI (((an : Nat) : Int) + 1)))] [2, 3, 4, 5, 6, 7, 8, 1, 9, 0] rfl ?_
                  refine w_lv (lv' := [(0, .ref (B + 0)), (1, .int (zI ((k : Nat) : Int))), (2, .int (zI x)), (3, .int (zI (((S.getD k []).length : Nat) : Int))), (4, .int (zI ((coR (S.getD k []) : Nat) : Int))), (5, .int (zI (tc (coL (S.getD k [])) (coR (S.getD k []))))), (10, .long (zJ (bh (coL (S.getD k [])) (coR (S.getD k []))))), (12, .long (zJ (srN (nodT (S.getD k []) jq) 0 (an + 1)))), (14, .int (zI ((jq : Nat) : Int))), (15, .int (zI (((an + 1) : Nat) : Int)))]) (lc_s (lc_s (lc_s (lc_s (lc_s (lc_s (lc_s (lc_l (by rw [srN, Nat.zero_add]; first | rw [nodT_neg (by omega)] | rw [nodT_pos (by omega)]) (lc_s (lc_i (by first | omega | with_reducible rfl) rfl)))))))))) ?_
                  exact ih_251 (an + 1) g_221 ⟨ho_224, hfr_226, (by first | omega | with_reducible rfl)⟩ (by first | omega | with_reducible rfl)
                · refine w_lconst0 dL_holds_275 ?_
                  refine w_goto 300 dL_holds_276 (by decide) ?_
                  refine w_ladd dL_holds_300 ?_
                  refine w_lstore [(12, .long (zJ ((srN (nodT (S.getD k []) jq) 0 an) + 0))), (0, .ref (B + 0)), (1, .int (zI ((k : Nat) : Int))), (2, .int (zI x)), (3, .int (zI (((S.getD k []).length : Nat) : Int))), (4, .int (zI ((coR (S.getD k []) : Nat) : Int))), (5, .int (zI (tc (coL (S.getD k [])) (coR (S.getD k []))))), (10, .long (zJ (bh (coL (S.getD k [])) (coR (S.getD k []))))), (14, .int (zI ((jq : Nat) : Int))), (15, .int (zI ((an : Nat) : Int)))] dL_holds_301 (by decide) rfl ?_
                  refine w_iinc 9 [(15, .int (zI (((an : Nat) : Int) + 1))), (12, .long (zJ ((srN (nodT (S.getD k []) jq) 0 an) + 0))), (0, .ref (B + 0)), (1, .int (zI ((k : Nat) : Int))), (2, .int (zI x)), (3, .int (zI (((S.getD k []).length : Nat) : Int))), (4, .int (zI ((coR (S.getD k []) : Nat) : Int))), (5, .int (zI (tc (coL (S.getD k [])) (coR (S.getD k []))))), (10, .long (zJ (bh (coL (S.getD k [])) (coR (S.getD k []))))), (14, .int (zI ((jq : Nat) : Int)))] dL_holds_303 rfl (by decide) rfl ?_
                  refine w_goto 251 dL_holds_306 (by decide) ?_
                  refine w_sub [(0, .ref (B + 0)), (1, .int (zI ((k : Nat) : Int))), (2, .int (zI x)), (3, .int (zI (((S.getD k []).length : Nat) : Int))), (4, .int (zI ((coR (S.getD k []) : Nat) : Int))), (5, .int (zI (tc (coL (S.getD k [])) (coR (S.getD k []))))), (10, .long (zJ (bh (coL (S.getD k [])) (coR (S.getD k []))))), (12, .long (zJ ((srN (nodT (S.getD k []) jq) 0 an) + 0))), (14, .int (zI ((jq : Nat) : Int))), (15, .int (zI (((an : Nat) : Int) + 1)))] [2, 3, 4, 5, 6, 7, 8, 1, 9, 0] rfl ?_
                  refine w_lv (lv' := [(0, .ref (B + 0)), (1, .int (zI ((k : Nat) : Int))), (2, .int (zI x)), (3, .int (zI (((S.getD k []).length : Nat) : Int))), (4, .int (zI ((coR (S.getD k []) : Nat) : Int))), (5, .int (zI (tc (coL (S.getD k [])) (coR (S.getD k []))))), (10, .long (zJ (bh (coL (S.getD k [])) (coR (S.getD k []))))), (12, .long (zJ (srN (nodT (S.getD k []) jq) 0 (an + 1)))), (14, .int (zI ((jq : Nat) : Int))), (15, .int (zI (((an + 1) : Nat) : Int)))]) (lc_s (lc_s (lc_s (lc_s (lc_s (lc_s (lc_s (lc_l (by rw [srN, Nat.zero_add]; first | rw [nodT_neg (by omega)] | rw [nodT_pos (by omega)]) (lc_s (lc_i (by first | omega | with_reducible rfl) rfl)))))))))) ?_
                  exact ih_251 (an + 1) g_209 ⟨ho_212, hfr_214, (by first | omega | with_reducible rfl)⟩ (by first | omega | with_reducible rfl)
            · exact (lex_no hcc (t := t) (by have := (hr0 (by omega)).1; omega) (fun i hi => (hr0 (by omega)).2 i (by omega))).elim
          · refine w_aload_n dL_holds_117 rfl 0 rfl ?_
            refine w_iload_n dL_holds_118 rfl 1 rfl ?_
            refine w_iload dL_holds_119 6 rfl ?_
            refine w_iload dL_holds_121 9 rfl ?_
            obtain ⟨fx_229, hfx_229⟩ := OW_0 ho_31
            refine w_calli (As := [.int (zI ((k : Nat) : Int)), .int (zI ((t : Nat) : Int)), .int (zI ((j : Nat) : Int))]) (rest := []) (n := 3) (a_table (s := ((k : Nat) : Int)) (t := ((t : Nat) : Int)) (j := ((j : Nat) : Int)) ho_31 (by omega) (by omega) ⟨by omega, by omega⟩ ⟨by omega, by omega⟩ ⟨by omega, by omega⟩) gL_holds_X10_table rfl rfl rfl (by decide +kernel) ⟨(Nat.le_of_ble_eq_true rfl), (Nat.le_of_ble_eq_true rfl)⟩ rfl (by omega) hfx_229 rfl (Nat.le_of_ble_eq_true rfl) ⟨Nat.zero_le _, Nat.zero_le _⟩ dL_holds_123 rfl (fun g_227 hp_228 => ?_)
            obtain ⟨ho_230, hf_231⟩ := hp_228
            have hfr_232 : ∀ q, 141 ≤ q → g_227 q = g q := fun q hq => (hf_231 q (by omega)).trans (hfr_32 q hq)
            have hub := tbl_le hcc htr (j := j) (by omega)
            refine w_as (st' := [.int (zI (((tbl (S.getD k []) t).getD j 0 : Nat) : Int))]) (sc_i (by rw [e_tab hk]; exact tbl_at hcc htr (by omega)) rfl) ?_
            refine w_istore [(11, .int (zI (((tbl (S.getD k []) t).getD j 0 : Nat) : Int))), (0, .ref (B + 0)), (1, .int (zI ((k : Nat) : Int))), (2, .int (zI x)), (3, .int (zI (((S.getD k []).length : Nat) : Int))), (4, .int (zI ((coR (S.getD k []) : Nat) : Int))), (5, .int (zI (tc (coL (S.getD k [])) (coR (S.getD k []))))), (7, .int (zI ((t : Nat) : Int))), (8, .int (zI (sm (fun z : Int => (((tbl (S.getD k []) t).getD z.toNat 0 : Nat) : Int)) j))), (9, .int (zI rj)), (10, .int (zI ((j : Nat) : Int)))] dL_holds_126 (by decide) rfl ?_
            refine w_iload dL_holds_128 8 rfl ?_
            refine w_iload dL_holds_130 0 rfl ?_
            refine w_iadd dL_holds_132 ?_
            refine w_istore [(8, .int (zI ((sm (fun z : Int => (((tbl (S.getD k []) t).getD z.toNat 0 : Nat) : Int)) j) + (((tbl (S.getD k []) t).getD j 0 : Nat) : Int)))), (11, .int (zI (((tbl (S.getD k []) t).getD j 0 : Nat) : Int))), (0, .ref (B + 0)), (1, .int (zI ((k : Nat) : Int))), (2, .int (zI x)), (3, .int (zI (((S.getD k []).length : Nat) : Int))), (4, .int (zI ((coR (S.getD k []) : Nat) : Int))), (5, .int (zI (tc (coL (S.getD k [])) (coR (S.getD k []))))), (7, .int (zI ((t : Nat) : Int))), (9, .int (zI rj)), (10, .int (zI ((j : Nat) : Int)))] dL_holds_133 (by decide) rfl ?_
            refine w_iload dL_holds_135 1 rfl ?_
            refine w_if_lt 153 dL_holds_137 (by decide) (by omega) (fun c_137 => ?_) (fun c_137 => ?_)
            · exfalso; omega
            · refine w_iload dL_holds_140 1 rfl ?_
              refine w_aload_n dL_holds_142 rfl 2 rfl ?_
              refine w_iload_n dL_holds_143 rfl 3 rfl ?_
              refine w_iload dL_holds_144 10 rfl ?_
              refine w_iconst dL_holds_146 ?_
              obtain ⟨fx_235, hfx_235⟩ := OW_0 ho_230
              refine w_calli (As := [.int (zI ((k : Nat) : Int)), .int (zI ((j : Nat) : Int)), .int (zI 0)]) (rest := [.int (zI (((tbl (S.getD k []) t).getD j 0 : Nat) : Int))]) (n := 3) (a_column (s := ((k : Nat) : Int)) (j := ((j : Nat) : Int)) (what := 0) ho_230 (by omega) (by omega) ⟨by omega, by omega⟩ ⟨by omega, by omega⟩ ⟨by omega, by omega⟩) gL_holds_X10_column rfl rfl rfl (by decide +kernel) ⟨(Nat.le_of_ble_eq_true rfl), (Nat.le_of_ble_eq_true rfl)⟩ rfl (by omega) hfx_235 rfl (Nat.le_of_ble_eq_true rfl) ⟨Nat.zero_le _, Nat.zero_le _⟩ dL_holds_147 rfl (fun g_233 hp_234 => ?_)
              obtain ⟨ho_236, hf_237⟩ := hp_234
              have hfr_238 : ∀ q, 141 ≤ q → g_233 q = g q := fun q hq => (hf_237 q (by omega)).trans (hfr_232 q hq)
              refine w_as (st' := [.int (zI (coT (S.getD k []) ((j : Nat) : Int))), .int (zI (((tbl (S.getD k []) t).getD j 0 : Nat) : Int))]) (sc_i (by rw [e_col hk, (col_T (by omega)).1]) rfl) ?_
              refine w_icmp_le 155 dL_holds_150 (by decide) (by omega) (by omega) (fun c_150 => ?_) (fun c_150 => ?_)
              · refine w_iload dL_holds_155 9 rfl ?_
                refine w_if_ne 178 dL_holds_157 (by decide) (by omega) (fun c_157 => ?_) (fun c_157 => ?_)
                · refine w_iload dL_holds_178 9 rfl ?_
                  refine w_if_ne 199 dL_holds_180 (by decide) (by omega) (fun c_180 => ?_) (fun c_180 => ?_)
                  · refine w_iconst dL_holds_199 ?_
                    refine w_goto 204 dL_holds_200 (by decide) ?_
                    refine w_istore [(9, .int (zI 1)), (8, .int (zI ((sm (fun z : Int => (((tbl (S.getD k []) t).getD z.toNat 0 : Nat) : Int)) j) + (((tbl (S.getD k []) t).getD j 0 : Nat) : Int)))), (11, .int (zI (((tbl (S.getD k []) t).getD j 0 : Nat) : Int))), (0, .ref (B + 0)), (1, .int (zI ((k : Nat) : Int))), (2, .int (zI x)), (3, .int (zI (((S.getD k []).length : Nat) : Int))), (4, .int (zI ((coR (S.getD k []) : Nat) : Int))), (5, .int (zI (tc (coL (S.getD k [])) (coR (S.getD k []))))), (7, .int (zI ((t : Nat) : Int))), (10, .int (zI ((j : Nat) : Int)))] dL_holds_204 (by decide) rfl ?_
                    refine w_iinc 10 [(10, .int (zI (((j : Nat) : Int) + 1))), (9, .int (zI 1)), (8, .int (zI ((sm (fun z : Int => (((tbl (S.getD k []) t).getD z.toNat 0 : Nat) : Int)) j) + (((tbl (S.getD k []) t).getD j 0 : Nat) : Int)))), (11, .int (zI (((tbl (S.getD k []) t).getD j 0 : Nat) : Int))), (0, .ref (B + 0)), (1, .int (zI ((k : Nat) : Int))), (2, .int (zI x)), (3, .int (zI (((S.getD k []).length : Nat) : Int))), (4, .int (zI ((coR (S.getD k []) : Nat) : Int))), (5, .int (zI (tc (coL (S.getD k [])) (coR (S.getD k []))))), (7, .int (zI ((t : Nat) : Int)))] dL_holds_206 rfl (by decide) rfl ?_
                    refine w_goto 111 dL_holds_209 (by decide) ?_
                    refine w_sub [(0, .ref (B + 0)), (1, .int (zI ((k : Nat) : Int))), (2, .int (zI x)), (3, .int (zI (((S.getD k []).length : Nat) : Int))), (4, .int (zI ((coR (S.getD k []) : Nat) : Int))), (5, .int (zI (tc (coL (S.getD k [])) (coR (S.getD k []))))), (7, .int (zI ((t : Nat) : Int))), (8, .int (zI ((sm (fun z : Int => (((tbl (S.getD k []) t).getD z.toNat 0 : Nat) : Int)) j) + (((tbl (S.getD k []) t).getD j 0 : Nat) : Int)))), (9, .int (zI 1)), (10, .int (zI (((j : Nat) : Int) + 1)))] [4, 5, 6, 7, 8, 9, 10, 2, 1, 0] rfl ?_
                    refine w_lv (lv' := [(0, .ref (B + 0)), (1, .int (zI ((k : Nat) : Int))), (2, .int (zI x)), (3, .int (zI (((S.getD k []).length : Nat) : Int))), (4, .int (zI ((coR (S.getD k []) : Nat) : Int))), (5, .int (zI (tc (coL (S.getD k [])) (coR (S.getD k []))))), (7, .int (zI ((t : Nat) : Int))), (8, .int (zI (sm (fun z : Int => (((tbl (S.getD k []) t).getD z.toNat 0 : Nat) : Int)) (j + 1)))), (9, .int (zI 1)), (10, .int (zI (((j + 1) : Nat) : Int)))]) (lc_s (lc_s (lc_s (lc_s (lc_s (lc_s (lc_s (lc_i (by rw [sm_1]; rfl) (lc_i (by first | omega | with_reducible rfl) (lc_i (by first | omega | with_reducible rfl) rfl)))))))))) ?_
                    exact ih_111 (j + 1) 1 g_233 ⟨ho_236, hfr_238, (by first | omega | with_reducible rfl), (by first | omega | with_reducible rfl), (fun h9 => absurd h9 (by omega))⟩ (by first | omega | with_reducible rfl)
                  · exfalso; omega
                · have ht1 : ((t + 1 : Nat) : Int) < (tc (coL (S.getD k [])) (coR (S.getD k []))) := by have := (hr0 (by omega)).1; omega
                  have hle := lex_le hcc ht1 (hr0 (by omega)).2
                  have hwb := tbl_le hcc ht1 (j := j) (by omega)
                  refine w_aload_n dL_holds_160 rfl 2 rfl ?_
                  refine w_iload_n dL_holds_161 rfl 3 rfl ?_
                  refine w_iload dL_holds_162 8 rfl ?_
                  refine w_iconst dL_holds_164 ?_
                  refine w_iadd dL_holds_165 ?_
                  refine w_iload dL_holds_166 10 rfl ?_
                  obtain ⟨fx_241, hfx_241⟩ := OW_0 ho_236
                  refine w_calli (As := [.int (zI ((k : Nat) : Int)), .int (zI (((t : Nat) : Int) + 1)), .int (zI ((j : Nat) : Int))]) (rest := []) (n := 3) (a_table (s := ((k : Nat) : Int)) (t := (((t : Nat) : Int) + 1)) (j := ((j : Nat) : Int)) ho_236 (by omega) (by omega) ⟨by omega, by omega⟩ ⟨by omega, by omega⟩ ⟨by omega, by omega⟩) gL_holds_X10_table rfl rfl rfl (by decide +kernel) ⟨(Nat.le_of_ble_eq_true rfl), (Nat.le_of_ble_eq_true rfl)⟩ rfl (by omega) hfx_241 rfl (Nat.le_of_ble_eq_true rfl) ⟨Nat.zero_le _, Nat.zero_le _⟩ dL_holds_168 rfl (fun g_239 hp_240 => ?_)
                  obtain ⟨ho_242, hf_243⟩ := hp_240
                  have hfr_244 : ∀ q, 141 ≤ q → g_239 q = g q := fun q hq => (hf_243 q (by omega)).trans (hfr_238 q hq)
                  refine w_as (st' := [.int (zI (((tbl (S.getD k []) (t + 1)).getD j 0 : Nat) : Int))]) (sc_i (by rw [e_tab hk]; exact tbl_at hcc ht1 (by omega)) rfl) ?_
                  refine w_iload dL_holds_171 1 rfl ?_
                  refine w_icmp_ge 178 dL_holds_173 (by decide) (by omega) (by omega) (fun c_173 => ?_) (fun c_173 => ?_)
                  · refine w_iload dL_holds_178 9 rfl ?_
                    refine w_if_ne 199 dL_holds_180 (by decide) (by omega) (fun c_180 => ?_) (fun c_180 => ?_)
                    · exfalso; omega
                    · refine w_aload_n dL_holds_183 rfl 2 rfl ?_
                      refine w_iload_n dL_holds_184 rfl 3 rfl ?_
                      refine w_iload dL_holds_185 8 rfl ?_
                      refine w_iconst dL_holds_187 ?_
                      refine w_iadd dL_holds_188 ?_
                      refine w_iload dL_holds_189 10 rfl ?_
                      obtain ⟨fx_247, hfx_247⟩ := OW_0 ho_242
                      refine w_calli (As := [.int (zI ((k : Nat) : Int)), .int (zI (((t : Nat) : Int) + 1)), .int (zI ((j : Nat) : Int))]) (rest := []) (n := 3) (a_table (s := ((k : Nat) : Int)) (t := (((t : Nat) : Int) + 1)) (j := ((j : Nat) : Int)) ho_242 (by omega) (by omega) ⟨by omega, by omega⟩ ⟨by omega, by omega⟩ ⟨by omega, by omega⟩) gL_holds_X10_table rfl rfl rfl (by decide +kernel) ⟨(Nat.le_of_ble_eq_true rfl), (Nat.le_of_ble_eq_true rfl)⟩ rfl (by omega) hfx_247 rfl (Nat.le_of_ble_eq_true rfl) ⟨Nat.zero_le _, Nat.zero_le _⟩ dL_holds_191 rfl (fun g_245 hp_246 => ?_)
                      obtain ⟨ho_248, hf_249⟩ := hp_246
                      have hfr_250 : ∀ q, 141 ≤ q → g_245 q = g q := fun q hq => (hf_249 q (by omega)).trans (hfr_244 q hq)
                      refine w_as (st' := [.int (zI (((tbl (S.getD k []) (t + 1)).getD j 0 : Nat) : Int))]) (sc_i (by rw [e_tab hk]; exact tbl_at hcc ht1 (by omega)) rfl) ?_
                      refine w_iload dL_holds_194 1 rfl ?_
                      refine w_icmp_le 203 dL_holds_196 (by decide) (by omega) (by omega) (fun c_196 => ?_) (fun c_196 => ?_)
                      · refine w_iconst dL_holds_203 ?_
                        refine w_istore [(9, .int (zI 0)), (8, .int (zI ((sm (fun z : Int => (((tbl (S.getD k []) t).getD z.toNat 0 : Nat) : Int)) j) + (((tbl (S.getD k []) t).getD j 0 : Nat) : Int)))), (11, .int (zI (((tbl (S.getD k []) t).getD j 0 : Nat) : Int))), (0, .ref (B + 0)), (1, .int (zI ((k : Nat) : Int))), (2, .int (zI x)), (3, .int (zI (((S.getD k []).length : Nat) : Int))), (4, .int (zI ((coR (S.getD k []) : Nat) : Int))), (5, .int (zI (tc (coL (S.getD k [])) (coR (S.getD k []))))), (7, .int (zI ((t : Nat) : Int))), (10, .int (zI ((j : Nat) : Int)))] dL_holds_204 (by decide) rfl ?_
                        refine w_iinc 10 [(10, .int (zI (((j : Nat) : Int) + 1))), (9, .int (zI 0)), (8, .int (zI ((sm (fun z : Int => (((tbl (S.getD k []) t).getD z.toNat 0 : Nat) : Int)) j) + (((tbl (S.getD k []) t).getD j 0 : Nat) : Int)))), (11, .int (zI (((tbl (S.getD k []) t).getD j 0 : Nat) : Int))), (0, .ref (B + 0)), (1, .int (zI ((k : Nat) : Int))), (2, .int (zI x)), (3, .int (zI (((S.getD k []).length : Nat) : Int))), (4, .int (zI ((coR (S.getD k []) : Nat) : Int))), (5, .int (zI (tc (coL (S.getD k [])) (coR (S.getD k []))))), (7, .int (zI ((t : Nat) : Int)))] dL_holds_206 rfl (by decide) rfl ?_
                        refine w_goto 111 dL_holds_209 (by decide) ?_
                        refine w_sub [(0, .ref (B + 0)), (1, .int (zI ((k : Nat) : Int))), (2, .int (zI x)), (3, .int (zI (((S.getD k []).length : Nat) : Int))), (4, .int (zI ((coR (S.getD k []) : Nat) : Int))), (5, .int (zI (tc (coL (S.getD k [])) (coR (S.getD k []))))), (7, .int (zI ((t : Nat) : Int))), (8, .int (zI ((sm (fun z : Int => (((tbl (S.getD k []) t).getD z.toNat 0 : Nat) : Int)) j) + (((tbl (S.getD k []) t).getD j 0 : Nat) : Int)))), (9, .int (zI 0)), (10, .int (zI (((j : Nat) : Int) + 1)))] [4, 5, 6, 7, 8, 9, 10, 2, 1, 0] rfl ?_
                        refine w_lv (lv' := [(0, .ref (B + 0)), (1, .int (zI ((k : Nat) : Int))), (2, .int (zI x)), (3, .int (zI (((S.getD k []).length : Nat) : Int))), (4, .int (zI ((coR (S.getD k []) : Nat) : Int))), (5, .int (zI (tc (coL (S.getD k [])) (coR (S.getD k []))))), (7, .int (zI ((t : Nat) : Int))), (8, .int (zI (sm (fun z : Int => (((tbl (S.getD k []) t).getD z.toNat 0 : Nat) : Int)) (j + 1)))), (9, .int (zI 0)), (10, .int (zI (((j + 1) : Nat) : Int)))]) (lc_s (lc_s (lc_s (lc_s (lc_s (lc_s (lc_s (lc_i (by rw [sm_1]; rfl) (lc_i (by first | omega | with_reducible rfl) (lc_i (by first | omega | with_reducible rfl) rfl)))))))))) ?_
                        exact ih_111 (j + 1) 0 g_245 ⟨ho_248, hfr_250, (by first | omega | with_reducible rfl), (by first | omega | with_reducible rfl), (fun _ => ⟨(hr0 (by omega)).1, seen_y (hr0 (by omega)).2 (by omega)⟩)⟩ (by first | omega | with_reducible rfl)
                      · refine w_iconst dL_holds_199 ?_
                        refine w_goto 204 dL_holds_200 (by decide) ?_
                        refine w_istore [(9, .int (zI 1)), (8, .int (zI ((sm (fun z : Int => (((tbl (S.getD k []) t).getD z.toNat 0 : Nat) : Int)) j) + (((tbl (S.getD k []) t).getD j 0 : Nat) : Int)))), (11, .int (zI (((tbl (S.getD k []) t).getD j 0 : Nat) : Int))), (0, .ref (B + 0)), (1, .int (zI ((k : Nat) : Int))), (2, .int (zI x)), (3, .int (zI (((S.getD k []).length : Nat) : Int))), (4, .int (zI ((coR (S.getD k []) : Nat) : Int))), (5, .int (zI (tc (coL (S.getD k [])) (coR (S.getD k []))))), (7, .int (zI ((t : Nat) : Int))), (10, .int (zI ((j : Nat) : Int)))] dL_holds_204 (by decide) rfl ?_
                        refine w_iinc 10 [(10, .int (zI (((j : Nat) : Int) + 1))), (9, .int (zI 1)), (8, .int (zI ((sm (fun z : Int => (((tbl (S.getD k []) t).getD z.toNat 0 : Nat) : Int)) j) + (((tbl (S.getD k []) t).getD j 0 : Nat) : Int)))), (11, .int (zI (((tbl (S.getD k []) t).getD j 0 : Nat) : Int))), (0, .ref (B + 0)), (1, .int (zI ((k : Nat) : Int))), (2, .int (zI x)), (3, .int (zI (((S.getD k []).length : Nat) : Int))), (4, .int (zI ((coR (S.getD k []) : Nat) : Int))), (5, .int (zI (tc (coL (S.getD k [])) (coR (S.getD k []))))), (7, .int (zI ((t : Nat) : Int)))] dL_holds_206 rfl (by decide) rfl ?_
                        refine w_goto 111 dL_holds_209 (by decide) ?_
                        refine w_sub [(0, .ref (B + 0)), (1, .int (zI ((k : Nat) : Int))), (2, .int (zI x)), (3, .int (zI (((S.getD k []).length : Nat) : Int))), (4, .int (zI ((coR (S.getD k []) : Nat) : Int))), (5, .int (zI (tc (coL (S.getD k [])) (coR (S.getD k []))))), (7, .int (zI ((t : Nat) : Int))), (8, .int (zI ((sm (fun z : Int => (((tbl (S.getD k []) t).getD z.toNat 0 : Nat) : Int)) j) + (((tbl (S.getD k []) t).getD j 0 : Nat) : Int)))), (9, .int (zI 1)), (10, .int (zI (((j : Nat) : Int) + 1)))] [4, 5, 6, 7, 8, 9, 10, 2, 1, 0] rfl ?_
                        refine w_lv (lv' := [(0, .ref (B + 0)), (1, .int (zI ((k : Nat) : Int))), (2, .int (zI x)), (3, .int (zI (((S.getD k []).length : Nat) : Int))), (4, .int (zI ((coR (S.getD k []) : Nat) : Int))), (5, .int (zI (tc (coL (S.getD k [])) (coR (S.getD k []))))), (7, .int (zI ((t : Nat) : Int))), (8, .int (zI (sm (fun z : Int => (((tbl (S.getD k []) t).getD z.toNat 0 : Nat) : Int)) (j + 1)))), (9, .int (zI 1)), (10, .int (zI (((j + 1) : Nat) : Int)))]) (lc_s (lc_s (lc_s (lc_s (lc_s (lc_s (lc_s (lc_i (by rw [sm_1]; rfl) (lc_i (by first | omega | with_reducible rfl) (lc_i (by first | omega | with_reducible rfl) rfl)))))))))) ?_
                        exact ih_111 (j + 1) 1 g_245 ⟨ho_248, hfr_250, (by first | omega | with_reducible rfl), (by first | omega | with_reducible rfl), (fun h9 => absurd h9 (by omega))⟩ (by first | omega | with_reducible rfl)
                  · exfalso; omega
              · exfalso; omega
      · refine w_aload_n dL_holds_53 rfl 0 rfl ?_
        refine w_iload_n dL_holds_54 rfl 1 rfl ?_
        refine w_iload dL_holds_55 6 rfl ?_
        refine w_iload dL_holds_57 7 rfl ?_
        obtain ⟨fx_253, hfx_253⟩ := OW_0 ho_26
        refine w_calli (As := [.int (zI ((k : Nat) : Int)), .int (zI (aRan (S.getD k []))), .int (zI ((j : Nat) : Int))]) (rest := []) (n := 3) (a_table (s := ((k : Nat) : Int)) (t := (aRan (S.getD k []))) (j := ((j : Nat) : Int)) ho_26 (by omega) (by omega) ⟨by omega, by omega⟩ ⟨by omega, by omega⟩ ⟨by omega, by omega⟩) gL_holds_X10_table rfl rfl rfl (by decide +kernel) ⟨(Nat.le_of_ble_eq_true rfl), (Nat.le_of_ble_eq_true rfl)⟩ rfl (by omega) hfx_253 rfl (Nat.le_of_ble_eq_true rfl) ⟨Nat.zero_le _, Nat.zero_le _⟩ dL_holds_59 rfl (fun g_251 hp_252 => ?_)
        obtain ⟨ho_254, hf_255⟩ := hp_252
        have hfr_256 : ∀ q, 141 ≤ q → g_251 q = g q := fun q hq => (hf_255 q (by omega)).trans (hfr_27 q hq)
        refine w_as (st' := [.int (zI (coX (S.getD k []) ((j : Nat) : Int)))]) (sc_i (by rw [e_tab hk]; exact tab_seen hcc (by omega)) rfl) ?_
        refine w_aload_n dL_holds_62 rfl 0 rfl ?_
        refine w_iload_n dL_holds_63 rfl 1 rfl ?_
        refine w_iload dL_holds_64 7 rfl ?_
        refine w_iconst dL_holds_66 ?_
        obtain ⟨fx_259, hfx_259⟩ := OW_0 ho_254
        refine w_calli (As := [.int (zI ((k : Nat) : Int)), .int (zI ((j : Nat) : Int)), .int (zI 1)]) (rest := [.int (zI (coX (S.getD k []) ((j : Nat) : Int)))]) (n := 3) (a_column (s := ((k : Nat) : Int)) (j := ((j : Nat) : Int)) (what := 1) ho_254 (by omega) (by omega) ⟨by omega, by omega⟩ ⟨by omega, by omega⟩ ⟨by omega, by omega⟩) gL_holds_X10_column rfl rfl rfl (by decide +kernel) ⟨(Nat.le_of_ble_eq_true rfl), (Nat.le_of_ble_eq_true rfl)⟩ rfl (by omega) hfx_259 rfl (Nat.le_of_ble_eq_true rfl) ⟨Nat.zero_le _, Nat.zero_le _⟩ dL_holds_67 rfl (fun g_257 hp_258 => ?_)
        obtain ⟨ho_260, hf_261⟩ := hp_258
        have hfr_262 : ∀ q, 141 ≤ q → g_257 q = g q := fun q hq => (hf_261 q (by omega)).trans (hfr_256 q hq)
        refine w_as (st' := [.int (zI (coX (S.getD k []) ((j : Nat) : Int))), .int (zI (coX (S.getD k []) ((j : Nat) : Int)))]) (sc_i (by rw [e_col hk, (col_T (by omega)).2]) rfl) ?_
        refine w_icmp_eqS 75 dL_holds_70 (by decide) ?_
        refine w_iinc 7 [(7, .int (zI (((j : Nat) : Int) + 1))), (0, .ref (B + 0)), (1, .int (zI ((k : Nat) : Int))), (2, .int (zI x)), (3, .int (zI (((S.getD k []).length : Nat) : Int))), (4, .int (zI ((coR (S.getD k []) : Nat) : Int))), (5, .int (zI (tc (coL (S.getD k [])) (coR (S.getD k []))))), (6, .int (zI (aRan (S.getD k []))))] dL_holds_75 rfl (by decide) rfl ?_
        refine w_goto 47 dL_holds_78 (by decide) ?_
        refine w_sub [(0, .ref (B + 0)), (1, .int (zI ((k : Nat) : Int))), (2, .int (zI x)), (3, .int (zI (((S.getD k []).length : Nat) : Int))), (4, .int (zI ((coR (S.getD k []) : Nat) : Int))), (5, .int (zI (tc (coL (S.getD k [])) (coR (S.getD k []))))), (6, .int (zI (aRan (S.getD k [])))), (7, .int (zI (((j : Nat) : Int) + 1)))] [1, 2, 3, 4, 5, 6, 7, 0] rfl ?_
        refine w_lv (lv' := [(0, .ref (B + 0)), (1, .int (zI ((k : Nat) : Int))), (2, .int (zI x)), (3, .int (zI (((S.getD k []).length : Nat) : Int))), (4, .int (zI ((coR (S.getD k []) : Nat) : Int))), (5, .int (zI (tc (coL (S.getD k [])) (coR (S.getD k []))))), (6, .int (zI (aRan (S.getD k [])))), (7, .int (zI (((j + 1) : Nat) : Int)))]) (lc_s (lc_s (lc_s (lc_s (lc_s (lc_s (lc_s (lc_i (by first | omega | with_reducible rfl) rfl)))))))) ?_
        exact ih_47 (j + 1) g_257 ⟨ho_260, hfr_262, (by first | omega | with_reducible rfl)⟩ (by first | omega | with_reducible rfl)
    · exfalso; omega

