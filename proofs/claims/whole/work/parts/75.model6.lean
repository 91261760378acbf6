/-! ===== the model: told anew ===== -/
theorem set_self {S : St} {k : Nat} {c : List Co} (hk : k < S.length) (h : S.getD k [] = c) : S.set k c = S := by
  apply List.ext_getElem?
  intro i
  rw [List.getElem?_set]
  by_cases hi : k = i
  · subst hi
    rw [List.getD_eq_getElem?_getD, List.getElem?_eq_getElem hk] at h
    rw [if_pos rfl, if_pos hk, List.getElem?_eq_getElem hk, ← h]
    rfl
  · rw [if_neg hi]
theorem ER_MC {f : Int → Int} {S : St} {k : Nat} {c : List Co} (h : ER f (S.set k c)) (hk : k < S.length) : MC f k c := by
  have h1 := h.2 k (by rw [List.length_set]; exact hk)
  rw [setD_st hk, if_pos rfl] at h1
  exact h1
theorem ER_up2 {f : Int → Int} {S : St} {k : Nat} {c : List Co} {j v : Int} (h : ER f (S.set k c)) (hk : k < S.length) (hj : 0 ≤ j ∧ j < c.length) : ER (uZ f (4 + 15 * ((k : Nat) : Int) + 3 * j + 1) v) (S.set k (upX c j v)) := by
  have h1 := ER_upX (v := v) h (by rw [List.length_set]; exact hk) (by rw [setD_st hk, if_pos rfl]) hj
  rw [List.set_set] at h1
  exact h1
set_option maxHeartbeats 4000000 in
set_option maxRecDepth 100000 in
theorem m_n_X11_write {l : Launch} {D : va_G} {cy : Nat → ClassId} {B N : Nat} {g : Nat → va_E} {cg sp va o0 tn aw mw fw ls gs sn sw kr : Int} {n : Nat} {Lm : Int → Int} {x : Int} (hm : vM cy B g 141 cg ((n : Nat) : Int) sp va o0 tn aw mw fw ls gs sn sw kr) (htx : vIA cy B g 145 200 Lm) (hN : 160 ≤ N) (hn : n ≤ 200) (h_x : -2147483648 ≤ x ∧ x < 2147483648) (hb : x < 32 ∨ 126 < x) : CTi l yX11_write wsX11_write (rmo 1 22) D cy B N g [.ref (B + 141), .int (zI x)] (-1) (fun g' => g' = g) := by
  refine WW_of (cc := cX11_write) (maxL := 2) (ret := (some .int)) (own := RX11) (by decide) rfl rfl (Nat.le_of_ble_eq_true rfl) rfl ?_
  intro pp ee ss mm bl me co hmn
  refine w_iload_n dX11_write_0 rfl 1 rfl ?_
  refine w_bipush dX11_write_1 (by decide) ?_
  refine w_bipush dX11_write_3 (by decide) ?_
  refine w_calliS (As := [.int (zI x), .int (zI 32), .int (zI 126)]) (rest := []) (n := 3) (c_X11_in (by first | omega | with_reducible rfl) (by first | omega | with_reducible rfl) (by first | omega | with_reducible rfl)) gX11_write_X11_in rfl rfl rfl (by decide +kernel) ⟨Nat.le_of_ble_eq_true rfl, Nat.le_of_ble_eq_true rfl⟩ rfl (Nat.le_of_ble_eq_true rfl) ⟨Nat.zero_le _, Nat.zero_le _⟩ dX11_write_5 rfl (fun g_1 hp_2 => ?_)
  subst g_1
  refine w_ifneB 13 dX11_write_8 (by decide) (fun c_8 => ?_) (fun c_8 => ?_)
  · exfalso; omega
  · refine w_iconst dX11_write_11 ?_
    exact w_iret dX11_write_12 rfl (by first | with_reducible rfl | omega | (split <;> omega)) rfl
set_option maxHeartbeats 4000000 in
set_option maxRecDepth 100000 in
theorem m_f_X11_write {l : Launch} {D : va_G} {cy : Nat → ClassId} {B N : Nat} {g : Nat → va_E} {cg sp va o0 tn aw mw fw ls gs sn sw kr : Int} {n : Nat} {Lm : Int → Int} {x : Int} (hm : vM cy B g 141 cg ((n : Nat) : Int) sp va o0 tn aw mw fw ls gs sn sw kr) (htx : vIA cy B g 145 200 Lm) (hN : 160 ≤ N) (hn : n ≤ 200) (h_x : -2147483648 ≤ x ∧ x < 2147483648) (hb : 32 ≤ x ∧ x ≤ 126) (hf : n = 200) : CTi l yX11_write wsX11_write (rmo 1 22) D cy B N g [.ref (B + 141), .int (zI x)] (-3) (fun g' => g' = g) := by
  refine WW_of (cc := cX11_write) (maxL := 2) (ret := (some .int)) (own := RX11) (by decide) rfl rfl (Nat.le_of_ble_eq_true rfl) rfl ?_
  intro pp ee ss mm bl me co hmn
  refine w_iload_n dX11_write_0 rfl 1 rfl ?_
  refine w_bipush dX11_write_1 (by decide) ?_
  refine w_bipush dX11_write_3 (by decide) ?_
  refine w_calliS (As := [.int (zI x), .int (zI 32), .int (zI 126)]) (rest := []) (n := 3) (c_X11_in (by first | omega | with_reducible rfl) (by first | omega | with_reducible rfl) (by first | omega | with_reducible rfl)) gX11_write_X11_in rfl rfl rfl (by decide +kernel) ⟨Nat.le_of_ble_eq_true rfl, Nat.le_of_ble_eq_true rfl⟩ rfl (Nat.le_of_ble_eq_true rfl) ⟨Nat.zero_le _, Nat.zero_le _⟩ dX11_write_5 rfl (fun g_1 hp_2 => ?_)
  subst g_1
  refine w_ifneB 13 dX11_write_8 (by decide) (fun c_8 => ?_) (fun c_8 => ?_)
  · refine w_aload_n dX11_write_13 rfl 0 rfl ?_
    refine w_get (i := 5) (T := TX11) (NF := 32) 141 (by first | omega | with_reducible rfl) hm rfl (fun _ h => (List.mem_cons_of_mem _ (List.mem_append_right _ h))) (by decide) (List.mem_of_getElem? (i := 1) rfl) rfl dX11_write_14 ?_
    refine w_sipush dX11_write_17 (by decide) ?_
    refine w_icmp_ne 26 dX11_write_20 (by decide) (by first | omega | with_reducible rfl) (by first | omega | with_reducible rfl) (fun c_20 => ?_) (fun c_20 => ?_)
    · exfalso; omega
    · refine w_bipush dX11_write_23 (by decide) ?_
      exact w_iret dX11_write_25 rfl (by first | with_reducible rfl | omega | (split <;> omega)) rfl
  · exfalso; omega
set_option maxHeartbeats 4000000 in
set_option maxRecDepth 100000 in
theorem m_y_X11_write {l : Launch} {D : va_G} {cy : Nat → ClassId} {B N : Nat} {g : Nat → va_E} {cg sp va o0 tn aw mw fw ls gs sn sw kr : Int} {n : Nat} {Lm : Int → Int} {x : Int} (hm : vM cy B g 141 cg ((n : Nat) : Int) sp va o0 tn aw mw fw ls gs sn sw kr) (htx : vIA cy B g 145 200 Lm) (hN : 160 ≤ N) (hn : n ≤ 200) (h_x : -2147483648 ≤ x ∧ x < 2147483648) (hb : 32 ≤ x ∧ x ≤ 126) (hf : n < 200) : CTi l yX11_write wsX11_write (rmo 1 22) D cy B N g [.ref (B + 141), .int (zI x)] (((n + 1) : Nat) : Int) (fun g' => vM cy B g' 141 cg (((n + 1) : Nat) : Int) sp va o0 tn aw mw fw ls gs sn sw kr ∧ vIA cy B g' 145 200 (uZ Lm ((n : Nat) : Int) x) ∧ (∀ q, (q ≠ 141 ∧ q ≠ 145) → g' q = g q)) := by
  refine WW_of (cc := cX11_write) (maxL := 2) (ret := (some .int)) (own := RX11) (by decide) rfl rfl (Nat.le_of_ble_eq_true rfl) rfl ?_
  intro pp ee ss mm bl me co hmn
  have hfr_0 : ∀ q, (q ≠ 141 ∧ q ≠ 145) → g q = g q := fun _ _ => rfl
  refine w_iload_n dX11_write_0 rfl 1 rfl ?_
  refine w_bipush dX11_write_1 (by decide) ?_
  refine w_bipush dX11_write_3 (by decide) ?_
  refine w_calliS (As := [.int (zI x), .int (zI 32), .int (zI 126)]) (rest := []) (n := 3) (c_X11_in (by first | omega | with_reducible rfl) (by first | omega | with_reducible rfl) (by first | omega | with_reducible rfl)) gX11_write_X11_in rfl rfl rfl (by decide +kernel) ⟨Nat.le_of_ble_eq_true rfl, Nat.le_of_ble_eq_true rfl⟩ rfl (Nat.le_of_ble_eq_true rfl) ⟨Nat.zero_le _, Nat.zero_le _⟩ dX11_write_5 rfl (fun g_1 hp_2 => ?_)
  subst g_1
  refine w_ifneB 13 dX11_write_8 (by decide) (fun c_8 => ?_) (fun c_8 => ?_)
  · refine w_aload_n dX11_write_13 rfl 0 rfl ?_
    refine w_get (i := 5) (T := TX11) (NF := 32) 141 (by first | omega | with_reducible rfl) hm rfl (fun _ h => (List.mem_cons_of_mem _ (List.mem_append_right _ h))) (by decide) (List.mem_of_getElem? (i := 1) rfl) rfl dX11_write_14 ?_
    refine w_sipush dX11_write_17 (by decide) ?_
    refine w_icmp_ne 26 dX11_write_20 (by decide) (by first | omega | with_reducible rfl) (by first | omega | with_reducible rfl) (fun c_20 => ?_) (fun c_20 => ?_)
    · refine w_aload_n dX11_write_26 rfl 0 rfl ?_
      refine w_get (i := 4) (T := TX11) (NF := 32) 141 (by first | omega | with_reducible rfl) hm rfl (fun _ h => (List.mem_cons_of_mem _ (List.mem_append_right _ h))) (by decide) (List.mem_of_getElem? (i := 2) rfl) rfl dX11_write_27 ?_
      refine w_aload_n dX11_write_30 rfl 0 rfl ?_
      refine w_get (i := 5) (T := TX11) (NF := 32) 141 (by first | omega | with_reducible rfl) hm rfl (fun _ h => (List.mem_cons_of_mem _ (List.mem_append_right _ h))) (by decide) (List.mem_of_getElem? (i := 1) rfl) rfl dX11_write_31 ?_
      refine w_iload_n dX11_write_34 rfl 1 rfl ?_
      refine w_iast 145 (by first | omega | with_reducible rfl) htx (by first | omega | with_reducible rfl) dX11_write_35 (fun g_3 he_4 hn_5 => ?_)
      have hm_6 : vM cy B g_3 141 cg ((n : Nat) : Int) sp va o0 tn aw mw fw ls gs sn sw kr := vM_fr hm (fun q h1 h2 => hn_5 q (by omega))
      have htx_7 : vIA cy B g_3 145 200 (uZ Lm ((n : Nat) : Int) x) := he_4
      have hfr_8 : ∀ q, (q ≠ 141 ∧ q ≠ 145) → g_3 q = g q := fun q hq => (hn_5 q (by omega)).trans (hfr_0 q hq)
      refine w_aload_n dX11_write_36 rfl 0 rfl ?_
      refine w_dup dX11_write_37 rfl ?_
      refine w_get (i := 5) (T := TX11) (NF := 32) 141 (by first | omega | with_reducible rfl) hm_6 rfl (fun _ h => (List.mem_cons_of_mem _ (List.mem_append_right _ h))) (by decide) (List.mem_of_getElem? (i := 1) rfl) rfl dX11_write_38 ?_
      refine w_iconst dX11_write_41 ?_
      refine w_iadd dX11_write_42 ?_
      refine w_as (st' := [.int (zI (((n + 1) : Nat) : Int)), .ref (B + 141)]) (sc_i (by first | omega | with_reducible rfl) rfl) ?_
      refine w_put (i := 5) (T := TX11) (NF := 32) 141 (by first | omega | with_reducible rfl) hm_6 rfl (fun _ h => (List.mem_cons_of_mem _ (List.mem_append_right _ h))) tyX11 tyX11_ok nmX11 (by decide) (List.mem_of_getElem? (i := 1) rfl) rfl rfl rfl (Nat.le_of_ble_eq_true rfl) dX11_write_43 (fun g_9 he_10 hn_11 => ?_)
      have hm_12 : vM cy B g_9 141 cg (((n + 1) : Nat) : Int) sp va o0 tn aw mw fw ls gs sn sw kr := he_10
      have htx_13 : vIA cy B g_9 145 200 (uZ Lm ((n : Nat) : Int) x) := vIA_fr htx_7 (fun q h1 h2 => hn_11 q (by omega))
      have hfr_14 : ∀ q, (q ≠ 141 ∧ q ≠ 145) → g_9 q = g q := fun q hq => (hn_11 q (by omega)).trans (hfr_8 q hq)
      refine w_aload_n dX11_write_46 rfl 0 rfl ?_
      refine w_get (i := 5) (T := TX11) (NF := 32) 141 (by first | omega | with_reducible rfl) hm_12 rfl (fun _ h => (List.mem_cons_of_mem _ (List.mem_append_right _ h))) (by decide) (List.mem_of_getElem? (i := 1) rfl) rfl dX11_write_47 ?_
      exact w_iret dX11_write_50 rfl (by first | with_reducible rfl | omega | (split <;> omega)) ⟨hm_12, htx_13, hfr_14⟩
    · exfalso; omega
  · exfalso; omega

set_option maxHeartbeats 4000000 in
set_option maxRecDepth 100000 in
theorem c_X11_wipe {l : Launch} {D : va_G} {cy : Nat → ClassId} {B N : Nat} {g : Nat → va_E} {cg sp va o0 tn aw mw fw ls gs sn sw kr : Int} {n : Nat} {Lm : Int → Int} (hm : vM cy B g 141 cg ((n : Nat) : Int) sp va o0 tn aw mw fw ls gs sn sw kr) (hN : 160 ≤ N) : CTi l yX11_wipe wsX11_wipe (rmo 0 0) D cy B N g [.ref (B + 141)] ((n : Nat) : Int) (fun g' => vM cy B g' 141 cg 0 sp va o0 tn aw mw fw ls gs sn sw kr ∧ (∀ q, q ≠ 141 → g' q = g q)) := by
  refine WW_of (cc := cX11_wipe) (maxL := 2) (ret := (some .int)) (own := RX11) (by decide) rfl rfl (Nat.le_of_ble_eq_true rfl) rfl ?_
  intro pp ee ss mm bl me co hmn
  have hfr_0 : ∀ q, q ≠ 141 → g q = g q := fun _ _ => rfl
  refine w_aload_n dX11_wipe_0 rfl 0 rfl ?_
  refine w_get (i := 5) (T := TX11) (NF := 32) 141 (by first | omega | with_reducible rfl) hm rfl (fun _ h => (List.mem_cons_of_mem _ (List.mem_append_right _ h))) (by decide) (List.mem_of_getElem? (i := 1) rfl) rfl dX11_wipe_1 ?_
  refine w_istore_n [(1, .int (zI ((n : Nat) : Int))), (0, .ref (B + 141))] dX11_wipe_4 rfl (by decide) rfl ?_
  refine w_aload_n dX11_wipe_5 rfl 1 rfl ?_
  refine w_iconst dX11_wipe_6 ?_
  refine w_put (i := 5) (T := TX11) (NF := 32) 141 (by first | omega | with_reducible rfl) hm rfl (fun _ h => (List.mem_cons_of_mem _ (List.mem_append_right _ h))) tyX11 tyX11_ok nmX11 (by decide) (List.mem_of_getElem? (i := 1) rfl) rfl rfl rfl (Nat.le_of_ble_eq_true rfl) dX11_wipe_7 (fun g_1 he_2 hn_3 => ?_)
  have hm_4 : vM cy B g_1 141 cg 0 sp va o0 tn aw mw fw ls gs sn sw kr := he_2
  have hfr_5 : ∀ q, q ≠ 141 → g_1 q = g q := fun q hq => (hn_3 q (by omega)).trans (hfr_0 q hq)
  refine w_iload_n dX11_wipe_10 rfl 0 rfl ?_
  exact w_iret dX11_wipe_11 rfl (by first | with_reducible rfl | omega | (split <;> omega)) ⟨hm_4, hfr_5⟩

set_option maxHeartbeats 4000000 in
set_option maxRecDepth 100000 in
theorem c_X11_fault {l : Launch} {D : va_G} {cy : Nat → ClassId} {B N : Nat} {g : Nat → va_E} {cg sp va o0 tn aw mw fw ls gs sn sw kr : Int} {n : Nat} {Lm : Int → Int} {Rd : Int → Int} (hm : vM cy B g 141 cg ((n : Nat) : Int) sp va o0 tn aw mw fw ls gs sn sw kr) (htx : vIA cy B g 145 200 Lm) (hrd : vIA cy B g 143 49 Rd) (hN : 160 ≤ N) (hn : n ≤ 200) (hL : ∀ i : Int, 0 ≤ i → i < n → 0 < Lm i ∧ Lm i < 65536) : CTi l yX11_fault wsX11_fault (rmo 6 134) D cy B N g [.ref (B + 141)] (if (psF n Lm 200 0 []).1 < 0 then -4 else (psF n Lm 200 0 []).1) (fun g' => ∃ sp1 : Int, ∃ va1 : Int, ∃ Rd1 : Int → Int, vM cy B g' 141 cg ((n : Nat) : Int) sp1 va1 o0 tn aw mw fw ls gs sn sw kr ∧ vIA cy B g' 143 49 Rd1 ∧ (∀ q, (q ≠ 141 ∧ q ≠ 143) → g' q = g q)) := by
  refine WW_of (cc := cX11_fault) (maxL := 1) (ret := (some .int)) (own := RX11) (by decide) rfl rfl (Nat.le_of_ble_eq_true rfl) rfl ?_
  intro pp ee ss mm bl me co hmn
  have hfr_0 : ∀ q, (q ≠ 141 ∧ q ≠ 143) → g q = g q := fun _ _ => rfl
  refine w_aload_n dX11_fault_0 rfl 0 rfl ?_
  refine w_calli (As := []) (rest := []) (n := 0) (c_X11_reads hm htx hrd (by first | omega | with_reducible rfl) (by first | omega | with_reducible rfl) hL) gX11_fault_X11_reads rfl rfl rfl (by decide +kernel) ⟨Nat.le_of_ble_eq_true rfl, Nat.le_of_ble_eq_true rfl⟩ rfl (by first | omega | with_reducible rfl) hm rfl (Nat.le_of_ble_eq_true rfl) ⟨Nat.zero_le _, Nat.zero_le _⟩ dX11_fault_1 rfl (fun g_1 hp_2 => ?_)
  obtain ⟨sp1_3, va1_4, Rd1_5, hm_6, hrd_7, hfin_1, hr0_1, hf_8⟩ := hp_2
  have htx_9 : vIA cy B g_1 145 200 Lm := vIA_fr htx (fun q h1 h2 => hf_8 q (by omega))
  have hfr_10 : ∀ q, (q ≠ 141 ∧ q ≠ 143) → g_1 q = g q := fun q hq => (hf_8 q (by omega)).trans (hfr_0 q hq)
  exact w_iret dX11_fault_4 rfl (by first | with_reducible rfl | omega | (split <;> omega)) ⟨sp1_3, va1_4, Rd1_5, hm_6, hrd_7, hfr_10⟩

set_option maxHeartbeats 4000000 in
set_option maxRecDepth 100000 in
theorem m_n1_X11_lay {l : Launch} {D : va_G} {cy : Nat → ClassId} {B N : Nat} {g : Nat → va_E} {cg sp va o0 tn aw mw fw ls gs sn sw kr : Int} {n : Nat} {Lm : Int → Int} {Nw Rd : Int → Int} (hm : vM cy B g 141 cg ((n : Nat) : Int) sp va o0 tn aw mw fw ls gs sn sw kr) (hnow : vIA cy B g 142 49 Nw) (htx : vIA cy B g 145 200 Lm) (hrd : vIA cy B g 143 49 Rd) (hN : 160 ≤ N) (hn : n ≤ 200) (hL : ∀ i : Int, 0 ≤ i → i < n → 0 < Lm i ∧ Lm i < 65536) (hno : ¬ (psF n Lm 200 0 []).1 = -1) : CTi l yX11_lay wsX11_lay (rmo 6 134) D cy B N g [.ref (B + 141)] (-2) (fun g' => ∃ sp1 : Int, ∃ va1 : Int, ∃ Rd1 : Int → Int, vM cy B g' 141 cg ((n : Nat) : Int) sp1 va1 o0 tn aw mw fw ls gs sn sw kr ∧ vIA cy B g' 143 49 Rd1 ∧ (∀ q, (q ≠ 141 ∧ q ≠ 143) → g' q = g q)) := by
  refine WW_of (cc := cX11_lay) (maxL := 3) (ret := (some .int)) (own := RX11) (by decide) rfl rfl (Nat.le_of_ble_eq_true rfl) rfl ?_
  intro pp ee ss mm bl me co hmn
  have hfr_0 : ∀ q, (q ≠ 141 ∧ q ≠ 143) → g q = g q := fun _ _ => rfl
  have hpS := psF_S (n := n) (L := Lm) (f := 200) (p := 0) (S := []) (by omega) (by decide)
  refine w_aload_n dX11_lay_0 rfl 0 rfl ?_
  refine w_calli (As := []) (rest := []) (n := 0) (c_X11_reads hm htx hrd (by first | omega | with_reducible rfl) (by first | omega | with_reducible rfl) hL) gX11_lay_X11_reads rfl rfl rfl (by decide +kernel) ⟨Nat.le_of_ble_eq_true rfl, Nat.le_of_ble_eq_true rfl⟩ rfl (by first | omega | with_reducible rfl) hm rfl (Nat.le_of_ble_eq_true rfl) ⟨Nat.zero_le _, Nat.zero_le _⟩ dX11_lay_1 rfl (fun g_1 hp_2 => ?_)
  obtain ⟨sp1_3, va1_4, Rd1_5, hm_6, hrd_7, hfin_1, hr0_1, hf_8⟩ := hp_2
  have hnow_9 : vIA cy B g_1 142 49 Nw := vIA_fr hnow (fun q h1 h2 => hf_8 q (by omega))
  have htx_10 : vIA cy B g_1 145 200 Lm := vIA_fr htx (fun q h1 h2 => hf_8 q (by omega))
  have hfr_11 : ∀ q, (q ≠ 141 ∧ q ≠ 143) → g_1 q = g q := fun q hq => (hf_8 q (by omega)).trans (hfr_0 q hq)
  refine w_as (st' := [.int (zI ((psF n Lm 200 0 []).1))]) (sc_i (by rw [if_neg (by omega)]) rfl) ?_
  refine w_bipush dX11_lay_4 (by decide) ?_
  refine w_icmp_ne 22 dX11_lay_6 (by decide) (by first | omega | with_reducible rfl) (by first | omega | with_reducible rfl) (fun c_6 => ?_) (fun c_6 => ?_)
  · refine w_iconst dX11_lay_22 ?_
    refine w_istore_n [(1, .int (zI 0)), (0, .ref (B + 141))] dX11_lay_23 rfl (by decide) rfl ?_
    refine w_iconst dX11_lay_24 ?_
    refine w_istore_n [(2, .int (zI 0)), (1, .int (zI 0)), (0, .ref (B + 141))] dX11_lay_25 rfl (by decide) rfl ?_
    refine w_sub [(0, .ref (B + 141)), (1, .int (zI 0)), (2, .int (zI 0))] [2, 1, 0] rfl ?_
    refine w_lv (lv' := [(0, .ref (B + 141)), (1, .int (zI 0)), (2, .int (zI ((0 : Nat) : Int)))]) (lc_s (lc_i (by first | omega | with_reducible rfl) (lc_i (by first | omega | with_reducible rfl) rfl))) ?_
    refine w_loop1 (fun (k : Nat) => k ≤ 3) (fun (k : Nat) => 3 - k) (fun (k : Nat) => g_1) (fun (k : Nat) => [(0, .ref (B + 141)), (1, .int (zI 0)), (2, .int (zI ((k : Nat) : Int)))]) ?_ 0 (by first | omega | with_reducible rfl)
    rintro k hk ih_26
    refine w_iload_n dX11_lay_26 rfl 2 rfl ?_
    refine w_aload_n dX11_lay_27 rfl 0 rfl ?_
    refine w_get (i := 1) (T := TX11) (NF := 32) 141 (by first | omega | with_reducible rfl) hm_6 rfl (fun _ h => (List.mem_cons_of_mem _ (List.mem_append_right _ h))) (by decide) (List.mem_of_getElem? (i := 1) rfl) rfl dX11_lay_28 ?_
    refine w_iconst dX11_lay_31 ?_
    refine w_iald 143 (by first | omega | with_reducible rfl) hrd_7 (by first | omega | with_reducible rfl) dX11_lay_32 ?_
    refine w_icmp_ge 64 dX11_lay_33 (by decide) (by first | omega | with_reducible rfl) (by first | omega | with_reducible rfl) (fun c_33 => ?_) (fun c_33 => ?_)
    · refine w_iload_n dX11_lay_64 rfl 1 rfl ?_
      refine w_if_ne 71 dX11_lay_65 (by decide) (by first | omega | with_reducible rfl) (fun c_65 => ?_) (fun c_65 => ?_)
      · exfalso; omega
      · refine w_bipush dX11_lay_68 (by decide) ?_
        exact w_iret dX11_lay_70 rfl (by first | with_reducible rfl | omega | (split <;> omega)) ⟨sp1_3, va1_4, Rd1_5, hm_6, hrd_7, hfr_11⟩
    · refine w_iload_n dX11_lay_36 rfl 1 rfl ?_
      refine w_if_eq 56 dX11_lay_37 (by decide) (by first | omega | with_reducible rfl) (fun c_37 => ?_) (fun c_37 => ?_)
      · refine w_iconst dX11_lay_56 ?_
        refine w_istore_n [(1, .int (zI 0)), (0, .ref (B + 141)), (2, .int (zI ((k : Nat) : Int)))] dX11_lay_57 rfl (by decide) rfl ?_
        refine w_iinc 2 [(2, .int (zI (((k : Nat) : Int) + 1))), (1, .int (zI 0)), (0, .ref (B + 141))] dX11_lay_58 rfl (by decide) rfl ?_
        refine w_goto 26 dX11_lay_61 (by decide) ?_
        refine w_sub [(0, .ref (B + 141)), (1, .int (zI 0)), (2, .int (zI (((k : Nat) : Int) + 1)))] [2, 1, 0] rfl ?_
        refine w_lv (lv' := [(0, .ref (B + 141)), (1, .int (zI 0)), (2, .int (zI (((k + 1) : Nat) : Int)))]) (lc_s (lc_i (by first | omega | with_reducible rfl) (lc_i (by first | omega | with_reducible rfl) rfl))) ?_
        exact ih_26 (k + 1) (by first | omega | with_reducible rfl) (by first | omega | with_reducible rfl)
      · exfalso; omega
  · exfalso; omega
set_option maxHeartbeats 4000000 in
set_option maxRecDepth 100000 in
theorem m_n2_X11_lay {l : Launch} {D : va_G} {cy : Nat → ClassId} {B N : Nat} {g : Nat → va_E} {cg sp va o0 tn aw mw fw ls gs sn sw kr : Int} {n : Nat} {Lm : Int → Int} {Nw Rd : Int → Int} (hm : vM cy B g 141 cg ((n : Nat) : Int) sp va o0 tn aw mw fw ls gs sn sw kr) (hnow : vIA cy B g 142 49 Nw) (htx : vIA cy B g 145 200 Lm) (hrd : vIA cy B g 143 49 Rd) (hN : 160 ≤ N) (hn : n ≤ 200) (hL : ∀ i : Int, 0 ≤ i → i < n → 0 < Lm i ∧ Lm i < 65536) (hf : (psF n Lm 200 0 []).1 = -1) (hno : ¬ lyd (psF n Lm 200 0 []).2) : CTi l yX11_lay wsX11_lay (rmo 6 134) D cy B N g [.ref (B + 141)] (-2) (fun g' => ∃ sp1 : Int, ∃ va1 : Int, ∃ Rd1 : Int → Int, vM cy B g' 141 cg ((n : Nat) : Int) sp1 va1 o0 tn aw mw fw ls gs sn sw kr ∧ vIA cy B g' 143 49 Rd1 ∧ (∀ q, (q ≠ 141 ∧ q ≠ 143) → g' q = g q)) := by
  refine WW_of (cc := cX11_lay) (maxL := 3) (ret := (some .int)) (own := RX11) (by decide) rfl rfl (Nat.le_of_ble_eq_true rfl) rfl ?_
  intro pp ee ss mm bl me co hmn
  have hfr_0 : ∀ q, (q ≠ 141 ∧ q ≠ 143) → g q = g q := fun _ _ => rfl
  have hpS := psF_S (n := n) (L := Lm) (f := 200) (p := 0) (S := []) (by omega) (by decide)
  refine w_aload_n dX11_lay_0 rfl 0 rfl ?_
  refine w_calli (As := []) (rest := []) (n := 0) (c_X11_reads hm htx hrd (by first | omega | with_reducible rfl) (by first | omega | with_reducible rfl) hL) gX11_lay_X11_reads rfl rfl rfl (by decide +kernel) ⟨Nat.le_of_ble_eq_true rfl, Nat.le_of_ble_eq_true rfl⟩ rfl (by first | omega | with_reducible rfl) hm rfl (Nat.le_of_ble_eq_true rfl) ⟨Nat.zero_le _, Nat.zero_le _⟩ dX11_lay_1 rfl (fun g_1 hp_2 => ?_)
  obtain ⟨sp1_3, va1_4, Rd1_5, hm_6, hrd_7, hfin_1, hr0_1, hf_8⟩ := hp_2
  have hnow_9 : vIA cy B g_1 142 49 Nw := vIA_fr hnow (fun q h1 h2 => hf_8 q (by omega))
  have htx_10 : vIA cy B g_1 145 200 Lm := vIA_fr htx (fun q h1 h2 => hf_8 q (by omega))
  have hfr_11 : ∀ q, (q ≠ 141 ∧ q ≠ 143) → g_1 q = g q := fun q hq => (hf_8 q (by omega)).trans (hfr_0 q hq)
  refine w_as (st' := [.int (zI (-4))]) (sc_i (by rw [if_pos (by omega)]) rfl) ?_
  refine w_bipush dX11_lay_4 (by decide) ?_
  refine w_icmp_ne 22 dX11_lay_6 (by decide) (by first | omega | with_reducible rfl) (by first | omega | with_reducible rfl) (fun c_6 => ?_) (fun c_6 => ?_)
  · exfalso; omega
  · have hE1 := hfin_1 hf
    have hE2 := hE1.1
    refine w_aload_n dX11_lay_9 rfl 0 rfl ?_
    refine w_get (i := 1) (T := TX11) (NF := 32) 141 (by first | omega | with_reducible rfl) hm_6 rfl (fun _ h => (List.mem_cons_of_mem _ (List.mem_append_right _ h))) (by decide) (List.mem_of_getElem? (i := 1) rfl) rfl dX11_lay_10 ?_
    refine w_iconst dX11_lay_13 ?_
    refine w_iald 143 (by first | omega | with_reducible rfl) hrd_7 (by first | omega | with_reducible rfl) dX11_lay_14 ?_
    refine w_if_le 22 dX11_lay_15 (by decide) (by first | omega | with_reducible rfl) (fun c_15 => ?_) (fun c_15 => ?_)
    · refine w_iconst dX11_lay_22 ?_
      refine w_istore_n [(1, .int (zI 0)), (0, .ref (B + 141))] dX11_lay_23 rfl (by decide) rfl ?_
      refine w_iconst dX11_lay_24 ?_
      refine w_istore_n [(2, .int (zI 0)), (1, .int (zI 0)), (0, .ref (B + 141))] dX11_lay_25 rfl (by decide) rfl ?_
      refine w_sub [(0, .ref (B + 141)), (1, .int (zI 0)), (2, .int (zI 0))] [2, 1, 0] rfl ?_
      refine w_lv (lv' := [(0, .ref (B + 141)), (1, .int (zI (if 0 < (psF n Lm 200 0 []).2.length ∧ (∀ i : Nat, i < 0 → 2 ≤ ((psF n Lm 200 0 []).2.getD i []).length) then 1 else 0))), (2, .int (zI ((0 : Nat) : Int)))]) (lc_s (lc_i (by first | exact (if_pos ⟨by omega, fun i hi => absurd hi (Nat.not_lt_zero _)⟩).symm | exact (if_neg (fun q => by omega)).symm) (lc_i (by first | omega | with_reducible rfl) rfl))) ?_
      refine w_loop1 (fun (k : Nat) => k ≤ (psF n Lm 200 0 []).2.length) (fun (k : Nat) => (psF n Lm 200 0 []).2.length - k) (fun (k : Nat) => g_1) (fun (k : Nat) => [(0, .ref (B + 141)), (1, .int (zI (if 0 < (psF n Lm 200 0 []).2.length ∧ (∀ i : Nat, i < k → 2 ≤ ((psF n Lm 200 0 []).2.getD i []).length) then 1 else 0))), (2, .int (zI ((k : Nat) : Int)))]) ?_ 0 (by first | omega | with_reducible rfl)
      rintro k hk ih_26
      refine w_iload_n dX11_lay_26 rfl 2 rfl ?_
      refine w_aload_n dX11_lay_27 rfl 0 rfl ?_
      refine w_get (i := 1) (T := TX11) (NF := 32) 141 (by first | omega | with_reducible rfl) hm_6 rfl (fun _ h => (List.mem_cons_of_mem _ (List.mem_append_right _ h))) (by decide) (List.mem_of_getElem? (i := 1) rfl) rfl dX11_lay_28 ?_
      refine w_iconst dX11_lay_31 ?_
      refine w_iald 143 (by first | omega | with_reducible rfl) hrd_7 (by first | omega | with_reducible rfl) dX11_lay_32 ?_
      refine w_as (st' := [.int (zI (((psF n Lm 200 0 []).2.length : Nat) : Int)), .int (zI ((k : Nat) : Int))]) (sc_i (by omega) rfl) ?_
      refine w_icmp_ge 64 dX11_lay_33 (by decide) (by first | omega | with_reducible rfl) (by first | omega | with_reducible rfl) (fun c_33 => ?_) (fun c_33 => ?_)
      · have hks : k = (psF n Lm 200 0 []).2.length := by omega
        refine w_iload_n dX11_lay_64 rfl 1 rfl ?_
        refine w_ifneB 71 dX11_lay_65 (by decide) (fun c_65 => ?_) (fun c_65 => ?_)
        · exact absurd ⟨fun i hi => c_65.2 i (by omega), c_65.1⟩ hno
          skip
        · refine w_bipush dX11_lay_68 (by decide) ?_
          exact w_iret dX11_lay_70 rfl (by first | with_reducible rfl | omega | (split <;> omega)) ⟨sp1_3, va1_4, Rd1_5, hm_6, hrd_7, hfr_11⟩
      · have hMk := hE1.2 k (by omega)
        have hMk1 := hMk.1
        refine w_iload_n dX11_lay_36 rfl 1 rfl ?_
        refine w_ifeqB 56 dX11_lay_37 (by decide) (fun c_37 => ?_) (fun c_37 => ?_)
        · refine w_iconst dX11_lay_56 ?_
          refine w_istore_n [(1, .int (zI 0)), (0, .ref (B + 141)), (2, .int (zI ((k : Nat) : Int)))] dX11_lay_57 rfl (by decide) rfl ?_
          refine w_iinc 2 [(2, .int (zI (((k : Nat) : Int) + 1))), (1, .int (zI 0)), (0, .ref (B + 141))] dX11_lay_58 rfl (by decide) rfl ?_
          refine w_goto 26 dX11_lay_61 (by decide) ?_
          refine w_sub [(0, .ref (B + 141)), (1, .int (zI 0)), (2, .int (zI (((k : Nat) : Int) + 1)))] [2, 1, 0] rfl ?_
          refine w_lv (lv' := [(0, .ref (B + 141)), (1, .int (zI (if 0 < (psF n Lm 200 0 []).2.length ∧ (∀ i : Nat, i < (k + 1) → 2 ≤ ((psF n Lm 200 0 []).2.getD i []).length) then 1 else 0))), (2, .int (zI (((k + 1) : Nat) : Int)))]) (lc_s (lc_i (by first | exact (if_pos ⟨c_37.1, seen_y c_37.2 (by omega)⟩).symm | exact (if_neg (fun q => c_37 ⟨q.1, fun i hi => q.2 i (by omega)⟩)).symm | exact (if_neg (fun q => by have := q.2 k (by omega); omega)).symm) (lc_i (by first | omega | with_reducible rfl) rfl))) ?_
          exact ih_26 (k + 1) (by first | omega | with_reducible rfl) (by first | omega | with_reducible rfl)
        · refine w_aload_n dX11_lay_40 rfl 0 rfl ?_
          refine w_get (i := 1) (T := TX11) (NF := 32) 141 (by first | omega | with_reducible rfl) hm_6 rfl (fun _ h => (List.mem_cons_of_mem _ (List.mem_append_right _ h))) (by decide) (List.mem_of_getElem? (i := 1) rfl) rfl dX11_lay_41 ?_
          refine w_iconst dX11_lay_44 ?_
          refine w_iload_n dX11_lay_45 rfl 2 rfl ?_
          refine w_iadd dX11_lay_46 ?_
          refine w_iald 143 (by first | omega | with_reducible rfl) hrd_7 (by first | omega | with_reducible rfl) dX11_lay_47 ?_
          refine w_as (st' := [.int (zI ((((psF n Lm 200 0 []).2.getD k []).length : Nat) : Int))]) (sc_i hMk.2.1 rfl) ?_
          refine w_iconst dX11_lay_48 ?_
          refine w_icmp_le 56 dX11_lay_49 (by decide) (by first | omega | with_reducible rfl) (by first | omega | with_reducible rfl) (fun c_49 => ?_) (fun c_49 => ?_)
          · refine w_iconst dX11_lay_56 ?_
            refine w_istore_n [(1, .int (zI 0)), (0, .ref (B + 141)), (2, .int (zI ((k : Nat) : Int)))] dX11_lay_57 rfl (by decide) rfl ?_
            refine w_iinc 2 [(2, .int (zI (((k : Nat) : Int) + 1))), (1, .int (zI 0)), (0, .ref (B + 141))] dX11_lay_58 rfl (by decide) rfl ?_
            refine w_goto 26 dX11_lay_61 (by decide) ?_
            refine w_sub [(0, .ref (B + 141)), (1, .int (zI 0)), (2, .int (zI (((k : Nat) : Int) + 1)))] [2, 1, 0] rfl ?_
            refine w_lv (lv' := [(0, .ref (B + 141)), (1, .int (zI (if 0 < (psF n Lm 200 0 []).2.length ∧ (∀ i : Nat, i < (k + 1) → 2 ≤ ((psF n Lm 200 0 []).2.getD i []).length) then 1 else 0))), (2, .int (zI (((k + 1) : Nat) : Int)))]) (lc_s (lc_i (by first | exact (if_pos ⟨c_37.1, seen_y c_37.2 (by omega)⟩).symm | exact (if_neg (fun q => c_37 ⟨q.1, fun i hi => q.2 i (by omega)⟩)).symm | exact (if_neg (fun q => by have := q.2 k (by omega); omega)).symm) (lc_i (by first | omega | with_reducible rfl) rfl))) ?_
            exact ih_26 (k + 1) (by first | omega | with_reducible rfl) (by first | omega | with_reducible rfl)
          · refine w_iconst dX11_lay_52 ?_
            refine w_goto 57 dX11_lay_53 (by decide) ?_
            refine w_istore_n [(1, .int (zI 1)), (0, .ref (B + 141)), (2, .int (zI ((k : Nat) : Int)))] dX11_lay_57 rfl (by decide) rfl ?_
            refine w_iinc 2 [(2, .int (zI (((k : Nat) : Int) + 1))), (1, .int (zI 1)), (0, .ref (B + 141))] dX11_lay_58 rfl (by decide) rfl ?_
            refine w_goto 26 dX11_lay_61 (by decide) ?_
            refine w_sub [(0, .ref (B + 141)), (1, .int (zI 1)), (2, .int (zI (((k : Nat) : Int) + 1)))] [2, 1, 0] rfl ?_
            refine w_lv (lv' := [(0, .ref (B + 141)), (1, .int (zI (if 0 < (psF n Lm 200 0 []).2.length ∧ (∀ i : Nat, i < (k + 1) → 2 ≤ ((psF n Lm 200 0 []).2.getD i []).length) then 1 else 0))), (2, .int (zI (((k + 1) : Nat) : Int)))]) (lc_s (lc_i (by first | exact (if_pos ⟨c_37.1, seen_y c_37.2 (by omega)⟩).symm | exact (if_neg (fun q => c_37 ⟨q.1, fun i hi => q.2 i (by omega)⟩)).symm | exact (if_neg (fun q => by have := q.2 k (by omega); omega)).symm) (lc_i (by first | omega | with_reducible rfl) rfl))) ?_
            exact ih_26 (k + 1) (by first | omega | with_reducible rfl) (by first | omega | with_reducible rfl)
    · refine w_iconst dX11_lay_18 ?_
      refine w_goto 23 dX11_lay_19 (by decide) ?_
      refine w_istore_n [(1, .int (zI 1)), (0, .ref (B + 141))] dX11_lay_23 rfl (by decide) rfl ?_
      refine w_iconst dX11_lay_24 ?_
      refine w_istore_n [(2, .int (zI 0)), (1, .int (zI 1)), (0, .ref (B + 141))] dX11_lay_25 rfl (by decide) rfl ?_
      refine w_sub [(0, .ref (B + 141)), (1, .int (zI 1)), (2, .int (zI 0))] [2, 1, 0] rfl ?_
      refine w_lv (lv' := [(0, .ref (B + 141)), (1, .int (zI (if 0 < (psF n Lm 200 0 []).2.length ∧ (∀ i : Nat, i < 0 → 2 ≤ ((psF n Lm 200 0 []).2.getD i []).length) then 1 else 0))), (2, .int (zI ((0 : Nat) : Int)))]) (lc_s (lc_i (by first | exact (if_pos ⟨by omega, fun i hi => absurd hi (Nat.not_lt_zero _)⟩).symm | exact (if_neg (fun q => by omega)).symm) (lc_i (by first | omega | with_reducible rfl) rfl))) ?_
      refine w_loop1 (fun (k : Nat) => k ≤ (psF n Lm 200 0 []).2.length) (fun (k : Nat) => (psF n Lm 200 0 []).2.length - k) (fun (k : Nat) => g_1) (fun (k : Nat) => [(0, .ref (B + 141)), (1, .int (zI (if 0 < (psF n Lm 200 0 []).2.length ∧ (∀ i : Nat, i < k → 2 ≤ ((psF n Lm 200 0 []).2.getD i []).length) then 1 else 0))), (2, .int (zI ((k : Nat) : Int)))]) ?_ 0 (by first | omega | with_reducible rfl)
      rintro k hk ih_26
      refine w_iload_n dX11_lay_26 rfl 2 rfl ?_
      refine w_aload_n dX11_lay_27 rfl 0 rfl ?_
      refine w_get (i := 1) (T := TX11) (NF := 32) 141 (by first | omega | with_reducible rfl) hm_6 rfl (fun _ h => (List.mem_cons_of_mem _ (List.mem_append_right _ h))) (by decide) (List.mem_of_getElem? (i := 1) rfl) rfl dX11_lay_28 ?_
      refine w_iconst dX11_lay_31 ?_
      refine w_iald 143 (by first | omega | with_reducible rfl) hrd_7 (by first | omega | with_reducible rfl) dX11_lay_32 ?_
      refine w_as (st' := [.int (zI (((psF n Lm 200 0 []).2.length : Nat) : Int)), .int (zI ((k : Nat) : Int))]) (sc_i (by omega) rfl) ?_
      refine w_icmp_ge 64 dX11_lay_33 (by decide) (by first | omega | with_reducible rfl) (by first | omega | with_reducible rfl) (fun c_33 => ?_) (fun c_33 => ?_)
      · have hks : k = (psF n Lm 200 0 []).2.length := by omega
        refine w_iload_n dX11_lay_64 rfl 1 rfl ?_
        refine w_ifneB 71 dX11_lay_65 (by decide) (fun c_65 => ?_) (fun c_65 => ?_)
        · exact absurd ⟨fun i hi => c_65.2 i (by omega), c_65.1⟩ hno
          skip
        · refine w_bipush dX11_lay_68 (by decide) ?_
          exact w_iret dX11_lay_70 rfl (by first | with_reducible rfl | omega | (split <;> omega)) ⟨sp1_3, va1_4, Rd1_5, hm_6, hrd_7, hfr_11⟩
      · have hMk := hE1.2 k (by omega)
        have hMk1 := hMk.1
        refine w_iload_n dX11_lay_36 rfl 1 rfl ?_
        refine w_ifeqB 56 dX11_lay_37 (by decide) (fun c_37 => ?_) (fun c_37 => ?_)
        · refine w_iconst dX11_lay_56 ?_
          refine w_istore_n [(1, .int (zI 0)), (0, .ref (B + 141)), (2, .int (zI ((k : Nat) : Int)))] dX11_lay_57 rfl (by decide) rfl ?_
          refine w_iinc 2 [(2, .int (zI (((k : Nat) : Int) + 1))), (1, .int (zI 0)), (0, .ref (B + 141))] dX11_lay_58 rfl (by decide) rfl ?_
          refine w_goto 26 dX11_lay_61 (by decide) ?_
          refine w_sub [(0, .ref (B + 141)), (1, .int (zI 0)), (2, .int (zI (((k : Nat) : Int) + 1)))] [2, 1, 0] rfl ?_
          refine w_lv (lv' := [(0, .ref (B + 141)), (1, .int (zI (if 0 < (psF n Lm 200 0 []).2.length ∧ (∀ i : Nat, i < (k + 1) → 2 ≤ ((psF n Lm 200 0 []).2.getD i []).length) then 1 else 0))), (2, .int (zI (((k + 1) : Nat) : Int)))]) (lc_s (lc_i (by first | exact (if_pos ⟨c_37.1, seen_y c_37.2 (by omega)⟩).symm | exact (if_neg (fun q => c_37 ⟨q.1, fun i hi => q.2 i (by omega)⟩)).symm | exact (if_neg (fun q => by have := q.2 k (by omega); omega)).symm) (lc_i (by first | omega | with_reducible rfl) rfl))) ?_
          exact ih_26 (k + 1) (by first | omega | with_reducible rfl) (by first | omega | with_reducible rfl)
        · refine w_aload_n dX11_lay_40 rfl 0 rfl ?_
          refine w_get (i := 1) (T := TX11) (NF := 32) 141 (by first | omega | with_reducible rfl) hm_6 rfl (fun _ h => (List.mem_cons_of_mem _ (List.mem_append_right _ h))) (by decide) (List.mem_of_getElem? (i := 1) rfl) rfl dX11_lay_41 ?_
          refine w_iconst dX11_lay_44 ?_
          refine w_iload_n dX11_lay_45 rfl 2 rfl ?_
          refine w_iadd dX11_lay_46 ?_
          refine w_iald 143 (by first | omega | with_reducible rfl) hrd_7 (by first | omega | with_reducible rfl) dX11_lay_47 ?_
          refine w_as (st' := [.int (zI ((((psF n Lm 200 0 []).2.getD k []).length : Nat) : Int))]) (sc_i hMk.2.1 rfl) ?_
          refine w_iconst dX11_lay_48 ?_
          refine w_icmp_le 56 dX11_lay_49 (by decide) (by first | omega | with_reducible rfl) (by first | omega | with_reducible rfl) (fun c_49 => ?_) (fun c_49 => ?_)
          · refine w_iconst dX11_lay_56 ?_
            refine w_istore_n [(1, .int (zI 0)), (0, .ref (B + 141)), (2, .int (zI ((k : Nat) : Int)))] dX11_lay_57 rfl (by decide) rfl ?_
            refine w_iinc 2 [(2, .int (zI (((k : Nat) : Int) + 1))), (1, .int (zI 0)), (0, .ref (B + 141))] dX11_lay_58 rfl (by decide) rfl ?_
            refine w_goto 26 dX11_lay_61 (by decide) ?_
            refine w_sub [(0, .ref (B + 141)), (1, .int (zI 0)), (2, .int (zI (((k : Nat) : Int) + 1)))] [2, 1, 0] rfl ?_
            refine w_lv (lv' := [(0, .ref (B + 141)), (1, .int (zI (if 0 < (psF n Lm 200 0 []).2.length ∧ (∀ i : Nat, i < (k + 1) → 2 ≤ ((psF n Lm 200 0 []).2.getD i []).length) then 1 else 0))), (2, .int (zI (((k + 1) : Nat) : Int)))]) (lc_s (lc_i (by first | exact (if_pos ⟨c_37.1, seen_y c_37.2 (by omega)⟩).symm | exact (if_neg (fun q => c_37 ⟨q.1, fun i hi => q.2 i (by omega)⟩)).symm | exact (if_neg (fun q => by have := q.2 k (by omega); omega)).symm) (lc_i (by first | omega | with_reducible rfl) rfl))) ?_
            exact ih_26 (k + 1) (by first | omega | with_reducible rfl) (by first | omega | with_reducible rfl)
          · refine w_iconst dX11_lay_52 ?_
            refine w_goto 57 dX11_lay_53 (by decide) ?_
            refine w_istore_n [(1, .int (zI 1)), (0, .ref (B + 141)), (2, .int (zI ((k : Nat) : Int)))] dX11_lay_57 rfl (by decide) rfl ?_
            refine w_iinc 2 [(2, .int (zI (((k : Nat) : Int) + 1))), (1, .int (zI 1)), (0, .ref (B + 141))] dX11_lay_58 rfl (by decide) rfl ?_
            refine w_goto 26 dX11_lay_61 (by decide) ?_
            refine w_sub [(0, .ref (B + 141)), (1, .int (zI 1)), (2, .int (zI (((k : Nat) : Int) + 1)))] [2, 1, 0] rfl ?_
            refine w_lv (lv' := [(0, .ref (B + 141)), (1, .int (zI (if 0 < (psF n Lm 200 0 []).2.length ∧ (∀ i : Nat, i < (k + 1) → 2 ≤ ((psF n Lm 200 0 []).2.getD i []).length) then 1 else 0))), (2, .int (zI (((k + 1) : Nat) : Int)))]) (lc_s (lc_i (by first | exact (if_pos ⟨c_37.1, seen_y c_37.2 (by omega)⟩).symm | exact (if_neg (fun q => c_37 ⟨q.1, fun i hi => q.2 i (by omega)⟩)).symm | exact (if_neg (fun q => by have := q.2 k (by omega); omega)).symm) (lc_i (by first | omega | with_reducible rfl) rfl))) ?_
            exact ih_26 (k + 1) (by first | omega | with_reducible rfl) (by first | omega | with_reducible rfl)
set_option maxHeartbeats 4000000 in
set_option maxRecDepth 100000 in
theorem m_y_X11_lay {l : Launch} {D : va_G} {cy : Nat → ClassId} {B N : Nat} {g : Nat → va_E} {cg sp va o0 tn aw mw fw ls gs sn sw kr : Int} {n : Nat} {Lm : Int → Int} {Nw Rd : Int → Int} (hm : vM cy B g 141 cg ((n : Nat) : Int) sp va o0 tn aw mw fw ls gs sn sw kr) (hnow : vIA cy B g 142 49 Nw) (htx : vIA cy B g 145 200 Lm) (hrd : vIA cy B g 143 49 Rd) (hN : 160 ≤ N) (hn : n ≤ 200) (hL : ∀ i : Int, 0 ≤ i → i < n → 0 < Lm i ∧ Lm i < 65536) (hf : (psF n Lm 200 0 []).1 = -1) (hly : lyd (psF n Lm 200 0 []).2) : CTi l yX11_lay wsX11_lay (rmo 6 134) D cy B N g [.ref (B + 141)] (((psF n Lm 200 0 []).2.length : Nat) : Int) (fun g' => ∃ sp1 : Int, ∃ va1 : Int, ∃ Nw1 : Int → Int, ∃ Rd1 : Int → Int, vM cy B g' 141 0 ((n : Nat) : Int) sp1 va1 o0 tn aw mw fw ls gs sn sw kr ∧ vIA cy B g' 142 49 Nw1 ∧ vIA cy B g' 143 49 Rd1 ∧ (ER Nw1 (psF n Lm 200 0 []).2) ∧ (∀ q, (q ≠ 141 ∧ q ≠ 142 ∧ q ≠ 143) → g' q = g q)) := by
  refine WW_of (cc := cX11_lay) (maxL := 3) (ret := (some .int)) (own := RX11) (by decide) rfl rfl (Nat.le_of_ble_eq_true rfl) rfl ?_
  intro pp ee ss mm bl me co hmn
  have hfr_0 : ∀ q, (q ≠ 141 ∧ q ≠ 142 ∧ q ≠ 143) → g q = g q := fun _ _ => rfl
  have hpS := psF_S (n := n) (L := Lm) (f := 200) (p := 0) (S := []) (by omega) (by decide)
  refine w_aload_n dX11_lay_0 rfl 0 rfl ?_
  refine w_calli (As := []) (rest := []) (n := 0) (c_X11_reads hm htx hrd (by first | omega | with_reducible rfl) (by first | omega | with_reducible rfl) hL) gX11_lay_X11_reads rfl rfl rfl (by decide +kernel) ⟨Nat.le_of_ble_eq_true rfl, Nat.le_of_ble_eq_true rfl⟩ rfl (by first | omega | with_reducible rfl) hm rfl (Nat.le_of_ble_eq_true rfl) ⟨Nat.zero_le _, Nat.zero_le _⟩ dX11_lay_1 rfl (fun g_1 hp_2 => ?_)
  obtain ⟨sp1_3, va1_4, Rd1_5, hm_6, hrd_7, hfin_1, hr0_1, hf_8⟩ := hp_2
  have hnow_9 : vIA cy B g_1 142 49 Nw := vIA_fr hnow (fun q h1 h2 => hf_8 q (by omega))
  have htx_10 : vIA cy B g_1 145 200 Lm := vIA_fr htx (fun q h1 h2 => hf_8 q (by omega))
  have hfr_11 : ∀ q, (q ≠ 141 ∧ q ≠ 142 ∧ q ≠ 143) → g_1 q = g q := fun q hq => (hf_8 q (by omega)).trans (hfr_0 q hq)
  refine w_as (st' := [.int (zI (-4))]) (sc_i (by rw [if_pos (by omega)]) rfl) ?_
  refine w_bipush dX11_lay_4 (by decide) ?_
  refine w_icmp_ne 22 dX11_lay_6 (by decide) (by first | omega | with_reducible rfl) (by first | omega | with_reducible rfl) (fun c_6 => ?_) (fun c_6 => ?_)
  · exfalso; omega
  · have hE1 := hfin_1 hf
    have hE2 := hE1.1
    refine w_aload_n dX11_lay_9 rfl 0 rfl ?_
    refine w_get (i := 1) (T := TX11) (NF := 32) 141 (by first | omega | with_reducible rfl) hm_6 rfl (fun _ h => (List.mem_cons_of_mem _ (List.mem_append_right _ h))) (by decide) (List.mem_of_getElem? (i := 1) rfl) rfl dX11_lay_10 ?_
    refine w_iconst dX11_lay_13 ?_
    refine w_iald 143 (by first | omega | with_reducible rfl) hrd_7 (by first | omega | with_reducible rfl) dX11_lay_14 ?_
    refine w_if_le 22 dX11_lay_15 (by decide) (by first | omega | with_reducible rfl) (fun c_15 => ?_) (fun c_15 => ?_)
    · refine w_iconst dX11_lay_22 ?_
      refine w_istore_n [(1, .int (zI 0)), (0, .ref (B + 141))] dX11_lay_23 rfl (by decide) rfl ?_
      refine w_iconst dX11_lay_24 ?_
      refine w_istore_n [(2, .int (zI 0)), (1, .int (zI 0)), (0, .ref (B + 141))] dX11_lay_25 rfl (by decide) rfl ?_
      refine w_sub [(0, .ref (B + 141)), (1, .int (zI 0)), (2, .int (zI 0))] [2, 1, 0] rfl ?_
      refine w_lv (lv' := [(0, .ref (B + 141)), (1, .int (zI (if 0 < (psF n Lm 200 0 []).2.length ∧ (∀ i : Nat, i < 0 → 2 ≤ ((psF n Lm 200 0 []).2.getD i []).length) then 1 else 0))), (2, .int (zI ((0 : Nat) : Int)))]) (lc_s (lc_i (by first | exact (if_pos ⟨by omega, fun i hi => absurd hi (Nat.not_lt_zero _)⟩).symm | exact (if_neg (fun q => by omega)).symm) (lc_i (by first | omega | with_reducible rfl) rfl))) ?_
      refine w_loop1 (fun (k : Nat) => k ≤ (psF n Lm 200 0 []).2.length) (fun (k : Nat) => (psF n Lm 200 0 []).2.length - k) (fun (k : Nat) => g_1) (fun (k : Nat) => [(0, .ref (B + 141)), (1, .int (zI (if 0 < (psF n Lm 200 0 []).2.length ∧ (∀ i : Nat, i < k → 2 ≤ ((psF n Lm 200 0 []).2.getD i []).length) then 1 else 0))), (2, .int (zI ((k : Nat) : Int)))]) ?_ 0 (by first | omega | with_reducible rfl)
      rintro k hk ih_26
      refine w_iload_n dX11_lay_26 rfl 2 rfl ?_
      refine w_aload_n dX11_lay_27 rfl 0 rfl ?_
      refine w_get (i := 1) (T := TX11) (NF := 32) 141 (by first | omega | with_reducible rfl) hm_6 rfl (fun _ h => (List.mem_cons_of_mem _ (List.mem_append_right _ h))) (by decide) (List.mem_of_getElem? (i := 1) rfl) rfl dX11_lay_28 ?_
      refine w_iconst dX11_lay_31 ?_
      refine w_iald 143 (by first | omega | with_reducible rfl) hrd_7 (by first | omega | with_reducible rfl) dX11_lay_32 ?_
      refine w_as (st' := [.int (zI (((psF n Lm 200 0 []).2.length : Nat) : Int)), .int (zI ((k : Nat) : Int))]) (sc_i (by omega) rfl) ?_
      refine w_icmp_ge 64 dX11_lay_33 (by decide) (by first | omega | with_reducible rfl) (by first | omega | with_reducible rfl) (fun c_33 => ?_) (fun c_33 => ?_)
      · have hks : k = (psF n Lm 200 0 []).2.length := by omega
        refine w_iload_n dX11_lay_64 rfl 1 rfl ?_
        refine w_ifneB 71 dX11_lay_65 (by decide) (fun c_65 => ?_) (fun c_65 => ?_)
        · refine w_aload_n dX11_lay_71 rfl 0 rfl ?_
          refine w_callv (As := []) (rest := []) (n := 0) (c_X11_takes hm_6 hnow_9 hrd_7 (by first | omega | with_reducible rfl)) gX11_lay_X11_takes rfl rfl rfl (by decide +kernel) ⟨Nat.le_of_ble_eq_true rfl, Nat.le_of_ble_eq_true rfl⟩ rfl (by first | omega | with_reducible rfl) hm_6 rfl (Nat.le_of_ble_eq_true rfl) ⟨Nat.zero_le _, Nat.zero_le _⟩ dX11_lay_72 rfl (fun g_12 hp_13 => ?_)
          obtain ⟨Nw1_14, hm_15, hnow_16, hz_72, hf_17⟩ := hp_13
          have htx_18 : vIA cy B g_12 145 200 Lm := vIA_fr htx_10 (fun q h1 h2 => hf_17 q (by omega))
          have hrd_19 : vIA cy B g_12 143 49 Rd1_5 := vIA_fr hrd_7 (fun q h1 h2 => hf_17 q (by omega))
          have hfr_20 : ∀ q, (q ≠ 141 ∧ q ≠ 142 ∧ q ≠ 143) → g_12 q = g q := fun q hq => (hf_17 q (by omega)).trans (hfr_11 q hq)
          refine w_aload_n dX11_lay_75 rfl 0 rfl ?_
          refine w_get (i := 0) (T := TX11) (NF := 32) 141 (by first | omega | with_reducible rfl) hm_15 rfl (fun _ h => (List.mem_cons_of_mem _ (List.mem_append_right _ h))) (by decide) (List.mem_of_getElem? (i := 2) rfl) rfl dX11_lay_76 ?_
          refine w_iconst dX11_lay_79 ?_
          refine w_iald 142 (by first | omega | with_reducible rfl) hnow_16 (by first | omega | with_reducible rfl) dX11_lay_80 ?_
          exact w_iret dX11_lay_81 rfl (by rw [hz_72 0 (by omega) (by omega)]; exact hE2.1) ⟨sp1_3, va1_4, Nw1_14, Rd1_5, hm_15, hnow_16, hrd_19, (ER_congr hE1 hz_72), hfr_20⟩
        · exact absurd ⟨hly.2, fun i hi => hly.1 i (by omega)⟩ c_65
      · have hMk := hE1.2 k (by omega)
        have hMk1 := hMk.1
        refine w_iload_n dX11_lay_36 rfl 1 rfl ?_
        refine w_ifeqB 56 dX11_lay_37 (by decide) (fun c_37 => ?_) (fun c_37 => ?_)
        · refine w_iconst dX11_lay_56 ?_
          refine w_istore_n [(1, .int (zI 0)), (0, .ref (B + 141)), (2, .int (zI ((k : Nat) : Int)))] dX11_lay_57 rfl (by decide) rfl ?_
          refine w_iinc 2 [(2, .int (zI (((k : Nat) : Int) + 1))), (1, .int (zI 0)), (0, .ref (B + 141))] dX11_lay_58 rfl (by decide) rfl ?_
          refine w_goto 26 dX11_lay_61 (by decide) ?_
          refine w_sub [(0, .ref (B + 141)), (1, .int (zI 0)), (2, .int (zI (((k : Nat) : Int) + 1)))] [2, 1, 0] rfl ?_
          refine w_lv (lv' := [(0, .ref (B + 141)), (1, .int (zI (if 0 < (psF n Lm 200 0 []).2.length ∧ (∀ i : Nat, i < (k + 1) → 2 ≤ ((psF n Lm 200 0 []).2.getD i []).length) then 1 else 0))), (2, .int (zI (((k + 1) : Nat) : Int)))]) (lc_s (lc_i (by first | exact (if_pos ⟨c_37.1, seen_y c_37.2 (by omega)⟩).symm | exact (if_neg (fun q => c_37 ⟨q.1, fun i hi => q.2 i (by omega)⟩)).symm | exact (if_neg (fun q => by have := q.2 k (by omega); omega)).symm) (lc_i (by first | omega | with_reducible rfl) rfl))) ?_
          exact ih_26 (k + 1) (by first | omega | with_reducible rfl) (by first | omega | with_reducible rfl)
        · refine w_aload_n dX11_lay_40 rfl 0 rfl ?_
          refine w_get (i := 1) (T := TX11) (NF := 32) 141 (by first | omega | with_reducible rfl) hm_6 rfl (fun _ h => (List.mem_cons_of_mem _ (List.mem_append_right _ h))) (by decide) (List.mem_of_getElem? (i := 1) rfl) rfl dX11_lay_41 ?_
          refine w_iconst dX11_lay_44 ?_
          refine w_iload_n dX11_lay_45 rfl 2 rfl ?_
          refine w_iadd dX11_lay_46 ?_
          refine w_iald 143 (by first | omega | with_reducible rfl) hrd_7 (by first | omega | with_reducible rfl) dX11_lay_47 ?_
          refine w_as (st' := [.int (zI ((((psF n Lm 200 0 []).2.getD k []).length : Nat) : Int))]) (sc_i hMk.2.1 rfl) ?_
          refine w_iconst dX11_lay_48 ?_
          refine w_icmp_le 56 dX11_lay_49 (by decide) (by first | omega | with_reducible rfl) (by first | omega | with_reducible rfl) (fun c_49 => ?_) (fun c_49 => ?_)
          · refine w_iconst dX11_lay_56 ?_
            refine w_istore_n [(1, .int (zI 0)), (0, .ref (B + 141)), (2, .int (zI ((k : Nat) : Int)))] dX11_lay_57 rfl (by decide) rfl ?_
            refine w_iinc 2 [(2, .int (zI (((k : Nat) : Int) + 1))), (1, .int (zI 0)), (0, .ref (B + 141))] dX11_lay_58 rfl (by decide) rfl ?_
            refine w_goto 26 dX11_lay_61 (by decide) ?_
            refine w_sub [(0, .ref (B + 141)), (1, .int (zI 0)), (2, .int (zI (((k : Nat) : Int) + 1)))] [2, 1, 0] rfl ?_
            refine w_lv (lv' := [(0, .ref (B + 141)), (1, .int (zI (if 0 < (psF n Lm 200 0 []).2.length ∧ (∀ i : Nat, i < (k + 1) → 2 ≤ ((psF n Lm 200 0 []).2.getD i []).length) then 1 else 0))), (2, .int (zI (((k + 1) : Nat) : Int)))]) (lc_s (lc_i (by first | exact (if_pos ⟨c_37.1, seen_y c_37.2 (by omega)⟩).symm | exact (if_neg (fun q => c_37 ⟨q.1, fun i hi => q.2 i (by omega)⟩)).symm | exact (if_neg (fun q => by have := q.2 k (by omega); omega)).symm) (lc_i (by first | omega | with_reducible rfl) rfl))) ?_
            exact ih_26 (k + 1) (by first | omega | with_reducible rfl) (by first | omega | with_reducible rfl)
          · refine w_iconst dX11_lay_52 ?_
            refine w_goto 57 dX11_lay_53 (by decide) ?_
            refine w_istore_n [(1, .int (zI 1)), (0, .ref (B + 141)), (2, .int (zI ((k : Nat) : Int)))] dX11_lay_57 rfl (by decide) rfl ?_
            refine w_iinc 2 [(2, .int (zI (((k : Nat) : Int) + 1))), (1, .int (zI 1)), (0, .ref (B + 141))] dX11_lay_58 rfl (by decide) rfl ?_
            refine w_goto 26 dX11_lay_61 (by decide) ?_
            refine w_sub [(0, .ref (B + 141)), (1, .int (zI 1)), (2, .int (zI (((k : Nat) : Int) + 1)))] [2, 1, 0] rfl ?_
            refine w_lv (lv' := [(0, .ref (B + 141)), (1, .int (zI (if 0 < (psF n Lm 200 0 []).2.length ∧ (∀ i : Nat, i < (k + 1) → 2 ≤ ((psF n Lm 200 0 []).2.getD i []).length) then 1 else 0))), (2, .int (zI (((k + 1) : Nat) : Int)))]) (lc_s (lc_i (by first | exact (if_pos ⟨c_37.1, seen_y c_37.2 (by omega)⟩).symm | exact (if_neg (fun q => c_37 ⟨q.1, fun i hi => q.2 i (by omega)⟩)).symm | exact (if_neg (fun q => by have := q.2 k (by omega); omega)).symm) (lc_i (by first | omega | with_reducible rfl) rfl))) ?_
            exact ih_26 (k + 1) (by first | omega | with_reducible rfl) (by first | omega | with_reducible rfl)
    · refine w_iconst dX11_lay_18 ?_
      refine w_goto 23 dX11_lay_19 (by decide) ?_
      refine w_istore_n [(1, .int (zI 1)), (0, .ref (B + 141))] dX11_lay_23 rfl (by decide) rfl ?_
      refine w_iconst dX11_lay_24 ?_
      refine w_istore_n [(2, .int (zI 0)), (1, .int (zI 1)), (0, .ref (B + 141))] dX11_lay_25 rfl (by decide) rfl ?_
      refine w_sub [(0, .ref (B + 141)), (1, .int (zI 1)), (2, .int (zI 0))] [2, 1, 0] rfl ?_
      refine w_lv (lv' := [(0, .ref (B + 141)), (1, .int (zI (if 0 < (psF n Lm 200 0 []).2.length ∧ (∀ i : Nat, i < 0 → 2 ≤ ((psF n Lm 200 0 []).2.getD i []).length) then 1 else 0))), (2, .int (zI ((0 : Nat) : Int)))]) (lc_s (lc_i (by first | exact (if_pos ⟨by omega, fun i hi => absurd hi (Nat.not_lt_zero _)⟩).symm | exact (if_neg (fun q => by omega)).symm) (lc_i (by first | omega | with_reducible rfl) rfl))) ?_
      refine w_loop1 (fun (k : Nat) => k ≤ (psF n Lm 200 0 []).2.length) (fun (k : Nat) => (psF n Lm 200 0 []).2.length - k) (fun (k : Nat) => g_1) (fun (k : Nat) => [(0, .ref (B + 141)), (1, .int (zI (if 0 < (psF n Lm 200 0 []).2.length ∧ (∀ i : Nat, i < k → 2 ≤ ((psF n Lm 200 0 []).2.getD i []).length) then 1 else 0))), (2, .int (zI ((k : Nat) : Int)))]) ?_ 0 (by first | omega | with_reducible rfl)
      rintro k hk ih_26
      refine w_iload_n dX11_lay_26 rfl 2 rfl ?_
      refine w_aload_n dX11_lay_27 rfl 0 rfl ?_
      refine w_get (i := 1) (T := TX11) (NF := 32) 141 (by first | omega | with_reducible rfl) hm_6 rfl (fun _ h => (List.mem_cons_of_mem _ (List.mem_append_right _ h))) (by decide) (List.mem_of_getElem? (i := 1) rfl) rfl dX11_lay_28 ?_
      refine w_iconst dX11_lay_31 ?_
      refine w_iald 143 (by first | omega | with_reducible rfl) hrd_7 (by first | omega | with_reducible rfl) dX11_lay_32 ?_
      refine w_as (st' := [.int (zI (((psF n Lm 200 0 []).2.length : Nat) : Int)), .int (zI ((k : Nat) : Int))]) (sc_i (by omega) rfl) ?_
      refine w_icmp_ge 64 dX11_lay_33 (by decide) (by first | omega | with_reducible rfl) (by first | omega | with_reducible rfl) (fun c_33 => ?_) (fun c_33 => ?_)
      · have hks : k = (psF n Lm 200 0 []).2.length := by omega
        refine w_iload_n dX11_lay_64 rfl 1 rfl ?_
        refine w_ifneB 71 dX11_lay_65 (by decide) (fun c_65 => ?_) (fun c_65 => ?_)
        · refine w_aload_n dX11_lay_71 rfl 0 rfl ?_
          refine w_callv (As := []) (rest := []) (n := 0) (c_X11_takes hm_6 hnow_9 hrd_7 (by first | omega | with_reducible rfl)) gX11_lay_X11_takes rfl rfl rfl (by decide +kernel) ⟨Nat.le_of_ble_eq_true rfl, Nat.le_of_ble_eq_true rfl⟩ rfl (by first | omega | with_reducible rfl) hm_6 rfl (Nat.le_of_ble_eq_true rfl) ⟨Nat.zero_le _, Nat.zero_le _⟩ dX11_lay_72 rfl (fun g_21 hp_22 => ?_)
          obtain ⟨Nw1_23, hm_24, hnow_25, hz_72, hf_26⟩ := hp_22
          have htx_27 : vIA cy B g_21 145 200 Lm := vIA_fr htx_10 (fun q h1 h2 => hf_26 q (by omega))
          have hrd_28 : vIA cy B g_21 143 49 Rd1_5 := vIA_fr hrd_7 (fun q h1 h2 => hf_26 q (by omega))
          have hfr_29 : ∀ q, (q ≠ 141 ∧ q ≠ 142 ∧ q ≠ 143) → g_21 q = g q := fun q hq => (hf_26 q (by omega)).trans (hfr_11 q hq)
          refine w_aload_n dX11_lay_75 rfl 0 rfl ?_
          refine w_get (i := 0) (T := TX11) (NF := 32) 141 (by first | omega | with_reducible rfl) hm_24 rfl (fun _ h => (List.mem_cons_of_mem _ (List.mem_append_right _ h))) (by decide) (List.mem_of_getElem? (i := 2) rfl) rfl dX11_lay_76 ?_
          refine w_iconst dX11_lay_79 ?_
          refine w_iald 142 (by first | omega | with_reducible rfl) hnow_25 (by first | omega | with_reducible rfl) dX11_lay_80 ?_
          exact w_iret dX11_lay_81 rfl (by rw [hz_72 0 (by omega) (by omega)]; exact hE2.1) ⟨sp1_3, va1_4, Nw1_23, Rd1_5, hm_24, hnow_25, hrd_28, (ER_congr hE1 hz_72), hfr_29⟩
        · exact absurd ⟨hly.2, fun i hi => hly.1 i (by omega)⟩ c_65
      · have hMk := hE1.2 k (by omega)
        have hMk1 := hMk.1
        refine w_iload_n dX11_lay_36 rfl 1 rfl ?_
        refine w_ifeqB 56 dX11_lay_37 (by decide) (fun c_37 => ?_) (fun c_37 => ?_)
        · refine w_iconst dX11_lay_56 ?_
          refine w_istore_n [(1, .int (zI 0)), (0, .ref (B + 141)), (2, .int (zI ((k : Nat) : Int)))] dX11_lay_57 rfl (by decide) rfl ?_
          refine w_iinc 2 [(2, .int (zI (((k : Nat) : Int) + 1))), (1, .int (zI 0)), (0, .ref (B + 141))] dX11_lay_58 rfl (by decide) rfl ?_
          refine w_goto 26 dX11_lay_61 (by decide) ?_
          refine w_sub [(0, .ref (B + 141)), (1, .int (zI 0)), (2, .int (zI (((k : Nat) : Int) + 1)))] [2, 1, 0] rfl ?_
          refine w_lv (lv' := [(0, .ref (B + 141)), (1, .int (zI (if 0 < (psF n Lm 200 0 []).2.length ∧ (∀ i : Nat, i < (k + 1) → 2 ≤ ((psF n Lm 200 0 []).2.getD i []).length) then 1 else 0))), (2, .int (zI (((k + 1) : Nat) : Int)))]) (lc_s (lc_i (by first | exact (if_pos ⟨c_37.1, seen_y c_37.2 (by omega)⟩).symm | exact (if_neg (fun q => c_37 ⟨q.1, fun i hi => q.2 i (by omega)⟩)).symm | exact (if_neg (fun q => by have := q.2 k (by omega); omega)).symm) (lc_i (by first | omega | with_reducible rfl) rfl))) ?_
          exact ih_26 (k + 1) (by first | omega | with_reducible rfl) (by first | omega | with_reducible rfl)
        · refine w_aload_n dX11_lay_40 rfl 0 rfl ?_
          refine w_get (i := 1) (T := TX11) (NF := 32) 141 (by first | omega | with_reducible rfl) hm_6 rfl (fun _ h => (List.mem_cons_of_mem _ (List.mem_append_right _ h))) (by decide) (List.mem_of_getElem? (i := 1) rfl) rfl dX11_lay_41 ?_
          refine w_iconst dX11_lay_44 ?_
          refine w_iload_n dX11_lay_45 rfl 2 rfl ?_
          refine w_iadd dX11_lay_46 ?_
          refine w_iald 143 (by first | omega | with_reducible rfl) hrd_7 (by first | omega | with_reducible rfl) dX11_lay_47 ?_
          refine w_as (st' := [.int (zI ((((psF n Lm 200 0 []).2.getD k []).length : Nat) : Int))]) (sc_i hMk.2.1 rfl) ?_
          refine w_iconst dX11_lay_48 ?_
          refine w_icmp_le 56 dX11_lay_49 (by decide) (by first | omega | with_reducible rfl) (by first | omega | with_reducible rfl) (fun c_49 => ?_) (fun c_49 => ?_)
          · refine w_iconst dX11_lay_56 ?_
            refine w_istore_n [(1, .int (zI 0)), (0, .ref (B + 141)), (2, .int (zI ((k : Nat) : Int)))] dX11_lay_57 rfl (by decide) rfl ?_
            refine w_iinc 2 [(2, .int (zI (((k : Nat) : Int) + 1))), (1, .int (zI 0)), (0, .ref (B + 141))] dX11_lay_58 rfl (by decide) rfl ?_
            refine w_goto 26 dX11_lay_61 (by decide) ?_
            refine w_sub [(0, .ref (B + 141)), (1, .int (zI 0)), (2, .int (zI (((k : Nat) : Int) + 1)))] [2, 1, 0] rfl ?_
            refine w_lv (lv' := [(0, .ref (B + 141)), (1, .int (zI (if 0 < (psF n Lm 200 0 []).2.length ∧ (∀ i : Nat, i < (k + 1) → 2 ≤ ((psF n Lm 200 0 []).2.getD i []).length) then 1 else 0))), (2, .int (zI (((k + 1) : Nat) : Int)))]) (lc_s (lc_i (by first | exact (if_pos ⟨c_37.1, seen_y c_37.2 (by omega)⟩).symm | exact (if_neg (fun q => c_37 ⟨q.1, fun i hi => q.2 i (by omega)⟩)).symm | exact (if_neg (fun q => by have := q.2 k (by omega); omega)).symm) (lc_i (by first | omega | with_reducible rfl) rfl))) ?_
            exact ih_26 (k + 1) (by first | omega | with_reducible rfl) (by first | omega | with_reducible rfl)
          · refine w_iconst dX11_lay_52 ?_
            refine w_goto 57 dX11_lay_53 (by decide) ?_
            refine w_istore_n [(1, .int (zI 1)), (0, .ref (B + 141)), (2, .int (zI ((k : Nat) : Int)))] dX11_lay_57 rfl (by decide) rfl ?_
            refine w_iinc 2 [(2, .int (zI (((k : Nat) : Int) + 1))), (1, .int (zI 1)), (0, .ref (B + 141))] dX11_lay_58 rfl (by decide) rfl ?_
            refine w_goto 26 dX11_lay_61 (by decide) ?_
            refine w_sub [(0, .ref (B + 141)), (1, .int (zI 1)), (2, .int (zI (((k : Nat) : Int) + 1)))] [2, 1, 0] rfl ?_
            refine w_lv (lv' := [(0, .ref (B + 141)), (1, .int (zI (if 0 < (psF n Lm 200 0 []).2.length ∧ (∀ i : Nat, i < (k + 1) → 2 ≤ ((psF n Lm 200 0 []).2.getD i []).length) then 1 else 0))), (2, .int (zI (((k + 1) : Nat) : Int)))]) (lc_s (lc_i (by first | exact (if_pos ⟨c_37.1, seen_y c_37.2 (by omega)⟩).symm | exact (if_neg (fun q => c_37 ⟨q.1, fun i hi => q.2 i (by omega)⟩)).symm | exact (if_neg (fun q => by have := q.2 k (by omega); omega)).symm) (lc_i (by first | omega | with_reducible rfl) rfl))) ?_
            exact ih_26 (k + 1) (by first | omega | with_reducible rfl) (by first | omega | with_reducible rfl)

set_option maxHeartbeats 4000000 in
set_option maxRecDepth 100000 in
theorem m_keep_a {l : Launch} {D : va_G} {cy : Nat → ClassId} {B N : Nat} {g : Nat → va_E} {le sp va o0 tn aw mw fw ls gs sn sw kr : Int} {Nw Ps : Int → Int} {S : St} {P : List St} (hm : vM cy B g 141 ((P.length : Nat) : Int) le sp va o0 tn aw mw fw ls gs sn sw kr) (hnow : vIA cy B g 142 49 Nw) (hpa : vIA cy B g 144 294 Ps) (hN : 160 ≤ N) (hER : ER Nw S) (hPR : PR Ps P) (hP : P.length < 6) : CTv l yX11_keeps wsX11_keeps (rmo 0 0) D cy B N g [.ref (B + 141)] (fun g' => ∃ Ps1 : Int → Int, vM cy B g' 141 ((((S :: P).take 6).length : Nat) : Int) le sp va o0 tn aw mw fw ls gs sn sw kr ∧ vIA cy B g' 144 294 Ps1 ∧ (PR Ps1 ((S :: P).take 6)) ∧ (∀ q, (q ≠ 141 ∧ q ≠ 144) → g' q = g q)) := by
  refine WW_of (cc := cX11_keeps) (maxL := 2) (ret := none) (own := RX11) (by decide) rfl rfl (Nat.le_of_ble_eq_true rfl) rfl ?_
  intro pp ee ss mm bl me co hmn
  have hfr_0 : ∀ q, (q ≠ 141 ∧ q ≠ 144) → g q = g q := fun _ _ => rfl
  have htl : ((S :: P).take 6).length = P.length + 1 := by rw [List.length_take, List.length_cons]; omega
  refine w_aload_n dX11_keeps_0 rfl 0 rfl ?_
  refine w_get (i := 3) (T := TX11) (NF := 32) 141 (by first | omega | with_reducible rfl) hm rfl (fun _ h => (List.mem_cons_of_mem _ (List.mem_append_right _ h))) (by decide) (List.mem_of_getElem? (i := 1) rfl) rfl dX11_keeps_1 ?_
  refine w_bipush dX11_keeps_4 (by decide) ?_
  refine w_icmp_ne 49 dX11_keeps_6 (by decide) (by first | omega | with_reducible rfl) (by first | omega | with_reducible rfl) (fun c_6 => ?_) (fun c_6 => ?_)
  · refine w_iconst dX11_keeps_49 ?_
    refine w_istore_n [(1, .int (zI 0)), (0, .ref (B + 141))] dX11_keeps_50 rfl (by decide) rfl ?_
    refine w_sub [(0, .ref (B + 141)), (1, .int (zI 0))] [1, 0] rfl ?_
    refine w_lv (lv' := [(0, .ref (B + 141)), (1, .int (zI ((0 : Nat) : Int)))]) (lc_s (lc_i (by first | omega | with_reducible rfl) rfl)) ?_
    refine w_loop3 (fun (i : Nat) (Psj : Int → Int) (gl_1 : (Nat → va_E)) => vM cy B gl_1 141 ((P.length : Nat) : Int) le sp va o0 tn aw mw fw ls gs sn sw kr ∧ vIA cy B gl_1 142 49 Nw ∧ vIA cy B gl_1 144 294 Psj ∧ (∀ q, (q ≠ 141 ∧ q ≠ 144) → gl_1 q = g q) ∧ i ≤ 49 ∧ (∀ y : Int, 0 ≤ y → y < i → Psj (49 * ((P.length : Nat) : Int) + y) = Nw y) ∧ (∀ y : Int, 0 ≤ y → y < 49 * ((P.length : Nat) : Int) → Psj y = Ps y)) (fun (i : Nat) (Psj : Int → Int) (gl_1 : (Nat → va_E)) => 49 - i) (fun (i : Nat) (Psj : Int → Int) (gl_1 : (Nat → va_E)) => gl_1) (fun (i : Nat) (Psj : Int → Int) (gl_1 : (Nat → va_E)) => [(0, .ref (B + 141)), (1, .int (zI ((i : Nat) : Int)))]) ?_ 0 Ps g ⟨hm, hnow, hpa, hfr_0, (by first | omega | with_reducible rfl), (fun y h1 h2 => by omega), (fun y h1 h2 => rfl)⟩
    rintro i Psj gl_1 ⟨hm_2, hnow_3, hpa_4, hfr_5, hi, hz9, hz8⟩ ih_51
    refine w_iload_n dX11_keeps_51 rfl 1 rfl ?_
    refine w_bipush dX11_keeps_52 (by decide) ?_
    refine w_icmp_ge 83 dX11_keeps_54 (by decide) (by first | omega | with_reducible rfl) (by first | omega | with_reducible rfl) (fun c_54 => ?_) (fun c_54 => ?_)
    · refine w_aload_n dX11_keeps_83 rfl 0 rfl ?_
      refine w_dup dX11_keeps_84 rfl ?_
      refine w_get (i := 3) (T := TX11) (NF := 32) 141 (by first | omega | with_reducible rfl) hm_2 rfl (fun _ h => (List.mem_cons_of_mem _ (List.mem_append_right _ h))) (by decide) (List.mem_of_getElem? (i := 1) rfl) rfl dX11_keeps_85 ?_
      refine w_iconst dX11_keeps_88 ?_
      refine w_iadd dX11_keeps_89 ?_
      refine w_as (st' := [.int (zI ((((S :: P).take 6).length : Nat) : Int)), .ref (B + 141)]) (sc_i (by omega) rfl) ?_
      refine w_put (i := 3) (T := TX11) (NF := 32) 141 (by first | omega | with_reducible rfl) hm_2 rfl (fun _ h => (List.mem_cons_of_mem _ (List.mem_append_right _ h))) tyX11 tyX11_ok nmX11 (by decide) (List.mem_of_getElem? (i := 1) rfl) rfl rfl rfl (Nat.le_of_ble_eq_true rfl) dX11_keeps_90 (fun g_6 he_7 hn_8 => ?_)
      have hm_9 : vM cy B g_6 141 ((((S :: P).take 6).length : Nat) : Int) le sp va o0 tn aw mw fw ls gs sn sw kr := he_7
      have hnow_10 : vIA cy B g_6 142 49 Nw := vIA_fr hnow_3 (fun q h1 h2 => hn_8 q (by omega))
      have hpa_11 : vIA cy B g_6 144 294 Psj := vIA_fr hpa_4 (fun q h1 h2 => hn_8 q (by omega))
      have hfr_12 : ∀ q, (q ≠ 141 ∧ q ≠ 144) → g_6 q = g q := fun q hq => (hn_8 q (by omega)).trans (hfr_5 q hq)
      exact w_vret dX11_keeps_93 rfl ⟨Psj, hm_9, hpa_11, (PR_push hPR hP hER (fun y h1 h2 => hz9 y h1 (by omega)) hz8), hfr_12⟩
    · refine w_aload_n dX11_keeps_57 rfl 0 rfl ?_
      refine w_get (i := 2) (T := TX11) (NF := 32) 141 (by first | omega | with_reducible rfl) hm_2 rfl (fun _ h => (List.mem_cons_of_mem _ (List.mem_append_right _ h))) (by decide) (List.mem_of_getElem? (i := 2) rfl) rfl dX11_keeps_58 ?_
      refine w_bipush dX11_keeps_61 (by decide) ?_
      refine w_aload_n dX11_keeps_63 rfl 0 rfl ?_
      refine w_get (i := 3) (T := TX11) (NF := 32) 141 (by first | omega | with_reducible rfl) hm_2 rfl (fun _ h => (List.mem_cons_of_mem _ (List.mem_append_right _ h))) (by decide) (List.mem_of_getElem? (i := 1) rfl) rfl dX11_keeps_64 ?_
      refine w_imul dX11_keeps_67 ?_
      refine w_iload_n dX11_keeps_68 rfl 1 rfl ?_
      refine w_iadd dX11_keeps_69 ?_
      refine w_aload_n dX11_keeps_70 rfl 0 rfl ?_
      refine w_get (i := 0) (T := TX11) (NF := 32) 141 (by first | omega | with_reducible rfl) hm_2 rfl (fun _ h => (List.mem_cons_of_mem _ (List.mem_append_right _ h))) (by decide) (List.mem_of_getElem? (i := 3) rfl) rfl dX11_keeps_71 ?_
      refine w_iload_n dX11_keeps_74 rfl 1 rfl ?_
      refine w_iald 142 (by first | omega | with_reducible rfl) hnow_3 (by first | omega | with_reducible rfl) dX11_keeps_75 ?_
      refine w_iast 144 (by first | omega | with_reducible rfl) hpa_4 (by first | omega | with_reducible rfl) dX11_keeps_76 (fun g_13 he_14 hn_15 => ?_)
      have hm_16 : vM cy B g_13 141 ((P.length : Nat) : Int) le sp va o0 tn aw mw fw ls gs sn sw kr := vM_fr hm_2 (fun q h1 h2 => hn_15 q (by omega))
      have hnow_17 : vIA cy B g_13 142 49 Nw := vIA_fr hnow_3 (fun q h1 h2 => hn_15 q (by omega))
      have hpa_18 : vIA cy B g_13 144 294 (uZ Psj ((49 * ((P.length : Nat) : Int)) + ((i : Nat) : Int)) (Nw ((i : Nat) : Int))) := he_14
      have hfr_19 : ∀ q, (q ≠ 141 ∧ q ≠ 144) → g_13 q = g q := fun q hq => (hn_15 q (by omega)).trans (hfr_5 q hq)
      refine w_iinc 1 [(1, .int (zI (((i : Nat) : Int) + 1))), (0, .ref (B + 141))] dX11_keeps_77 rfl (by decide) rfl ?_
      refine w_goto 51 dX11_keeps_80 (by decide) ?_
      refine w_sub [(0, .ref (B + 141)), (1, .int (zI (((i : Nat) : Int) + 1)))] [1, 0] rfl ?_
      refine w_lv (lv' := [(0, .ref (B + 141)), (1, .int (zI (((i + 1) : Nat) : Int)))]) (lc_s (lc_i (by first | omega | with_reducible rfl) rfl)) ?_
      exact ih_51 (i + 1) (uZ Psj ((49 * ((P.length : Nat) : Int)) + ((i : Nat) : Int)) (Nw ((i : Nat) : Int))) g_13 ⟨hm_16, hnow_17, hpa_18, hfr_19, (by first | omega | with_reducible rfl), (fun y h1 h2 => by by_cases hy : y = ((i : Nat) : Int); (rw [hy, uZ_same]); (rw [uZ_ne (by omega)]; exact hz9 y h1 (by omega))), (fun y h1 h2 => by rw [uZ_ne (by omega)]; exact hz8 y h1 h2)⟩ (by first | omega | with_reducible rfl)
  · exfalso; omega
set_option maxHeartbeats 4000000 in
set_option maxRecDepth 100000 in
theorem m_keep_b {l : Launch} {D : va_G} {cy : Nat → ClassId} {B N : Nat} {g : Nat → va_E} {le sp va o0 tn aw mw fw ls gs sn sw kr : Int} {Nw Ps : Int → Int} {S : St} {P : List St} (hm : vM cy B g 141 ((P.length : Nat) : Int) le sp va o0 tn aw mw fw ls gs sn sw kr) (hnow : vIA cy B g 142 49 Nw) (hpa : vIA cy B g 144 294 Ps) (hN : 160 ≤ N) (hER : ER Nw S) (hPR : PR Ps P) (hP : P.length = 6) : CTv l yX11_keeps wsX11_keeps (rmo 0 0) D cy B N g [.ref (B + 141)] (fun g' => ∃ Ps1 : Int → Int, vM cy B g' 141 ((((S :: P).take 6).length : Nat) : Int) le sp va o0 tn aw mw fw ls gs sn sw kr ∧ vIA cy B g' 144 294 Ps1 ∧ (PR Ps1 ((S :: P).take 6)) ∧ (∀ q, (q ≠ 141 ∧ q ≠ 144) → g' q = g q)) := by
  refine WW_of (cc := cX11_keeps) (maxL := 2) (ret := none) (own := RX11) (by decide) rfl rfl (Nat.le_of_ble_eq_true rfl) rfl ?_
  intro pp ee ss mm bl me co hmn
  have hfr_0 : ∀ q, (q ≠ 141 ∧ q ≠ 144) → g q = g q := fun _ _ => rfl
  have htl : ((S :: P).take 6).length = 6 := by rw [List.length_take, List.length_cons]; omega
  refine w_aload_n dX11_keeps_0 rfl 0 rfl ?_
  refine w_get (i := 3) (T := TX11) (NF := 32) 141 (by first | omega | with_reducible rfl) hm rfl (fun _ h => (List.mem_cons_of_mem _ (List.mem_append_right _ h))) (by decide) (List.mem_of_getElem? (i := 1) rfl) rfl dX11_keeps_1 ?_
  refine w_bipush dX11_keeps_4 (by decide) ?_
  refine w_icmp_ne 49 dX11_keeps_6 (by decide) (by first | omega | with_reducible rfl) (by first | omega | with_reducible rfl) (fun c_6 => ?_) (fun c_6 => ?_)
  · exfalso; omega
  · refine w_iconst dX11_keeps_9 ?_
    refine w_istore_n [(1, .int (zI 0)), (0, .ref (B + 141))] dX11_keeps_10 rfl (by decide) rfl ?_
    refine w_sub [(0, .ref (B + 141)), (1, .int (zI 0))] [1, 0] rfl ?_
    refine w_lv (lv' := [(0, .ref (B + 141)), (1, .int (zI ((0 : Nat) : Int)))]) (lc_s (lc_i (by first | omega | with_reducible rfl) rfl)) ?_
    refine w_loop3 (fun (m : Nat) (Psi : Int → Int) (gl_1 : (Nat → va_E)) => vM cy B gl_1 141 ((P.length : Nat) : Int) le sp va o0 tn aw mw fw ls gs sn sw kr ∧ vIA cy B gl_1 142 49 Nw ∧ vIA cy B gl_1 144 294 Psi ∧ (∀ q, (q ≠ 141 ∧ q ≠ 144) → gl_1 q = g q) ∧ m ≤ 245 ∧ (∀ y : Int, (0 ≤ y ∧ y < m → Psi y = Ps (y + 49)) ∧ (m ≤ y → Psi y = Ps y))) (fun (m : Nat) (Psi : Int → Int) (gl_1 : (Nat → va_E)) => 245 - m) (fun (m : Nat) (Psi : Int → Int) (gl_1 : (Nat → va_E)) => gl_1) (fun (m : Nat) (Psi : Int → Int) (gl_1 : (Nat → va_E)) => [(0, .ref (B + 141)), (1, .int (zI ((m : Nat) : Int)))]) ?_ 0 Ps g ⟨hm, hnow, hpa, hfr_0, (by first | omega | with_reducible rfl), (fun y => ⟨fun h => by omega, fun _ => rfl⟩)⟩
    rintro m Psi gl_1 ⟨hm_2, hnow_3, hpa_4, hfr_5, hm9, hw9⟩ ih_11
    refine w_iload_n dX11_keeps_11 rfl 1 rfl ?_
    refine w_sipush dX11_keeps_12 (by decide) ?_
    refine w_icmp_ge 39 dX11_keeps_15 (by decide) (by first | omega | with_reducible rfl) (by first | omega | with_reducible rfl) (fun c_15 => ?_) (fun c_15 => ?_)
    · refine w_aload_n dX11_keeps_39 rfl 0 rfl ?_
      refine w_dup dX11_keeps_40 rfl ?_
      refine w_get (i := 3) (T := TX11) (NF := 32) 141 (by first | omega | with_reducible rfl) hm_2 rfl (fun _ h => (List.mem_cons_of_mem _ (List.mem_append_right _ h))) (by decide) (List.mem_of_getElem? (i := 1) rfl) rfl dX11_keeps_41 ?_
      refine w_iconst dX11_keeps_44 ?_
      refine w_isub dX11_keeps_45 ?_
      refine w_as (st' := [.int (zI 5), .ref (B + 141)]) (sc_i (by omega) rfl) ?_
      refine w_put (i := 3) (T := TX11) (NF := 32) 141 (by first | omega | with_reducible rfl) hm_2 rfl (fun _ h => (List.mem_cons_of_mem _ (List.mem_append_right _ h))) tyX11 tyX11_ok nmX11 (by decide) (List.mem_of_getElem? (i := 1) rfl) rfl rfl rfl (Nat.le_of_ble_eq_true rfl) dX11_keeps_46 (fun g_6 he_7 hn_8 => ?_)
      have hm_9 : vM cy B g_6 141 5 le sp va o0 tn aw mw fw ls gs sn sw kr := he_7
      have hnow_10 : vIA cy B g_6 142 49 Nw := vIA_fr hnow_3 (fun q h1 h2 => hn_8 q (by omega))
      have hpa_11 : vIA cy B g_6 144 294 Psi := vIA_fr hpa_4 (fun q h1 h2 => hn_8 q (by omega))
      have hfr_12 : ∀ q, (q ≠ 141 ∧ q ≠ 144) → g_6 q = g q := fun q hq => (hn_8 q (by omega)).trans (hfr_5 q hq)
      refine w_iconst dX11_keeps_49 ?_
      refine w_istore_n [(1, .int (zI 0)), (0, .ref (B + 141))] dX11_keeps_50 rfl (by decide) rfl ?_
      refine w_sub [(0, .ref (B + 141)), (1, .int (zI 0))] [1, 0] rfl ?_
      refine w_lv (lv' := [(0, .ref (B + 141)), (1, .int (zI ((0 : Nat) : Int)))]) (lc_s (lc_i (by first | omega | with_reducible rfl) rfl)) ?_
      refine w_loop3 (fun (i : Nat) (Psj : Int → Int) (gl_13 : (Nat → va_E)) => vM cy B gl_13 141 5 le sp va o0 tn aw mw fw ls gs sn sw kr ∧ vIA cy B gl_13 142 49 Nw ∧ vIA cy B gl_13 144 294 Psj ∧ (∀ q, (q ≠ 141 ∧ q ≠ 144) → gl_13 q = g q) ∧ i ≤ 49 ∧ (∀ y : Int, 0 ≤ y → y < i → Psj (49 * 5 + y) = Nw y) ∧ (∀ y : Int, 0 ≤ y → y < 49 * 5 → Psj y = Ps (y + 49))) (fun (i : Nat) (Psj : Int → Int) (gl_13 : (Nat → va_E)) => 49 - i) (fun (i : Nat) (Psj : Int → Int) (gl_13 : (Nat → va_E)) => gl_13) (fun (i : Nat) (Psj : Int → Int) (gl_13 : (Nat → va_E)) => [(0, .ref (B + 141)), (1, .int (zI ((i : Nat) : Int)))]) ?_ 0 Psi g_6 ⟨hm_9, hnow_10, hpa_11, hfr_12, (by first | omega | with_reducible rfl), (fun y h1 h2 => by omega), (fun y h1 h2 => (hw9 y).1 (by omega))⟩
      rintro i Psj gl_13 ⟨hm_14, hnow_15, hpa_16, hfr_17, hi, hz9, hz8⟩ ih_51
      refine w_iload_n dX11_keeps_51 rfl 1 rfl ?_
      refine w_bipush dX11_keeps_52 (by decide) ?_
      refine w_icmp_ge 83 dX11_keeps_54 (by decide) (by first | omega | with_reducible rfl) (by first | omega | with_reducible rfl) (fun c_54 => ?_) (fun c_54 => ?_)
      · refine w_aload_n dX11_keeps_83 rfl 0 rfl ?_
        refine w_dup dX11_keeps_84 rfl ?_
        refine w_get (i := 3) (T := TX11) (NF := 32) 141 (by first | omega | with_reducible rfl) hm_14 rfl (fun _ h => (List.mem_cons_of_mem _ (List.mem_append_right _ h))) (by decide) (List.mem_of_getElem? (i := 1) rfl) rfl dX11_keeps_85 ?_
        refine w_iconst dX11_keeps_88 ?_
        refine w_iadd dX11_keeps_89 ?_
        refine w_as (st' := [.int (zI ((((S :: P).take 6).length : Nat) : Int)), .ref (B + 141)]) (sc_i (by omega) rfl) ?_
        refine w_put (i := 3) (T := TX11) (NF := 32) 141 (by first | omega | with_reducible rfl) hm_14 rfl (fun _ h => (List.mem_cons_of_mem _ (List.mem_append_right _ h))) tyX11 tyX11_ok nmX11 (by decide) (List.mem_of_getElem? (i := 1) rfl) rfl rfl rfl (Nat.le_of_ble_eq_true rfl) dX11_keeps_90 (fun g_18 he_19 hn_20 => ?_)
        have hm_21 : vM cy B g_18 141 ((((S :: P).take 6).length : Nat) : Int) le sp va o0 tn aw mw fw ls gs sn sw kr := he_19
        have hnow_22 : vIA cy B g_18 142 49 Nw := vIA_fr hnow_15 (fun q h1 h2 => hn_20 q (by omega))
        have hpa_23 : vIA cy B g_18 144 294 Psj := vIA_fr hpa_16 (fun q h1 h2 => hn_20 q (by omega))
        have hfr_24 : ∀ q, (q ≠ 141 ∧ q ≠ 144) → g_18 q = g q := fun q hq => (hn_20 q (by omega)).trans (hfr_17 q hq)
        exact w_vret dX11_keeps_93 rfl ⟨Psj, hm_21, hpa_23, (PR_shift hPR hP hER (fun y h1 h2 => hz9 y h1 (by omega)) (fun y h1 h2 => hz8 y h1 (by omega))), hfr_24⟩
      · refine w_aload_n dX11_keeps_57 rfl 0 rfl ?_
        refine w_get (i := 2) (T := TX11) (NF := 32) 141 (by first | omega | with_reducible rfl) hm_14 rfl (fun _ h => (List.mem_cons_of_mem _ (List.mem_append_right _ h))) (by decide) (List.mem_of_getElem? (i := 2) rfl) rfl dX11_keeps_58 ?_
        refine w_bipush dX11_keeps_61 (by decide) ?_
        refine w_aload_n dX11_keeps_63 rfl 0 rfl ?_
        refine w_get (i := 3) (T := TX11) (NF := 32) 141 (by first | omega | with_reducible rfl) hm_14 rfl (fun _ h => (List.mem_cons_of_mem _ (List.mem_append_right _ h))) (by decide) (List.mem_of_getElem? (i := 1) rfl) rfl dX11_keeps_64 ?_
        refine w_imul dX11_keeps_67 ?_
        refine w_iload_n dX11_keeps_68 rfl 1 rfl ?_
        refine w_iadd dX11_keeps_69 ?_
        refine w_aload_n dX11_keeps_70 rfl 0 rfl ?_
        refine w_get (i := 0) (T := TX11) (NF := 32) 141 (by first | omega | with_reducible rfl) hm_14 rfl (fun _ h => (List.mem_cons_of_mem _ (List.mem_append_right _ h))) (by decide) (List.mem_of_getElem? (i := 3) rfl) rfl dX11_keeps_71 ?_
        refine w_iload_n dX11_keeps_74 rfl 1 rfl ?_
        refine w_iald 142 (by first | omega | with_reducible rfl) hnow_15 (by first | omega | with_reducible rfl) dX11_keeps_75 ?_
        refine w_iast 144 (by first | omega | with_reducible rfl) hpa_16 (by first | omega | with_reducible rfl) dX11_keeps_76 (fun g_25 he_26 hn_27 => ?_)
        have hm_28 : vM cy B g_25 141 5 le sp va o0 tn aw mw fw ls gs sn sw kr := vM_fr hm_14 (fun q h1 h2 => hn_27 q (by omega))
        have hnow_29 : vIA cy B g_25 142 49 Nw := vIA_fr hnow_15 (fun q h1 h2 => hn_27 q (by omega))
        have hpa_30 : vIA cy B g_25 144 294 (uZ Psj ((49 * 5) + ((i : Nat) : Int)) (Nw ((i : Nat) : Int))) := he_26
        have hfr_31 : ∀ q, (q ≠ 141 ∧ q ≠ 144) → g_25 q = g q := fun q hq => (hn_27 q (by omega)).trans (hfr_17 q hq)
        refine w_iinc 1 [(1, .int (zI (((i : Nat) : Int) + 1))), (0, .ref (B + 141))] dX11_keeps_77 rfl (by decide) rfl ?_
        refine w_goto 51 dX11_keeps_80 (by decide) ?_
        refine w_sub [(0, .ref (B + 141)), (1, .int (zI (((i : Nat) : Int) + 1)))] [1, 0] rfl ?_
        refine w_lv (lv' := [(0, .ref (B + 141)), (1, .int (zI (((i + 1) : Nat) : Int)))]) (lc_s (lc_i (by first | omega | with_reducible rfl) rfl)) ?_
        exact ih_51 (i + 1) (uZ Psj ((49 * 5) + ((i : Nat) : Int)) (Nw ((i : Nat) : Int))) g_25 ⟨hm_28, hnow_29, hpa_30, hfr_31, (by first | omega | with_reducible rfl), (fun y h1 h2 => by by_cases hy : y = ((i : Nat) : Int); (rw [hy, uZ_same]); (rw [uZ_ne (by omega)]; exact hz9 y h1 (by omega))), (fun y h1 h2 => by rw [uZ_ne (by omega)]; exact hz8 y h1 h2)⟩ (by first | omega | with_reducible rfl)
    · refine w_aload_n dX11_keeps_18 rfl 0 rfl ?_
      refine w_get (i := 2) (T := TX11) (NF := 32) 141 (by first | omega | with_reducible rfl) hm_2 rfl (fun _ h => (List.mem_cons_of_mem _ (List.mem_append_right _ h))) (by decide) (List.mem_of_getElem? (i := 2) rfl) rfl dX11_keeps_19 ?_
      refine w_iload_n dX11_keeps_22 rfl 1 rfl ?_
      refine w_aload_n dX11_keeps_23 rfl 0 rfl ?_
      refine w_get (i := 2) (T := TX11) (NF := 32) 141 (by first | omega | with_reducible rfl) hm_2 rfl (fun _ h => (List.mem_cons_of_mem _ (List.mem_append_right _ h))) (by decide) (List.mem_of_getElem? (i := 2) rfl) rfl dX11_keeps_24 ?_
      refine w_iload_n dX11_keeps_27 rfl 1 rfl ?_
      refine w_bipush dX11_keeps_28 (by decide) ?_
      refine w_iadd dX11_keeps_30 ?_
      refine w_iald 144 (by first | omega | with_reducible rfl) hpa_4 (by first | omega | with_reducible rfl) dX11_keeps_31 ?_
      refine w_iast 144 (by first | omega | with_reducible rfl) hpa_4 (by first | omega | with_reducible rfl) dX11_keeps_32 (fun g_32 he_33 hn_34 => ?_)
      have hm_35 : vM cy B g_32 141 ((P.length : Nat) : Int) le sp va o0 tn aw mw fw ls gs sn sw kr := vM_fr hm_2 (fun q h1 h2 => hn_34 q (by omega))
      have hnow_36 : vIA cy B g_32 142 49 Nw := vIA_fr hnow_3 (fun q h1 h2 => hn_34 q (by omega))
      have hpa_37 : vIA cy B g_32 144 294 (uZ Psi ((m : Nat) : Int) (Psi (((m : Nat) : Int) + 49))) := he_33
      have hfr_38 : ∀ q, (q ≠ 141 ∧ q ≠ 144) → g_32 q = g q := fun q hq => (hn_34 q (by omega)).trans (hfr_5 q hq)
      refine w_iinc 1 [(1, .int (zI (((m : Nat) : Int) + 1))), (0, .ref (B + 141))] dX11_keeps_33 rfl (by decide) rfl ?_
      refine w_goto 11 dX11_keeps_36 (by decide) ?_
      refine w_sub [(0, .ref (B + 141)), (1, .int (zI (((m : Nat) : Int) + 1)))] [1, 0] rfl ?_
      refine w_lv (lv' := [(0, .ref (B + 141)), (1, .int (zI (((m + 1) : Nat) : Int)))]) (lc_s (lc_i (by first | omega | with_reducible rfl) rfl)) ?_
      exact ih_11 (m + 1) (uZ Psi ((m : Nat) : Int) (Psi (((m : Nat) : Int) + 49))) g_32 ⟨hm_35, hnow_36, hpa_37, hfr_38, (by first | omega | with_reducible rfl), (fun y => ⟨fun h => by by_cases hy : y = ((m : Nat) : Int); (rw [hy, uZ_same]; exact (hw9 _).2 (by omega)); (rw [uZ_ne hy]; exact (hw9 y).1 (by omega)), fun h => by rw [uZ_ne (by omega)]; exact (hw9 y).2 (by omega)⟩)⟩ (by first | omega | with_reducible rfl)

theorem c_X11_keeps {l : Launch} {D : va_G} {cy : Nat → ClassId} {B N : Nat} {g : Nat → va_E} {le sp va o0 tn aw mw fw ls gs sn sw kr : Int} {Nw Ps : Int → Int} {S : St} {P : List St} (hm : vM cy B g 141 ((P.length : Nat) : Int) le sp va o0 tn aw mw fw ls gs sn sw kr) (hnow : vIA cy B g 142 49 Nw) (hpa : vIA cy B g 144 294 Ps) (hN : 160 ≤ N) (hER : ER Nw S) (hPR : PR Ps P) : CTv l yX11_keeps wsX11_keeps (rmo 0 0) D cy B N g [.ref (B + 141)] (fun g' => ∃ Ps1 : Int → Int, vM cy B g' 141 ((((S :: P).take 6).length : Nat) : Int) le sp va o0 tn aw mw fw ls gs sn sw kr ∧ vIA cy B g' 144 294 Ps1 ∧ (PR Ps1 ((S :: P).take 6)) ∧ (∀ q, (q ≠ 141 ∧ q ≠ 144) → g' q = g q)) := by
  by_cases h : P.length < 6
  · exact m_keep_a hm hnow hpa hN hER hPR h
  · exact m_keep_b hm hnow hpa hN hER hPR (by have := hPR.1; omega)

set_option maxHeartbeats 4000000 in
set_option maxRecDepth 100000 in
theorem m_n_X11_undo {l : Launch} {D : va_G} {cy : Nat → ClassId} {B N : Nat} {g : Nat → va_E} {le sp va o0 tn aw mw fw ls gs sn sw kr : Int} {Nw Ps : Int → Int} (hm : vM cy B g 141 0 le sp va o0 tn aw mw fw ls gs sn sw kr) (hnow : vIA cy B g 142 49 Nw) (hpa : vIA cy B g 144 294 Ps) (hN : 160 ≤ N) : CTi l yX11_undo wsX11_undo (rmo 0 0) D cy B N g [.ref (B + 141)] (-2) (fun g' => g' = g) := by
  refine WW_of (cc := cX11_undo) (maxL := 2) (ret := (some .int)) (own := RX11) (by decide) rfl rfl (Nat.le_of_ble_eq_true rfl) rfl ?_
  intro pp ee ss mm bl me co hmn
  refine w_aload_n dX11_undo_0 rfl 0 rfl ?_
  refine w_get (i := 3) (T := TX11) (NF := 32) 141 (by first | omega | with_reducible rfl) hm rfl (fun _ h => (List.mem_cons_of_mem _ (List.mem_append_right _ h))) (by decide) (List.mem_of_getElem? (i := 1) rfl) rfl dX11_undo_1 ?_
  refine w_if_ne 10 dX11_undo_4 (by decide) (by first | omega | with_reducible rfl) (fun c_4 => ?_) (fun c_4 => ?_)
  · exfalso; omega
  · refine w_bipush dX11_undo_7 (by decide) ?_
    exact w_iret dX11_undo_9 rfl (by first | with_reducible rfl | omega | (split <;> omega)) rfl
set_option maxHeartbeats 4000000 in
set_option maxRecDepth 100000 in
theorem m_y_X11_undo {l : Launch} {D : va_G} {cy : Nat → ClassId} {B N : Nat} {g : Nat → va_E} {le sp va o0 tn aw mw fw ls gs sn sw kr : Int} {Nw Ps : Int → Int} {S : St} {P : List St} (hm : vM cy B g 141 (((P.length + 1) : Nat) : Int) le sp va o0 tn aw mw fw ls gs sn sw kr) (hnow : vIA cy B g 142 49 Nw) (hpa : vIA cy B g 144 294 Ps) (hN : 160 ≤ N) (hPR : PR Ps (S :: P)) : CTi l yX11_undo wsX11_undo (rmo 0 0) D cy B N g [.ref (B + 141)] ((P.length : Nat) : Int) (fun g' => ∃ Nw1 : Int → Int, vM cy B g' 141 ((P.length : Nat) : Int) le sp va o0 tn aw mw fw ls gs sn sw kr ∧ vIA cy B g' 142 49 Nw1 ∧ (ER Nw1 S) ∧ (∀ q, (q ≠ 141 ∧ q ≠ 142) → g' q = g q)) := by
  refine WW_of (cc := cX11_undo) (maxL := 2) (ret := (some .int)) (own := RX11) (by decide) rfl rfl (Nat.le_of_ble_eq_true rfl) rfl ?_
  intro pp ee ss mm bl me co hmn
  have hfr_0 : ∀ q, (q ≠ 141 ∧ q ≠ 142) → g q = g q := fun _ _ => rfl
  have hpo := PR_pop hPR
  have hp1 := hPR.1
  rw [List.length_cons] at hp1
  refine w_aload_n dX11_undo_0 rfl 0 rfl ?_
  refine w_get (i := 3) (T := TX11) (NF := 32) 141 (by first | omega | with_reducible rfl) hm rfl (fun _ h => (List.mem_cons_of_mem _ (List.mem_append_right _ h))) (by decide) (List.mem_of_getElem? (i := 1) rfl) rfl dX11_undo_1 ?_
  refine w_if_ne 10 dX11_undo_4 (by decide) (by first | omega | with_reducible rfl) (fun c_4 => ?_) (fun c_4 => ?_)
  · refine w_aload_n dX11_undo_10 rfl 0 rfl ?_
    refine w_dup dX11_undo_11 rfl ?_
    refine w_get (i := 3) (T := TX11) (NF := 32) 141 (by first | omega | with_reducible rfl) hm rfl (fun _ h => (List.mem_cons_of_mem _ (List.mem_append_right _ h))) (by decide) (List.mem_of_getElem? (i := 1) rfl) rfl dX11_undo_12 ?_
    refine w_iconst dX11_undo_15 ?_
    refine w_isub dX11_undo_16 ?_
    refine w_as (st' := [.int (zI ((P.length : Nat) : Int)), .ref (B + 141)]) (sc_i (by omega) rfl) ?_
    refine w_put (i := 3) (T := TX11) (NF := 32) 141 (by first | omega | with_reducible rfl) hm rfl (fun _ h => (List.mem_cons_of_mem _ (List.mem_append_right _ h))) tyX11 tyX11_ok nmX11 (by decide) (List.mem_of_getElem? (i := 1) rfl) rfl rfl rfl (Nat.le_of_ble_eq_true rfl) dX11_undo_17 (fun g_1 he_2 hn_3 => ?_)
    have hm_4 : vM cy B g_1 141 ((P.length : Nat) : Int) le sp va o0 tn aw mw fw ls gs sn sw kr := he_2
    have hnow_5 : vIA cy B g_1 142 49 Nw := vIA_fr hnow (fun q h1 h2 => hn_3 q (by omega))
    have hpa_6 : vIA cy B g_1 144 294 Ps := vIA_fr hpa (fun q h1 h2 => hn_3 q (by omega))
    have hfr_7 : ∀ q, (q ≠ 141 ∧ q ≠ 142) → g_1 q = g q := fun q hq => (hn_3 q (by omega)).trans (hfr_0 q hq)
    refine w_iconst dX11_undo_20 ?_
    refine w_istore_n [(1, .int (zI 0)), (0, .ref (B + 141))] dX11_undo_21 rfl (by decide) rfl ?_
    refine w_sub [(0, .ref (B + 141)), (1, .int (zI 0))] [1, 0] rfl ?_
    refine w_lv (lv' := [(0, .ref (B + 141)), (1, .int (zI ((0 : Nat) : Int)))]) (lc_s (lc_i (by first | omega | with_reducible rfl) rfl)) ?_
    refine w_loop3 (fun (i : Nat) (Nwi : Int → Int) (gl_8 : (Nat → va_E)) => vM cy B gl_8 141 ((P.length : Nat) : Int) le sp va o0 tn aw mw fw ls gs sn sw kr ∧ vIA cy B gl_8 142 49 Nwi ∧ vIA cy B gl_8 144 294 Ps ∧ (∀ q, (q ≠ 141 ∧ q ≠ 142) → gl_8 q = g q) ∧ i ≤ 49 ∧ (∀ y : Int, 0 ≤ y → y < i → Nwi y = Ps (49 * ((P.length : Nat) : Int) + y))) (fun (i : Nat) (Nwi : Int → Int) (gl_8 : (Nat → va_E)) => 49 - i) (fun (i : Nat) (Nwi : Int → Int) (gl_8 : (Nat → va_E)) => gl_8) (fun (i : Nat) (Nwi : Int → Int) (gl_8 : (Nat → va_E)) => [(0, .ref (B + 141)), (1, .int (zI ((i : Nat) : Int)))]) ?_ 0 Nw g_1 ⟨hm_4, hnow_5, hpa_6, hfr_7, (by first | omega | with_reducible rfl), (fun y h1 h2 => by omega)⟩
    rintro i Nwi gl_8 ⟨hm_9, hnow_10, hpa_11, hfr_12, hi, hz9⟩ ih_22
    refine w_iload_n dX11_undo_22 rfl 1 rfl ?_
    refine w_bipush dX11_undo_23 (by decide) ?_
    refine w_icmp_ge 54 dX11_undo_25 (by decide) (by first | omega | with_reducible rfl) (by first | omega | with_reducible rfl) (fun c_25 => ?_) (fun c_25 => ?_)
    · refine w_aload_n dX11_undo_54 rfl 0 rfl ?_
      refine w_get (i := 3) (T := TX11) (NF := 32) 141 (by first | omega | with_reducible rfl) hm_9 rfl (fun _ h => (List.mem_cons_of_mem _ (List.mem_append_right _ h))) (by decide) (List.mem_of_getElem? (i := 1) rfl) rfl dX11_undo_55 ?_
      exact w_iret dX11_undo_58 rfl (by first | with_reducible rfl | omega | (split <;> omega)) ⟨Nwi, hm_9, hnow_10, (ER_congr hpo.2 (fun y h1 h2 => hz9 y h1 (by omega))), hfr_12⟩
    · refine w_aload_n dX11_undo_28 rfl 0 rfl ?_
      refine w_get (i := 0) (T := TX11) (NF := 32) 141 (by first | omega | with_reducible rfl) hm_9 rfl (fun _ h => (List.mem_cons_of_mem _ (List.mem_append_right _ h))) (by decide) (List.mem_of_getElem? (i := 2) rfl) rfl dX11_undo_29 ?_
      refine w_iload_n dX11_undo_32 rfl 1 rfl ?_
      refine w_aload_n dX11_undo_33 rfl 0 rfl ?_
      refine w_get (i := 2) (T := TX11) (NF := 32) 141 (by first | omega | with_reducible rfl) hm_9 rfl (fun _ h => (List.mem_cons_of_mem _ (List.mem_append_right _ h))) (by decide) (List.mem_of_getElem? (i := 3) rfl) rfl dX11_undo_34 ?_
      refine w_bipush dX11_undo_37 (by decide) ?_
      refine w_aload_n dX11_undo_39 rfl 0 rfl ?_
      refine w_get (i := 3) (T := TX11) (NF := 32) 141 (by first | omega | with_reducible rfl) hm_9 rfl (fun _ h => (List.mem_cons_of_mem _ (List.mem_append_right _ h))) (by decide) (List.mem_of_getElem? (i := 1) rfl) rfl dX11_undo_40 ?_
      refine w_imul dX11_undo_43 ?_
      refine w_iload_n dX11_undo_44 rfl 1 rfl ?_
      refine w_iadd dX11_undo_45 ?_
      refine w_iald 144 (by first | omega | with_reducible rfl) hpa_11 (by first | omega | with_reducible rfl) dX11_undo_46 ?_
      refine w_iast 142 (by first | omega | with_reducible rfl) hnow_10 (by first | omega | with_reducible rfl) dX11_undo_47 (fun g_13 he_14 hn_15 => ?_)
      have hm_16 : vM cy B g_13 141 ((P.length : Nat) : Int) le sp va o0 tn aw mw fw ls gs sn sw kr := vM_fr hm_9 (fun q h1 h2 => hn_15 q (by omega))
      have hnow_17 : vIA cy B g_13 142 49 (uZ Nwi ((i : Nat) : Int) (Ps ((49 * ((P.length : Nat) : Int)) + ((i : Nat) : Int)))) := he_14
      have hpa_18 : vIA cy B g_13 144 294 Ps := vIA_fr hpa_11 (fun q h1 h2 => hn_15 q (by omega))
      have hfr_19 : ∀ q, (q ≠ 141 ∧ q ≠ 142) → g_13 q = g q := fun q hq => (hn_15 q (by omega)).trans (hfr_12 q hq)
      refine w_iinc 1 [(1, .int (zI (((i : Nat) : Int) + 1))), (0, .ref (B + 141))] dX11_undo_48 rfl (by decide) rfl ?_
      refine w_goto 22 dX11_undo_51 (by decide) ?_
      refine w_sub [(0, .ref (B + 141)), (1, .int (zI (((i : Nat) : Int) + 1)))] [1, 0] rfl ?_
      refine w_lv (lv' := [(0, .ref (B + 141)), (1, .int (zI (((i + 1) : Nat) : Int)))]) (lc_s (lc_i (by first | omega | with_reducible rfl) rfl)) ?_
      exact ih_22 (i + 1) (uZ Nwi ((i : Nat) : Int) (Ps ((49 * ((P.length : Nat) : Int)) + ((i : Nat) : Int)))) g_13 ⟨hm_16, hnow_17, hpa_18, hfr_19, (by first | omega | with_reducible rfl), (step_uz hz9 rfl)⟩ (by first | omega | with_reducible rfl)
  · exfalso; omega

set_option maxHeartbeats 4000000 in
set_option maxRecDepth 100000 in
theorem m_n_X11_set {l : Launch} {D : va_G} {cy : Nat → ClassId} {B N : Nat} {g : Nat → va_E} {cg le sp va o0 tn aw mw fw ls gs sn sw kr : Int} {Nw : Int → Int} {S : St} {s j what x : Int} (hm : vM cy B g 141 cg le sp va o0 tn aw mw fw ls gs sn sw kr) (hnow : vIA cy B g 142 49 Nw) (hN : 160 ≤ N) (hER : ER Nw S) (h_s : -2147483648 ≤ s ∧ s < 2147483648) (h_j : -2147483648 ≤ j ∧ j < 2147483648) (h_what : -2147483648 ≤ what ∧ what < 2147483648) (h_x : -2147483648 ≤ x ∧ x < 2147483648) (hb : ¬ (0 ≤ s ∧ s < S.length)) : CTi l yX11_set wsX11_set (rmo 3 65) D cy B N g [.ref (B + 141), .int (zI s), .int (zI j), .int (zI what), .int (zI x)] (-1) (fun g' => g' = g) := by
  refine WW_of (cc := cX11_set) (maxL := 6) (ret := (some .int)) (own := RX11) (by decide) rfl rfl (Nat.le_of_ble_eq_true rfl) rfl ?_
  intro pp ee ss mm bl me co hmn
  refine w_aload_n dX11_set_0 rfl 0 rfl ?_
  refine w_iload_n dX11_set_1 rfl 1 rfl ?_
  refine w_iload_n dX11_set_2 rfl 2 rfl ?_
  refine w_calli (As := [.int (zI s), .int (zI j)]) (rest := []) (n := 2) (c_X11_isColumn hm hnow (by first | omega | with_reducible rfl) (by first | omega | with_reducible rfl) (by first | omega | with_reducible rfl) (by first | omega | with_reducible rfl)) gX11_set_X11_isColumn rfl rfl rfl (by decide +kernel) ⟨Nat.le_of_ble_eq_true rfl, Nat.le_of_ble_eq_true rfl⟩ rfl (by first | omega | with_reducible rfl) hm rfl (Nat.le_of_ble_eq_true rfl) ⟨Nat.zero_le _, Nat.zero_le _⟩ dX11_set_3 rfl (fun g_1 hp_2 => ?_)
  subst g_1
  refine w_ifeqB 43 dX11_set_6 (by decide) (fun c_6 => ?_) (fun c_6 => ?_)
  · refine w_iconst dX11_set_43 ?_
    exact w_iret dX11_set_44 rfl (by first | with_reducible rfl | omega | (split <;> omega)) rfl
  · exfalso; omega
set_option maxHeartbeats 4000000 in
set_option maxRecDepth 100000 in
theorem m_b_X11_set {l : Launch} {D : va_G} {cy : Nat → ClassId} {B N : Nat} {g : Nat → va_E} {le sp va o0 tn aw mw fw ls gs sn sw kr : Int} {Nw Ps : Int → Int} {S : St} {P : List St} {k : Nat} {c : List Co} {j what x : Int} (hm : vM cy B g 141 ((P.length : Nat) : Int) le sp va o0 tn aw mw fw ls gs sn sw kr) (hnow : vIA cy B g 142 49 Nw) (hpa : vIA cy B g 144 294 Ps) (hN : 160 ≤ N) (hER : ER Nw S) (hkS : k < S.length) (hcS : S.getD k [] = c) (hc : cok c) (hPR : PR Ps P) (h_j : -2147483648 ≤ j ∧ j < 2147483648) (h_what : -2147483648 ≤ what ∧ what < 2147483648) (h_x : -2147483648 ≤ x ∧ x < 2147483648) (hb : ¬ (0 ≤ j ∧ j < c.length) ∨ ¬ (0 ≤ what ∧ what ≤ 1) ∨ x < 0 ∨ (what = 0 ∧ coT c j < x) ∨ (what = 1 ∧ 9 < x)) : CTi l yX11_set wsX11_set (rmo 3 65) D cy B N g [.ref (B + 141), .int (zI ((k : Nat) : Int)), .int (zI j), .int (zI what), .int (zI x)] (-1) (fun g' => g' = g) := by
  refine WW_of (cc := cX11_set) (maxL := 6) (ret := (some .int)) (own := RX11) (by decide) rfl rfl (Nat.le_of_ble_eq_true rfl) rfl ?_
  intro pp ee ss mm bl me co hmn
  have hmc : MC Nw k c := by have h := hER.2 k hkS; rw [hcS] at h; exact h
  have hk3 := hmc.1
  have hcS2 : S.getD (((k : Nat) : Int)).toNat [] = c := by rw [Int.toNat_natCast]; exact hcS
  refine w_aload_n dX11_set_0 rfl 0 rfl ?_
  refine w_iload_n dX11_set_1 rfl 1 rfl ?_
  refine w_iload_n dX11_set_2 rfl 2 rfl ?_
  refine w_calli (As := [.int (zI ((k : Nat) : Int)), .int (zI j)]) (rest := []) (n := 2) (c_X11_isColumn hm hnow (by first | omega | with_reducible rfl) (by first | omega | with_reducible rfl) (by first | omega | with_reducible rfl) (by first | omega | with_reducible rfl)) gX11_set_X11_isColumn rfl rfl rfl (by decide +kernel) ⟨Nat.le_of_ble_eq_true rfl, Nat.le_of_ble_eq_true rfl⟩ rfl (by first | omega | with_reducible rfl) hm rfl (Nat.le_of_ble_eq_true rfl) ⟨Nat.zero_le _, Nat.zero_le _⟩ dX11_set_3 rfl (fun g_1 hp_2 => ?_)
  subst g_1
  refine w_ifeqB 43 dX11_set_6 (by decide) (fun c_6 => ?_) (fun c_6 => ?_)
  · rw [hcS2] at c_6
    refine w_iconst dX11_set_43 ?_
    exact w_iret dX11_set_44 rfl (by first | with_reducible rfl | omega | (split <;> omega)) rfl
  · rw [hcS2] at c_6
    refine w_iload_n dX11_set_9 rfl 3 rfl ?_
    refine w_iconst dX11_set_10 ?_
    refine w_iconst dX11_set_11 ?_
    refine w_calliS (As := [.int (zI what), .int (zI 0), .int (zI 1)]) (rest := []) (n := 3) (c_X11_in (by first | omega | with_reducible rfl) (by first | omega | with_reducible rfl) (by first | omega | with_reducible rfl)) gX11_set_X11_in rfl rfl rfl (by decide +kernel) ⟨Nat.le_of_ble_eq_true rfl, Nat.le_of_ble_eq_true rfl⟩ rfl (Nat.le_of_ble_eq_true rfl) ⟨Nat.zero_le _, Nat.zero_le _⟩ dX11_set_12 rfl (fun g_3 hp_4 => ?_)
    subst g_3
    refine w_ifeqB 43 dX11_set_15 (by decide) (fun c_15 => ?_) (fun c_15 => ?_)
    · refine w_iconst dX11_set_43 ?_
      exact w_iret dX11_set_44 rfl (by first | with_reducible rfl | omega | (split <;> omega)) rfl
    · refine w_iload dX11_set_18 4 rfl ?_
      refine w_iconst dX11_set_20 ?_
      refine w_iload_n dX11_set_21 rfl 3 rfl ?_
      refine w_if_ne 35 dX11_set_22 (by decide) (by first | omega | with_reducible rfl) (fun c_22 => ?_) (fun c_22 => ?_)
      · refine w_bipush dX11_set_35 (by decide) ?_
        refine w_calliS (As := [.int (zI x), .int (zI 0), .int (zI 9)]) (rest := []) (n := 3) (c_X11_in (by first | omega | with_reducible rfl) (by first | omega | with_reducible rfl) (by first | omega | with_reducible rfl)) gX11_set_X11_in rfl rfl rfl (by decide +kernel) ⟨Nat.le_of_ble_eq_true rfl, Nat.le_of_ble_eq_true rfl⟩ rfl (Nat.le_of_ble_eq_true rfl) ⟨Nat.zero_le _, Nat.zero_le _⟩ dX11_set_37 rfl (fun g_5 hp_6 => ?_)
        subst g_5
        refine w_ifneB 45 dX11_set_40 (by decide) (fun c_40 => ?_) (fun c_40 => ?_)
        · exfalso; omega
        · refine w_iconst dX11_set_43 ?_
          exact w_iret dX11_set_44 rfl (by first | with_reducible rfl | omega | (split <;> omega)) rfl
      · refine w_aload_n dX11_set_25 rfl 0 rfl ?_
        refine w_iload_n dX11_set_26 rfl 1 rfl ?_
        refine w_iload_n dX11_set_27 rfl 2 rfl ?_
        refine w_iconst dX11_set_28 ?_
        refine w_calli (As := [.int (zI ((k : Nat) : Int)), .int (zI j), .int (zI 0)]) (rest := [.int (zI 0), .int (zI x)]) (n := 3) (c_X11_of0 (k := k) hm hnow (by first | omega | with_reducible rfl) (by first | omega | with_reducible rfl) (by first | omega | with_reducible rfl)) gX11_set_X11_of rfl rfl rfl (by decide +kernel) ⟨Nat.le_of_ble_eq_true rfl, Nat.le_of_ble_eq_true rfl⟩ rfl (by first | omega | with_reducible rfl) hm rfl (Nat.le_of_ble_eq_true rfl) ⟨Nat.zero_le _, Nat.zero_le _⟩ dX11_set_29 rfl (fun g_7 hp_8 => ?_)
        subst g_7
        have hcj := hc.2 j (by omega) (by omega)
        refine w_goto 37 dX11_set_32 (by decide) ?_
        refine w_calliS (As := [.int (zI x), .int (zI 0), .int (zI (coT c j))]) (rest := []) (n := 3) (c_X11_in (by first | omega | with_reducible rfl) (by first | omega | with_reducible rfl) (by first | omega | with_reducible rfl)) gX11_set_X11_in rfl rfl rfl (by decide +kernel) ⟨Nat.le_of_ble_eq_true rfl, Nat.le_of_ble_eq_true rfl⟩ rfl (Nat.le_of_ble_eq_true rfl) ⟨Nat.zero_le _, Nat.zero_le _⟩ dX11_set_37 rfl (fun g_9 hp_10 => ?_)
        subst g_9
        refine w_ifneB 45 dX11_set_40 (by decide) (fun c_40 => ?_) (fun c_40 => ?_)
        · exfalso; omega
        · refine w_iconst dX11_set_43 ?_
          exact w_iret dX11_set_44 rfl (by first | with_reducible rfl | omega | (split <;> omega)) rfl
set_option maxHeartbeats 4000000 in
set_option maxRecDepth 100000 in
theorem m_s0_X11_set {l : Launch} {D : va_G} {cy : Nat → ClassId} {B N : Nat} {g : Nat → va_E} {le sp va o0 tn aw mw fw ls gs sn sw kr : Int} {Nw Ps : Int → Int} {S : St} {P : List St} {k : Nat} {c : List Co} {j what x : Int} (hm : vM cy B g 141 ((P.length : Nat) : Int) le sp va o0 tn aw mw fw ls gs sn sw kr) (hnow : vIA cy B g 142 49 Nw) (hpa : vIA cy B g 144 294 Ps) (hN : 160 ≤ N) (hER : ER Nw S) (hkS : k < S.length) (hcS : S.getD k [] = c) (hc : cok c) (hPR : PR Ps P) (h_j : -2147483648 ≤ j ∧ j < 2147483648) (h_what : -2147483648 ≤ what ∧ what < 2147483648) (h_x : -2147483648 ≤ x ∧ x < 2147483648) (hj : 0 ≤ j ∧ j < c.length) (hwh : what = 0 ∧ 0 ≤ x ∧ x ≤ coT c j ∧ coX c j = x) : CTi l yX11_set wsX11_set (rmo 3 65) D cy B N g [.ref (B + 141), .int (zI ((k : Nat) : Int)), .int (zI j), .int (zI what), .int (zI x)] (-2) (fun g' => g' = g) := by
  refine WW_of (cc := cX11_set) (maxL := 6) (ret := (some .int)) (own := RX11) (by decide) rfl rfl (Nat.le_of_ble_eq_true rfl) rfl ?_
  intro pp ee ss mm bl me co hmn
  have hmc : MC Nw k c := by have h := hER.2 k hkS; rw [hcS] at h; exact h
  have hk3 := hmc.1
  have hcS2 : S.getD (((k : Nat) : Int)).toNat [] = c := by rw [Int.toNat_natCast]; exact hcS
  refine w_aload_n dX11_set_0 rfl 0 rfl ?_
  refine w_iload_n dX11_set_1 rfl 1 rfl ?_
  refine w_iload_n dX11_set_2 rfl 2 rfl ?_
  refine w_calli (As := [.int (zI ((k : Nat) : Int)), .int (zI j)]) (rest := []) (n := 2) (c_X11_isColumn hm hnow (by first | omega | with_reducible rfl) (by first | omega | with_reducible rfl) (by first | omega | with_reducible rfl) (by first | omega | with_reducible rfl)) gX11_set_X11_isColumn rfl rfl rfl (by decide +kernel) ⟨Nat.le_of_ble_eq_true rfl, Nat.le_of_ble_eq_true rfl⟩ rfl (by first | omega | with_reducible rfl) hm rfl (Nat.le_of_ble_eq_true rfl) ⟨Nat.zero_le _, Nat.zero_le _⟩ dX11_set_3 rfl (fun g_1 hp_2 => ?_)
  subst g_1
  refine w_ifeqB 43 dX11_set_6 (by decide) (fun c_6 => ?_) (fun c_6 => ?_)
  · rw [hcS2] at c_6
    exfalso; omega
  · rw [hcS2] at c_6
    refine w_iload_n dX11_set_9 rfl 3 rfl ?_
    refine w_iconst dX11_set_10 ?_
    refine w_iconst dX11_set_11 ?_
    refine w_calliS (As := [.int (zI what), .int (zI 0), .int (zI 1)]) (rest := []) (n := 3) (c_X11_in (by first | omega | with_reducible rfl) (by first | omega | with_reducible rfl) (by first | omega | with_reducible rfl)) gX11_set_X11_in rfl rfl rfl (by decide +kernel) ⟨Nat.le_of_ble_eq_true rfl, Nat.le_of_ble_eq_true rfl⟩ rfl (Nat.le_of_ble_eq_true rfl) ⟨Nat.zero_le _, Nat.zero_le _⟩ dX11_set_12 rfl (fun g_3 hp_4 => ?_)
    subst g_3
    refine w_ifeqB 43 dX11_set_15 (by decide) (fun c_15 => ?_) (fun c_15 => ?_)
    · exfalso; omega
    · refine w_iload dX11_set_18 4 rfl ?_
      refine w_iconst dX11_set_20 ?_
      refine w_iload_n dX11_set_21 rfl 3 rfl ?_
      refine w_if_ne 35 dX11_set_22 (by decide) (by first | omega | with_reducible rfl) (fun c_22 => ?_) (fun c_22 => ?_)
      · refine w_bipush dX11_set_35 (by decide) ?_
        refine w_calliS (As := [.int (zI x), .int (zI 0), .int (zI 9)]) (rest := []) (n := 3) (c_X11_in (by first | omega | with_reducible rfl) (by first | omega | with_reducible rfl) (by first | omega | with_reducible rfl)) gX11_set_X11_in rfl rfl rfl (by decide +kernel) ⟨Nat.le_of_ble_eq_true rfl, Nat.le_of_ble_eq_true rfl⟩ rfl (Nat.le_of_ble_eq_true rfl) ⟨Nat.zero_le _, Nat.zero_le _⟩ dX11_set_37 rfl (fun g_5 hp_6 => ?_)
        subst g_5
        refine w_ifneB 45 dX11_set_40 (by decide) (fun c_40 => ?_) (fun c_40 => ?_)
        · refine w_aload_n dX11_set_45 rfl 0 rfl ?_
          refine w_iload_n dX11_set_46 rfl 1 rfl ?_
          refine w_iload_n dX11_set_47 rfl 2 rfl ?_
          refine w_iload_n dX11_set_48 rfl 3 rfl ?_
          refine w_iconst dX11_set_49 ?_
          refine w_iadd dX11_set_50 ?_
          refine w_calli (As := [.int (zI ((k : Nat) : Int)), .int (zI j), .int (zI (what + 1))]) (rest := []) (n := 3) (c_X11_of (k := k) hm hnow (by first | omega | with_reducible rfl) (by first | omega | with_reducible rfl) (by first | omega | with_reducible rfl) (by first | omega | with_reducible rfl)) gX11_set_X11_of rfl rfl rfl (by decide +kernel) ⟨Nat.le_of_ble_eq_true rfl, Nat.le_of_ble_eq_true rfl⟩ rfl (by first | omega | with_reducible rfl) hm rfl (Nat.le_of_ble_eq_true rfl) ⟨Nat.zero_le _, Nat.zero_le _⟩ dX11_set_51 rfl (fun g_7 hp_8 => ?_)
          subst g_7
          have hcj2 := hc.2 j (by omega) (by omega)
          refine w_as (st' := [.int (zI (coX c j))]) (sc_i (by rw [show what + 1 = 1 by omega]; rfl) rfl) ?_
          refine w_istore [(5, .int (zI (coX c j))), (0, .ref (B + 141)), (1, .int (zI ((k : Nat) : Int))), (2, .int (zI j)), (3, .int (zI what)), (4, .int (zI x))] dX11_set_54 (by decide) rfl ?_
          refine w_iload dX11_set_56 0 rfl ?_
          refine w_iload dX11_set_58 5 rfl ?_
          refine w_icmp_ne 66 dX11_set_60 (by decide) (by first | omega | with_reducible rfl) (by first | omega | with_reducible rfl) (fun c_60 => ?_) (fun c_60 => ?_)
          · exfalso; omega
          · refine w_bipush dX11_set_63 (by decide) ?_
            exact w_iret dX11_set_65 rfl (by first | with_reducible rfl | omega | (split <;> omega)) rfl
        · exfalso; omega
      · refine w_aload_n dX11_set_25 rfl 0 rfl ?_
        refine w_iload_n dX11_set_26 rfl 1 rfl ?_
        refine w_iload_n dX11_set_27 rfl 2 rfl ?_
        refine w_iconst dX11_set_28 ?_
        refine w_calli (As := [.int (zI ((k : Nat) : Int)), .int (zI j), .int (zI 0)]) (rest := [.int (zI 0), .int (zI x)]) (n := 3) (c_X11_of0 (k := k) hm hnow (by first | omega | with_reducible rfl) (by first | omega | with_reducible rfl) (by first | omega | with_reducible rfl)) gX11_set_X11_of rfl rfl rfl (by decide +kernel) ⟨Nat.le_of_ble_eq_true rfl, Nat.le_of_ble_eq_true rfl⟩ rfl (by first | omega | with_reducible rfl) hm rfl (Nat.le_of_ble_eq_true rfl) ⟨Nat.zero_le _, Nat.zero_le _⟩ dX11_set_29 rfl (fun g_9 hp_10 => ?_)
        subst g_9
        have hcj := hc.2 j (by omega) (by omega)
        refine w_goto 37 dX11_set_32 (by decide) ?_
        refine w_calliS (As := [.int (zI x), .int (zI 0), .int (zI (coT c j))]) (rest := []) (n := 3) (c_X11_in (by first | omega | with_reducible rfl) (by first | omega | with_reducible rfl) (by first | omega | with_reducible rfl)) gX11_set_X11_in rfl rfl rfl (by decide +kernel) ⟨Nat.le_of_ble_eq_true rfl, Nat.le_of_ble_eq_true rfl⟩ rfl (Nat.le_of_ble_eq_true rfl) ⟨Nat.zero_le _, Nat.zero_le _⟩ dX11_set_37 rfl (fun g_11 hp_12 => ?_)
        subst g_11
        refine w_ifneB 45 dX11_set_40 (by decide) (fun c_40 => ?_) (fun c_40 => ?_)
        · refine w_aload_n dX11_set_45 rfl 0 rfl ?_
          refine w_iload_n dX11_set_46 rfl 1 rfl ?_
          refine w_iload_n dX11_set_47 rfl 2 rfl ?_
          refine w_iload_n dX11_set_48 rfl 3 rfl ?_
          refine w_iconst dX11_set_49 ?_
          refine w_iadd dX11_set_50 ?_
          refine w_calli (As := [.int (zI ((k : Nat) : Int)), .int (zI j), .int (zI (what + 1))]) (rest := []) (n := 3) (c_X11_of (k := k) hm hnow (by first | omega | with_reducible rfl) (by first | omega | with_reducible rfl) (by first | omega | with_reducible rfl) (by first | omega | with_reducible rfl)) gX11_set_X11_of rfl rfl rfl (by decide +kernel) ⟨Nat.le_of_ble_eq_true rfl, Nat.le_of_ble_eq_true rfl⟩ rfl (by first | omega | with_reducible rfl) hm rfl (Nat.le_of_ble_eq_true rfl) ⟨Nat.zero_le _, Nat.zero_le _⟩ dX11_set_51 rfl (fun g_13 hp_14 => ?_)
          subst g_13
          have hcj2 := hc.2 j (by omega) (by omega)
          refine w_as (st' := [.int (zI (coX c j))]) (sc_i (by rw [show what + 1 = 1 by omega]; rfl) rfl) ?_
          refine w_istore [(5, .int (zI (coX c j))), (0, .ref (B + 141)), (1, .int (zI ((k : Nat) : Int))), (2, .int (zI j)), (3, .int (zI what)), (4, .int (zI x))] dX11_set_54 (by decide) rfl ?_
          refine w_iload dX11_set_56 0 rfl ?_
          refine w_iload dX11_set_58 5 rfl ?_
          refine w_icmp_ne 66 dX11_set_60 (by decide) (by first | omega | with_reducible rfl) (by first | omega | with_reducible rfl) (fun c_60 => ?_) (fun c_60 => ?_)
          · exfalso; omega
          · refine w_bipush dX11_set_63 (by decide) ?_
            exact w_iret dX11_set_65 rfl (by first | with_reducible rfl | omega | (split <;> omega)) rfl
        · exfalso; omega
set_option maxHeartbeats 4000000 in
set_option maxRecDepth 100000 in
theorem m_s1_X11_set {l : Launch} {D : va_G} {cy : Nat → ClassId} {B N : Nat} {g : Nat → va_E} {le sp va o0 tn aw mw fw ls gs sn sw kr : Int} {Nw Ps : Int → Int} {S : St} {P : List St} {k : Nat} {c : List Co} {j what x : Int} (hm : vM cy B g 141 ((P.length : Nat) : Int) le sp va o0 tn aw mw fw ls gs sn sw kr) (hnow : vIA cy B g 142 49 Nw) (hpa : vIA cy B g 144 294 Ps) (hN : 160 ≤ N) (hER : ER Nw S) (hkS : k < S.length) (hcS : S.getD k [] = c) (hc : cok c) (hPR : PR Ps P) (h_j : -2147483648 ≤ j ∧ j < 2147483648) (h_what : -2147483648 ≤ what ∧ what < 2147483648) (h_x : -2147483648 ≤ x ∧ x < 2147483648) (hj : 0 ≤ j ∧ j < c.length) (hwh : what = 1 ∧ 0 ≤ x ∧ x ≤ 9 ∧ coV c j = x) : CTi l yX11_set wsX11_set (rmo 3 65) D cy B N g [.ref (B + 141), .int (zI ((k : Nat) : Int)), .int (zI j), .int (zI what), .int (zI x)] (-2) (fun g' => g' = g) := by
  refine WW_of (cc := cX11_set) (maxL := 6) (ret := (some .int)) (own := RX11) (by decide) rfl rfl (Nat.le_of_ble_eq_true rfl) rfl ?_
  intro pp ee ss mm bl me co hmn
  have hmc : MC Nw k c := by have h := hER.2 k hkS; rw [hcS] at h; exact h
  have hk3 := hmc.1
  have hcS2 : S.getD (((k : Nat) : Int)).toNat [] = c := by rw [Int.toNat_natCast]; exact hcS
  refine w_aload_n dX11_set_0 rfl 0 rfl ?_
  refine w_iload_n dX11_set_1 rfl 1 rfl ?_
  refine w_iload_n dX11_set_2 rfl 2 rfl ?_
  refine w_calli (As := [.int (zI ((k : Nat) : Int)), .int (zI j)]) (rest := []) (n := 2) (c_X11_isColumn hm hnow (by first | omega | with_reducible rfl) (by first | omega | with_reducible rfl) (by first | omega | with_reducible rfl) (by first | omega | with_reducible rfl)) gX11_set_X11_isColumn rfl rfl rfl (by decide +kernel) ⟨Nat.le_of_ble_eq_true rfl, Nat.le_of_ble_eq_true rfl⟩ rfl (by first | omega | with_reducible rfl) hm rfl (Nat.le_of_ble_eq_true rfl) ⟨Nat.zero_le _, Nat.zero_le _⟩ dX11_set_3 rfl (fun g_1 hp_2 => ?_)
  subst g_1
  refine w_ifeqB 43 dX11_set_6 (by decide) (fun c_6 => ?_) (fun c_6 => ?_)
  · rw [hcS2] at c_6
    exfalso; omega
  · rw [hcS2] at c_6
    refine w_iload_n dX11_set_9 rfl 3 rfl ?_
    refine w_iconst dX11_set_10 ?_
    refine w_iconst dX11_set_11 ?_
    refine w_calliS (As := [.int (zI what), .int (zI 0), .int (zI 1)]) (rest := []) (n := 3) (c_X11_in (by first | omega | with_reducible rfl) (by first | omega | with_reducible rfl) (by first | omega | with_reducible rfl)) gX11_set_X11_in rfl rfl rfl (by decide +kernel) ⟨Nat.le_of_ble_eq_true rfl, Nat.le_of_ble_eq_true rfl⟩ rfl (Nat.le_of_ble_eq_true rfl) ⟨Nat.zero_le _, Nat.zero_le _⟩ dX11_set_12 rfl (fun g_3 hp_4 => ?_)
    subst g_3
    refine w_ifeqB 43 dX11_set_15 (by decide) (fun c_15 => ?_) (fun c_15 => ?_)
    · exfalso; omega
    · refine w_iload dX11_set_18 4 rfl ?_
      refine w_iconst dX11_set_20 ?_
      refine w_iload_n dX11_set_21 rfl 3 rfl ?_
      refine w_if_ne 35 dX11_set_22 (by decide) (by first | omega | with_reducible rfl) (fun c_22 => ?_) (fun c_22 => ?_)
      · refine w_bipush dX11_set_35 (by decide) ?_
        refine w_calliS (As := [.int (zI x), .int (zI 0), .int (zI 9)]) (rest := []) (n := 3) (c_X11_in (by first | omega | with_reducible rfl) (by first | omega | with_reducible rfl) (by first | omega | with_reducible rfl)) gX11_set_X11_in rfl rfl rfl (by decide +kernel) ⟨Nat.le_of_ble_eq_true rfl, Nat.le_of_ble_eq_true rfl⟩ rfl (Nat.le_of_ble_eq_true rfl) ⟨Nat.zero_le _, Nat.zero_le _⟩ dX11_set_37 rfl (fun g_5 hp_6 => ?_)
        subst g_5
        refine w_ifneB 45 dX11_set_40 (by decide) (fun c_40 => ?_) (fun c_40 => ?_)
        · refine w_aload_n dX11_set_45 rfl 0 rfl ?_
          refine w_iload_n dX11_set_46 rfl 1 rfl ?_
          refine w_iload_n dX11_set_47 rfl 2 rfl ?_
          refine w_iload_n dX11_set_48 rfl 3 rfl ?_
          refine w_iconst dX11_set_49 ?_
          refine w_iadd dX11_set_50 ?_
          refine w_calli (As := [.int (zI ((k : Nat) : Int)), .int (zI j), .int (zI (what + 1))]) (rest := []) (n := 3) (c_X11_of (k := k) hm hnow (by first | omega | with_reducible rfl) (by first | omega | with_reducible rfl) (by first | omega | with_reducible rfl) (by first | omega | with_reducible rfl)) gX11_set_X11_of rfl rfl rfl (by decide +kernel) ⟨Nat.le_of_ble_eq_true rfl, Nat.le_of_ble_eq_true rfl⟩ rfl (by first | omega | with_reducible rfl) hm rfl (Nat.le_of_ble_eq_true rfl) ⟨Nat.zero_le _, Nat.zero_le _⟩ dX11_set_51 rfl (fun g_7 hp_8 => ?_)
          subst g_7
          have hcj2 := hc.2 j (by omega) (by omega)
          refine w_as (st' := [.int (zI (coV c j))]) (sc_i (by rw [show what + 1 = 2 by omega]; rfl) rfl) ?_
          refine w_istore [(5, .int (zI (coV c j))), (0, .ref (B + 141)), (1, .int (zI ((k : Nat) : Int))), (2, .int (zI j)), (3, .int (zI what)), (4, .int (zI x))] dX11_set_54 (by decide) rfl ?_
          refine w_iload dX11_set_56 0 rfl ?_
          refine w_iload dX11_set_58 5 rfl ?_
          refine w_icmp_ne 66 dX11_set_60 (by decide) (by first | omega | with_reducible rfl) (by first | omega | with_reducible rfl) (fun c_60 => ?_) (fun c_60 => ?_)
          · exfalso; omega
          · refine w_bipush dX11_set_63 (by decide) ?_
            exact w_iret dX11_set_65 rfl (by first | with_reducible rfl | omega | (split <;> omega)) rfl
        · exfalso; omega
      · refine w_aload_n dX11_set_25 rfl 0 rfl ?_
        refine w_iload_n dX11_set_26 rfl 1 rfl ?_
        refine w_iload_n dX11_set_27 rfl 2 rfl ?_
        refine w_iconst dX11_set_28 ?_
        refine w_calli (As := [.int (zI ((k : Nat) : Int)), .int (zI j), .int (zI 0)]) (rest := [.int (zI 0), .int (zI x)]) (n := 3) (c_X11_of0 (k := k) hm hnow (by first | omega | with_reducible rfl) (by first | omega | with_reducible rfl) (by first | omega | with_reducible rfl)) gX11_set_X11_of rfl rfl rfl (by decide +kernel) ⟨Nat.le_of_ble_eq_true rfl, Nat.le_of_ble_eq_true rfl⟩ rfl (by first | omega | with_reducible rfl) hm rfl (Nat.le_of_ble_eq_true rfl) ⟨Nat.zero_le _, Nat.zero_le _⟩ dX11_set_29 rfl (fun g_9 hp_10 => ?_)
        subst g_9
        have hcj := hc.2 j (by omega) (by omega)
        refine w_goto 37 dX11_set_32 (by decide) ?_
        refine w_calliS (As := [.int (zI x), .int (zI 0), .int (zI (coT c j))]) (rest := []) (n := 3) (c_X11_in (by first | omega | with_reducible rfl) (by first | omega | with_reducible rfl) (by first | omega | with_reducible rfl)) gX11_set_X11_in rfl rfl rfl (by decide +kernel) ⟨Nat.le_of_ble_eq_true rfl, Nat.le_of_ble_eq_true rfl⟩ rfl (Nat.le_of_ble_eq_true rfl) ⟨Nat.zero_le _, Nat.zero_le _⟩ dX11_set_37 rfl (fun g_11 hp_12 => ?_)
        subst g_11
        refine w_ifneB 45 dX11_set_40 (by decide) (fun c_40 => ?_) (fun c_40 => ?_)
        · refine w_aload_n dX11_set_45 rfl 0 rfl ?_
          refine w_iload_n dX11_set_46 rfl 1 rfl ?_
          refine w_iload_n dX11_set_47 rfl 2 rfl ?_
          refine w_iload_n dX11_set_48 rfl 3 rfl ?_
          refine w_iconst dX11_set_49 ?_
          refine w_iadd dX11_set_50 ?_
          refine w_calli (As := [.int (zI ((k : Nat) : Int)), .int (zI j), .int (zI (what + 1))]) (rest := []) (n := 3) (c_X11_of (k := k) hm hnow (by first | omega | with_reducible rfl) (by first | omega | with_reducible rfl) (by first | omega | with_reducible rfl) (by first | omega | with_reducible rfl)) gX11_set_X11_of rfl rfl rfl (by decide +kernel) ⟨Nat.le_of_ble_eq_true rfl, Nat.le_of_ble_eq_true rfl⟩ rfl (by first | omega | with_reducible rfl) hm rfl (Nat.le_of_ble_eq_true rfl) ⟨Nat.zero_le _, Nat.zero_le _⟩ dX11_set_51 rfl (fun g_13 hp_14 => ?_)
          subst g_13
          have hcj2 := hc.2 j (by omega) (by omega)
          refine w_as (st' := [.int (zI (coV c j))]) (sc_i (by rw [show what + 1 = 2 by omega]; rfl) rfl) ?_
          refine w_istore [(5, .int (zI (coV c j))), (0, .ref (B + 141)), (1, .int (zI ((k : Nat) : Int))), (2, .int (zI j)), (3, .int (zI what)), (4, .int (zI x))] dX11_set_54 (by decide) rfl ?_
          refine w_iload dX11_set_56 0 rfl ?_
          refine w_iload dX11_set_58 5 rfl ?_
          refine w_icmp_ne 66 dX11_set_60 (by decide) (by first | omega | with_reducible rfl) (by first | omega | with_reducible rfl) (fun c_60 => ?_) (fun c_60 => ?_)
          · exfalso; omega
          · refine w_bipush dX11_set_63 (by decide) ?_
            exact w_iret dX11_set_65 rfl (by first | with_reducible rfl | omega | (split <;> omega)) rfl
        · exfalso; omega
set_option maxHeartbeats 4000000 in
set_option maxRecDepth 100000 in
theorem m_x_X11_set {l : Launch} {D : va_G} {cy : Nat → ClassId} {B N : Nat} {g : Nat → va_E} {le sp va o0 tn aw mw fw ls gs sn sw kr : Int} {Nw Ps : Int → Int} {S : St} {P : List St} {k : Nat} {c : List Co} {j what x : Int} (hm : vM cy B g 141 ((P.length : Nat) : Int) le sp va o0 tn aw mw fw ls gs sn sw kr) (hnow : vIA cy B g 142 49 Nw) (hpa : vIA cy B g 144 294 Ps) (hN : 160 ≤ N) (hER : ER Nw S) (hkS : k < S.length) (hcS : S.getD k [] = c) (hc : cok c) (hPR : PR Ps P) (h_j : -2147483648 ≤ j ∧ j < 2147483648) (h_what : -2147483648 ≤ what ∧ what < 2147483648) (h_x : -2147483648 ≤ x ∧ x < 2147483648) (hj : 0 ≤ j ∧ j < c.length) (hwh : what = 0 ∧ 0 ≤ x ∧ x ≤ coT c j ∧ ¬ coX c j = x) : CTi l yX11_set wsX11_set (rmo 3 65) D cy B N g [.ref (B + 141), .int (zI ((k : Nat) : Int)), .int (zI j), .int (zI what), .int (zI x)] (coX c j) (fun g' => ∃ Nw1 : Int → Int, ∃ Ps1 : Int → Int, vM cy B g' 141 ((((S :: P).take 6).length : Nat) : Int) le sp va o0 tn aw mw fw ls gs sn sw kr ∧ vIA cy B g' 142 49 Nw1 ∧ vIA cy B g' 144 294 Ps1 ∧ (ER Nw1 (S.set k (upX c j x))) ∧ (PR Ps1 ((S :: P).take 6)) ∧ (∀ q, (q ≠ 141 ∧ q ≠ 142 ∧ q ≠ 144) → g' q = g q)) := by
  refine WW_of (cc := cX11_set) (maxL := 6) (ret := (some .int)) (own := RX11) (by decide) rfl rfl (Nat.le_of_ble_eq_true rfl) rfl ?_
  intro pp ee ss mm bl me co hmn
  have hfr_0 : ∀ q, (q ≠ 141 ∧ q ≠ 142 ∧ q ≠ 144) → g q = g q := fun _ _ => rfl
  have hmc : MC Nw k c := by have h := hER.2 k hkS; rw [hcS] at h; exact h
  have hk3 := hmc.1
  have hcS2 : S.getD (((k : Nat) : Int)).toNat [] = c := by rw [Int.toNat_natCast]; exact hcS
  refine w_aload_n dX11_set_0 rfl 0 rfl ?_
  refine w_iload_n dX11_set_1 rfl 1 rfl ?_
  refine w_iload_n dX11_set_2 rfl 2 rfl ?_
  refine w_calli (As := [.int (zI ((k : Nat) : Int)), .int (zI j)]) (rest := []) (n := 2) (c_X11_isColumn hm hnow (by first | omega | with_reducible rfl) (by first | omega | with_reducible rfl) (by first | omega | with_reducible rfl) (by first | omega | with_reducible rfl)) gX11_set_X11_isColumn rfl rfl rfl (by decide +kernel) ⟨Nat.le_of_ble_eq_true rfl, Nat.le_of_ble_eq_true rfl⟩ rfl (by first | omega | with_reducible rfl) hm rfl (Nat.le_of_ble_eq_true rfl) ⟨Nat.zero_le _, Nat.zero_le _⟩ dX11_set_3 rfl (fun g_1 hp_2 => ?_)
  subst g_1
  refine w_ifeqB 43 dX11_set_6 (by decide) (fun c_6 => ?_) (fun c_6 => ?_)
  · rw [hcS2] at c_6
    exfalso; omega
  · rw [hcS2] at c_6
    refine w_iload_n dX11_set_9 rfl 3 rfl ?_
    refine w_iconst dX11_set_10 ?_
    refine w_iconst dX11_set_11 ?_
    refine w_calliS (As := [.int (zI what), .int (zI 0), .int (zI 1)]) (rest := []) (n := 3) (c_X11_in (by first | omega | with_reducible rfl) (by first | omega | with_reducible rfl) (by first | omega | with_reducible rfl)) gX11_set_X11_in rfl rfl rfl (by decide +kernel) ⟨Nat.le_of_ble_eq_true rfl, Nat.le_of_ble_eq_true rfl⟩ rfl (Nat.le_of_ble_eq_true rfl) ⟨Nat.zero_le _, Nat.zero_le _⟩ dX11_set_12 rfl (fun g_3 hp_4 => ?_)
    subst g_3
    refine w_ifeqB 43 dX11_set_15 (by decide) (fun c_15 => ?_) (fun c_15 => ?_)
    · exfalso; omega
    · refine w_iload dX11_set_18 4 rfl ?_
      refine w_iconst dX11_set_20 ?_
      refine w_iload_n dX11_set_21 rfl 3 rfl ?_
      refine w_if_ne 35 dX11_set_22 (by decide) (by first | omega | with_reducible rfl) (fun c_22 => ?_) (fun c_22 => ?_)
      · exfalso; omega
      · refine w_aload_n dX11_set_25 rfl 0 rfl ?_
        refine w_iload_n dX11_set_26 rfl 1 rfl ?_
        refine w_iload_n dX11_set_27 rfl 2 rfl ?_
        refine w_iconst dX11_set_28 ?_
        refine w_calli (As := [.int (zI ((k : Nat) : Int)), .int (zI j), .int (zI 0)]) (rest := [.int (zI 0), .int (zI x)]) (n := 3) (c_X11_of0 (k := k) hm hnow (by first | omega | with_reducible rfl) (by first | omega | with_reducible rfl) (by first | omega | with_reducible rfl)) gX11_set_X11_of rfl rfl rfl (by decide +kernel) ⟨Nat.le_of_ble_eq_true rfl, Nat.le_of_ble_eq_true rfl⟩ rfl (by first | omega | with_reducible rfl) hm rfl (Nat.le_of_ble_eq_true rfl) ⟨Nat.zero_le _, Nat.zero_le _⟩ dX11_set_29 rfl (fun g_5 hp_6 => ?_)
        subst g_5
        have hcj := hc.2 j (by omega) (by omega)
        refine w_goto 37 dX11_set_32 (by decide) ?_
        refine w_calliS (As := [.int (zI x), .int (zI 0), .int (zI (coT c j))]) (rest := []) (n := 3) (c_X11_in (by first | omega | with_reducible rfl) (by first | omega | with_reducible rfl) (by first | omega | with_reducible rfl)) gX11_set_X11_in rfl rfl rfl (by decide +kernel) ⟨Nat.le_of_ble_eq_true rfl, Nat.le_of_ble_eq_true rfl⟩ rfl (Nat.le_of_ble_eq_true rfl) ⟨Nat.zero_le _, Nat.zero_le _⟩ dX11_set_37 rfl (fun g_7 hp_8 => ?_)
        subst g_7
        refine w_ifneB 45 dX11_set_40 (by decide) (fun c_40 => ?_) (fun c_40 => ?_)
        · refine w_aload_n dX11_set_45 rfl 0 rfl ?_
          refine w_iload_n dX11_set_46 rfl 1 rfl ?_
          refine w_iload_n dX11_set_47 rfl 2 rfl ?_
          refine w_iload_n dX11_set_48 rfl 3 rfl ?_
          refine w_iconst dX11_set_49 ?_
          refine w_iadd dX11_set_50 ?_
          refine w_calli (As := [.int (zI ((k : Nat) : Int)), .int (zI j), .int (zI (what + 1))]) (rest := []) (n := 3) (c_X11_of (k := k) hm hnow (by first | omega | with_reducible rfl) (by first | omega | with_reducible rfl) (by first | omega | with_reducible rfl) (by first | omega | with_reducible rfl)) gX11_set_X11_of rfl rfl rfl (by decide +kernel) ⟨Nat.le_of_ble_eq_true rfl, Nat.le_of_ble_eq_true rfl⟩ rfl (by first | omega | with_reducible rfl) hm rfl (Nat.le_of_ble_eq_true rfl) ⟨Nat.zero_le _, Nat.zero_le _⟩ dX11_set_51 rfl (fun g_9 hp_10 => ?_)
          subst g_9
          have hcj2 := hc.2 j (by omega) (by omega)
          refine w_as (st' := [.int (zI (coX c j))]) (sc_i (by rw [show what + 1 = 1 by omega]; rfl) rfl) ?_
          refine w_istore [(5, .int (zI (coX c j))), (0, .ref (B + 141)), (1, .int (zI ((k : Nat) : Int))), (2, .int (zI j)), (3, .int (zI what)), (4, .int (zI x))] dX11_set_54 (by decide) rfl ?_
          refine w_iload dX11_set_56 0 rfl ?_
          refine w_iload dX11_set_58 5 rfl ?_
          refine w_icmp_ne 66 dX11_set_60 (by decide) (by first | omega | with_reducible rfl) (by first | omega | with_reducible rfl) (fun c_60 => ?_) (fun c_60 => ?_)
          · refine w_aload_n dX11_set_66 rfl 1 rfl ?_
            refine w_callv (As := []) (rest := []) (n := 0) (c_X11_keeps hm hnow hpa (by first | omega | with_reducible rfl) (by first | omega | with_reducible rfl) hPR) gX11_set_X11_keeps rfl rfl rfl (by decide +kernel) ⟨Nat.le_of_ble_eq_true rfl, Nat.le_of_ble_eq_true rfl⟩ rfl (by first | omega | with_reducible rfl) hm rfl (Nat.le_of_ble_eq_true rfl) ⟨Nat.zero_le _, Nat.zero_le _⟩ dX11_set_67 rfl (fun g_11 hp_12 => ?_)
            obtain ⟨Ps1_13, hm_14, hpa_15, hP1_67, hf_16⟩ := hp_12
            have hnow_17 : vIA cy B g_11 142 49 Nw := vIA_fr hnow (fun q h1 h2 => hf_16 q (by omega))
            have hfr_18 : ∀ q, (q ≠ 141 ∧ q ≠ 142 ∧ q ≠ 144) → g_11 q = g q := fun q hq => (hf_16 q (by omega)).trans (hfr_0 q hq)
            refine w_aload_n dX11_set_70 rfl 1 rfl ?_
            refine w_get (i := 0) (T := TX11) (NF := 32) 141 (by first | omega | with_reducible rfl) hm_14 rfl (fun _ h => (List.mem_cons_of_mem _ (List.mem_append_right _ h))) (by decide) (List.mem_of_getElem? (i := 1) rfl) rfl dX11_set_71 ?_
            refine w_iload_n dX11_set_74 rfl 2 rfl ?_
            refine w_iload_n dX11_set_75 rfl 3 rfl ?_
            refine w_iload_n dX11_set_76 rfl 4 rfl ?_
            refine w_iconst dX11_set_77 ?_
            refine w_iadd dX11_set_78 ?_
            refine w_calliS (As := [.int (zI ((k : Nat) : Int)), .int (zI j), .int (zI (what + 1))]) (rest := [.ref (B + 142)]) (n := 3) (c_X11_place ) gX11_set_X11_place rfl rfl rfl (by decide +kernel) ⟨Nat.le_of_ble_eq_true rfl, Nat.le_of_ble_eq_true rfl⟩ rfl (Nat.le_of_ble_eq_true rfl) ⟨Nat.zero_le _, Nat.zero_le _⟩ dX11_set_79 rfl (fun g_19 hp_20 => ?_)
            subst g_19
            refine w_as (st' := [.int (zI (4 + 15 * ((k : Nat) : Int) + 3 * j + 1)), .ref (B + 142)]) (sc_i (by omega) rfl) ?_
            refine w_iload dX11_set_82 5 rfl ?_
            refine w_iast 142 (by first | omega | with_reducible rfl) hnow_17 (by first | omega | with_reducible rfl) dX11_set_84 (fun g_21 he_22 hn_23 => ?_)
            have hm_24 : vM cy B g_21 141 ((((S :: P).take 6).length : Nat) : Int) le sp va o0 tn aw mw fw ls gs sn sw kr := vM_fr hm_14 (fun q h1 h2 => hn_23 q (by omega))
            have hnow_25 : vIA cy B g_21 142 49 (uZ Nw (4 + 15 * ((k : Nat) : Int) + 3 * j + 1) x) := he_22
            have hpa_26 : vIA cy B g_21 144 294 Ps1_13 := vIA_fr hpa_15 (fun q h1 h2 => hn_23 q (by omega))
            have hfr_27 : ∀ q, (q ≠ 141 ∧ q ≠ 142 ∧ q ≠ 144) → g_21 q = g q := fun q hq => (hn_23 q (by omega)).trans (hfr_18 q hq)
            refine w_iload dX11_set_85 0 rfl ?_
            exact w_iret dX11_set_87 rfl (by first | with_reducible rfl | omega | (split <;> omega)) ⟨(uZ Nw (4 + 15 * ((k : Nat) : Int) + 3 * j + 1) x), Ps1_13, hm_24, hnow_25, hpa_26, (ER_upX hER hkS hcS hj), hP1_67, hfr_27⟩
          · exfalso; omega
        · exfalso; omega
set_option maxHeartbeats 4000000 in
set_option maxRecDepth 100000 in
theorem m_v_X11_set {l : Launch} {D : va_G} {cy : Nat → ClassId} {B N : Nat} {g : Nat → va_E} {le sp va o0 tn aw mw fw ls gs sn sw kr : Int} {Nw Ps : Int → Int} {S : St} {P : List St} {k : Nat} {c : List Co} {j what x : Int} (hm : vM cy B g 141 ((P.length : Nat) : Int) le sp va o0 tn aw mw fw ls gs sn sw kr) (hnow : vIA cy B g 142 49 Nw) (hpa : vIA cy B g 144 294 Ps) (hN : 160 ≤ N) (hER : ER Nw S) (hkS : k < S.length) (hcS : S.getD k [] = c) (hc : cok c) (hPR : PR Ps P) (h_j : -2147483648 ≤ j ∧ j < 2147483648) (h_what : -2147483648 ≤ what ∧ what < 2147483648) (h_x : -2147483648 ≤ x ∧ x < 2147483648) (hj : 0 ≤ j ∧ j < c.length) (hwh : what = 1 ∧ 0 ≤ x ∧ x ≤ 9 ∧ ¬ coV c j = x) : CTi l yX11_set wsX11_set (rmo 3 65) D cy B N g [.ref (B + 141), .int (zI ((k : Nat) : Int)), .int (zI j), .int (zI what), .int (zI x)] (coV c j) (fun g' => ∃ Nw1 : Int → Int, ∃ Ps1 : Int → Int, vM cy B g' 141 ((((S :: P).take 6).length : Nat) : Int) le sp va o0 tn aw mw fw ls gs sn sw kr ∧ vIA cy B g' 142 49 Nw1 ∧ vIA cy B g' 144 294 Ps1 ∧ (ER Nw1 (S.set k (upV c j x))) ∧ (PR Ps1 ((S :: P).take 6)) ∧ (∀ q, (q ≠ 141 ∧ q ≠ 142 ∧ q ≠ 144) → g' q = g q)) := by
  refine WW_of (cc := cX11_set) (maxL := 6) (ret := (some .int)) (own := RX11) (by decide) rfl rfl (Nat.le_of_ble_eq_true rfl) rfl ?_
  intro pp ee ss mm bl me co hmn
  have hfr_0 : ∀ q, (q ≠ 141 ∧ q ≠ 142 ∧ q ≠ 144) → g q = g q := fun _ _ => rfl
  have hmc : MC Nw k c := by have h := hER.2 k hkS; rw [hcS] at h; exact h
  have hk3 := hmc.1
  have hcS2 : S.getD (((k : Nat) : Int)).toNat [] = c := by rw [Int.toNat_natCast]; exact hcS
  refine w_aload_n dX11_set_0 rfl 0 rfl ?_
  refine w_iload_n dX11_set_1 rfl 1 rfl ?_
  refine w_iload_n dX11_set_2 rfl 2 rfl ?_
  refine w_calli (As := [.int (zI ((k : Nat) : Int)), .int (zI j)]) (rest := []) (n := 2) (c_X11_isColumn hm hnow (by first | omega | with_reducible rfl) (by first | omega | with_reducible rfl) (by first | omega | with_reducible rfl) (by first | omega | with_reducible rfl)) gX11_set_X11_isColumn rfl rfl rfl (by decide +kernel) ⟨Nat.le_of_ble_eq_true rfl, Nat.le_of_ble_eq_true rfl⟩ rfl (by first | omega | with_reducible rfl) hm rfl (Nat.le_of_ble_eq_true rfl) ⟨Nat.zero_le _, Nat.zero_le _⟩ dX11_set_3 rfl (fun g_1 hp_2 => ?_)
  subst g_1
  refine w_ifeqB 43 dX11_set_6 (by decide) (fun c_6 => ?_) (fun c_6 => ?_)
  · rw [hcS2] at c_6
    exfalso; omega
  · rw [hcS2] at c_6
    refine w_iload_n dX11_set_9 rfl 3 rfl ?_
    refine w_iconst dX11_set_10 ?_
    refine w_iconst dX11_set_11 ?_
    refine w_calliS (As := [.int (zI what), .int (zI 0), .int (zI 1)]) (rest := []) (n := 3) (c_X11_in (by first | omega | with_reducible rfl) (by first | omega | with_reducible rfl) (by first | omega | with_reducible rfl)) gX11_set_X11_in rfl rfl rfl (by decide +kernel) ⟨Nat.le_of_ble_eq_true rfl, Nat.le_of_ble_eq_true rfl⟩ rfl (Nat.le_of_ble_eq_true rfl) ⟨Nat.zero_le _, Nat.zero_le _⟩ dX11_set_12 rfl (fun g_3 hp_4 => ?_)
    subst g_3
    refine w_ifeqB 43 dX11_set_15 (by decide) (fun c_15 => ?_) (fun c_15 => ?_)
    · exfalso; omega
    · refine w_iload dX11_set_18 4 rfl ?_
      refine w_iconst dX11_set_20 ?_
      refine w_iload_n dX11_set_21 rfl 3 rfl ?_
      refine w_if_ne 35 dX11_set_22 (by decide) (by first | omega | with_reducible rfl) (fun c_22 => ?_) (fun c_22 => ?_)
      · refine w_bipush dX11_set_35 (by decide) ?_
        refine w_calliS (As := [.int (zI x), .int (zI 0), .int (zI 9)]) (rest := []) (n := 3) (c_X11_in (by first | omega | with_reducible rfl) (by first | omega | with_reducible rfl) (by first | omega | with_reducible rfl)) gX11_set_X11_in rfl rfl rfl (by decide +kernel) ⟨Nat.le_of_ble_eq_true rfl, Nat.le_of_ble_eq_true rfl⟩ rfl (Nat.le_of_ble_eq_true rfl) ⟨Nat.zero_le _, Nat.zero_le _⟩ dX11_set_37 rfl (fun g_5 hp_6 => ?_)
        subst g_5
        refine w_ifneB 45 dX11_set_40 (by decide) (fun c_40 => ?_) (fun c_40 => ?_)
        · refine w_aload_n dX11_set_45 rfl 0 rfl ?_
          refine w_iload_n dX11_set_46 rfl 1 rfl ?_
          refine w_iload_n dX11_set_47 rfl 2 rfl ?_
          refine w_iload_n dX11_set_48 rfl 3 rfl ?_
          refine w_iconst dX11_set_49 ?_
          refine w_iadd dX11_set_50 ?_
          refine w_calli (As := [.int (zI ((k : Nat) : Int)), .int (zI j), .int (zI (what + 1))]) (rest := []) (n := 3) (c_X11_of (k := k) hm hnow (by first | omega | with_reducible rfl) (by first | omega | with_reducible rfl) (by first | omega | with_reducible rfl) (by first | omega | with_reducible rfl)) gX11_set_X11_of rfl rfl rfl (by decide +kernel) ⟨Nat.le_of_ble_eq_true rfl, Nat.le_of_ble_eq_true rfl⟩ rfl (by first | omega | with_reducible rfl) hm rfl (Nat.le_of_ble_eq_true rfl) ⟨Nat.zero_le _, Nat.zero_le _⟩ dX11_set_51 rfl (fun g_7 hp_8 => ?_)
          subst g_7
          have hcj2 := hc.2 j (by omega) (by omega)
          refine w_as (st' := [.int (zI (coV c j))]) (sc_i (by rw [show what + 1 = 2 by omega]; rfl) rfl) ?_
          refine w_istore [(5, .int (zI (coV c j))), (0, .ref (B + 141)), (1, .int (zI ((k : Nat) : Int))), (2, .int (zI j)), (3, .int (zI what)), (4, .int (zI x))] dX11_set_54 (by decide) rfl ?_
          refine w_iload dX11_set_56 0 rfl ?_
          refine w_iload dX11_set_58 5 rfl ?_
          refine w_icmp_ne 66 dX11_set_60 (by decide) (by first | omega | with_reducible rfl) (by first | omega | with_reducible rfl) (fun c_60 => ?_) (fun c_60 => ?_)
          · refine w_aload_n dX11_set_66 rfl 1 rfl ?_
            refine w_callv (As := []) (rest := []) (n := 0) (c_X11_keeps hm hnow hpa (by first | omega | with_reducible rfl) (by first | omega | with_reducible rfl) hPR) gX11_set_X11_keeps rfl rfl rfl (by decide +kernel) ⟨Nat.le_of_ble_eq_true rfl, Nat.le_of_ble_eq_true rfl⟩ rfl (by first | omega | with_reducible rfl) hm rfl (Nat.le_of_ble_eq_true rfl) ⟨Nat.zero_le _, Nat.zero_le _⟩ dX11_set_67 rfl (fun g_9 hp_10 => ?_)
            obtain ⟨Ps1_11, hm_12, hpa_13, hP1_67, hf_14⟩ := hp_10
            have hnow_15 : vIA cy B g_9 142 49 Nw := vIA_fr hnow (fun q h1 h2 => hf_14 q (by omega))
            have hfr_16 : ∀ q, (q ≠ 141 ∧ q ≠ 142 ∧ q ≠ 144) → g_9 q = g q := fun q hq => (hf_14 q (by omega)).trans (hfr_0 q hq)
            refine w_aload_n dX11_set_70 rfl 1 rfl ?_
            refine w_get (i := 0) (T := TX11) (NF := 32) 141 (by first | omega | with_reducible rfl) hm_12 rfl (fun _ h => (List.mem_cons_of_mem _ (List.mem_append_right _ h))) (by decide) (List.mem_of_getElem? (i := 1) rfl) rfl dX11_set_71 ?_
            refine w_iload_n dX11_set_74 rfl 2 rfl ?_
            refine w_iload_n dX11_set_75 rfl 3 rfl ?_
            refine w_iload_n dX11_set_76 rfl 4 rfl ?_
            refine w_iconst dX11_set_77 ?_
            refine w_iadd dX11_set_78 ?_
            refine w_calliS (As := [.int (zI ((k : Nat) : Int)), .int (zI j), .int (zI (what + 1))]) (rest := [.ref (B + 142)]) (n := 3) (c_X11_place ) gX11_set_X11_place rfl rfl rfl (by decide +kernel) ⟨Nat.le_of_ble_eq_true rfl, Nat.le_of_ble_eq_true rfl⟩ rfl (Nat.le_of_ble_eq_true rfl) ⟨Nat.zero_le _, Nat.zero_le _⟩ dX11_set_79 rfl (fun g_17 hp_18 => ?_)
            subst g_17
            refine w_as (st' := [.int (zI (4 + 15 * ((k : Nat) : Int) + 3 * j + 2)), .ref (B + 142)]) (sc_i (by omega) rfl) ?_
            refine w_iload dX11_set_82 5 rfl ?_
            refine w_iast 142 (by first | omega | with_reducible rfl) hnow_15 (by first | omega | with_reducible rfl) dX11_set_84 (fun g_19 he_20 hn_21 => ?_)
            have hm_22 : vM cy B g_19 141 ((((S :: P).take 6).length : Nat) : Int) le sp va o0 tn aw mw fw ls gs sn sw kr := vM_fr hm_12 (fun q h1 h2 => hn_21 q (by omega))
            have hnow_23 : vIA cy B g_19 142 49 (uZ Nw (4 + 15 * ((k : Nat) : Int) + 3 * j + 2) x) := he_20
            have hpa_24 : vIA cy B g_19 144 294 Ps1_11 := vIA_fr hpa_13 (fun q h1 h2 => hn_21 q (by omega))
            have hfr_25 : ∀ q, (q ≠ 141 ∧ q ≠ 142 ∧ q ≠ 144) → g_19 q = g q := fun q hq => (hn_21 q (by omega)).trans (hfr_16 q hq)
            refine w_iload dX11_set_85 0 rfl ?_
            exact w_iret dX11_set_87 rfl (by first | with_reducible rfl | omega | (split <;> omega)) ⟨(uZ Nw (4 + 15 * ((k : Nat) : Int) + 3 * j + 2) x), Ps1_11, hm_22, hnow_23, hpa_24, (ER_upV hER hkS hcS hj), hP1_67, hfr_25⟩
          · exfalso; omega
        · exfalso; omega
      · exfalso; omega

set_option maxHeartbeats 4000000 in
set_option maxRecDepth 100000 in
theorem m_n_X11_move {l : Launch} {D : va_G} {cy : Nat → ClassId} {B N : Nat} {g : Nat → va_E} {cg le sp va o0 tn aw mw fw ls gs sn sw kr : Int} {Nw : Int → Int} {S : St} {s a b : Int} (hm : vM cy B g 141 cg le sp va o0 tn aw mw fw ls gs sn sw kr) (hnow : vIA cy B g 142 49 Nw) (hN : 160 ≤ N) (hER : ER Nw S) (h_s : -2147483648 ≤ s ∧ s < 2147483648) (h_a : -2147483648 ≤ a ∧ a < 2147483648) (h_b : -2147483648 ≤ b ∧ b < 2147483648) (hb : ¬ (0 ≤ s ∧ s < S.length)) : CTi l yX11_move wsX11_move (rmo 3 65) D cy B N g [.ref (B + 141), .int (zI s), .int (zI a), .int (zI b)] (-1) (fun g' => g' = g) := by
  refine WW_of (cc := cX11_move) (maxL := 4) (ret := (some .int)) (own := RX11) (by decide) rfl rfl (Nat.le_of_ble_eq_true rfl) rfl ?_
  intro pp ee ss mm bl me co hmn
  refine w_aload_n dX11_move_0 rfl 0 rfl ?_
  refine w_iload_n dX11_move_1 rfl 1 rfl ?_
  refine w_iload_n dX11_move_2 rfl 2 rfl ?_
  refine w_calli (As := [.int (zI s), .int (zI a)]) (rest := []) (n := 2) (c_X11_isColumn hm hnow (by first | omega | with_reducible rfl) (by first | omega | with_reducible rfl) (by first | omega | with_reducible rfl) (by first | omega | with_reducible rfl)) gX11_move_X11_isColumn rfl rfl rfl (by decide +kernel) ⟨Nat.le_of_ble_eq_true rfl, Nat.le_of_ble_eq_true rfl⟩ rfl (by first | omega | with_reducible rfl) hm rfl (Nat.le_of_ble_eq_true rfl) ⟨Nat.zero_le _, Nat.zero_le _⟩ dX11_move_3 rfl (fun g_1 hp_2 => ?_)
  subst g_1
  refine w_ifeqB 23 dX11_move_6 (by decide) (fun c_6 => ?_) (fun c_6 => ?_)
  · refine w_iconst dX11_move_23 ?_
    exact w_iret dX11_move_24 rfl (by first | with_reducible rfl | omega | (split <;> omega)) rfl
  · exfalso; omega
set_option maxHeartbeats 4000000 in
set_option maxRecDepth 100000 in
theorem m_b_X11_move {l : Launch} {D : va_G} {cy : Nat → ClassId} {B N : Nat} {g : Nat → va_E} {le sp va o0 tn aw mw fw ls gs sn sw kr : Int} {Nw Ps : Int → Int} {S : St} {P : List St} {k : Nat} {c : List Co} {a b : Int} (hm : vM cy B g 141 ((P.length : Nat) : Int) le sp va o0 tn aw mw fw ls gs sn sw kr) (hnow : vIA cy B g 142 49 Nw) (hpa : vIA cy B g 144 294 Ps) (hN : 160 ≤ N) (hER : ER Nw S) (hkS : k < S.length) (hcS : S.getD k [] = c) (hc : cok c) (hPR : PR Ps P) (h_a : -2147483648 ≤ a ∧ a < 2147483648) (h_b : -2147483648 ≤ b ∧ b < 2147483648) (hb : a = b ∨ ¬ (0 ≤ a ∧ a < c.length) ∨ ¬ (0 ≤ b ∧ b < c.length)) : CTi l yX11_move wsX11_move (rmo 3 65) D cy B N g [.ref (B + 141), .int (zI ((k : Nat) : Int)), .int (zI a), .int (zI b)] (-1) (fun g' => g' = g) := by
  refine WW_of (cc := cX11_move) (maxL := 4) (ret := (some .int)) (own := RX11) (by decide) rfl rfl (Nat.le_of_ble_eq_true rfl) rfl ?_
  intro pp ee ss mm bl me co hmn
  have hmc : MC Nw k c := by have h := hER.2 k hkS; rw [hcS] at h; exact h
  have hk3 := hmc.1
  have hcS2 : S.getD (((k : Nat) : Int)).toNat [] = c := by rw [Int.toNat_natCast]; exact hcS
  refine w_aload_n dX11_move_0 rfl 0 rfl ?_
  refine w_iload_n dX11_move_1 rfl 1 rfl ?_
  refine w_iload_n dX11_move_2 rfl 2 rfl ?_
  refine w_calli (As := [.int (zI ((k : Nat) : Int)), .int (zI a)]) (rest := []) (n := 2) (c_X11_isColumn hm hnow (by first | omega | with_reducible rfl) (by first | omega | with_reducible rfl) (by first | omega | with_reducible rfl) (by first | omega | with_reducible rfl)) gX11_move_X11_isColumn rfl rfl rfl (by decide +kernel) ⟨Nat.le_of_ble_eq_true rfl, Nat.le_of_ble_eq_true rfl⟩ rfl (by first | omega | with_reducible rfl) hm rfl (Nat.le_of_ble_eq_true rfl) ⟨Nat.zero_le _, Nat.zero_le _⟩ dX11_move_3 rfl (fun g_1 hp_2 => ?_)
  subst g_1
  refine w_ifeqB 23 dX11_move_6 (by decide) (fun c_6 => ?_) (fun c_6 => ?_)
  · rw [hcS2] at c_6
    refine w_iconst dX11_move_23 ?_
    exact w_iret dX11_move_24 rfl (by first | with_reducible rfl | omega | (split <;> omega)) rfl
  · rw [hcS2] at c_6
    refine w_aload_n dX11_move_9 rfl 0 rfl ?_
    refine w_iload_n dX11_move_10 rfl 1 rfl ?_
    refine w_iload_n dX11_move_11 rfl 3 rfl ?_
    refine w_calli (As := [.int (zI ((k : Nat) : Int)), .int (zI b)]) (rest := []) (n := 2) (c_X11_isColumn hm hnow (by first | omega | with_reducible rfl) (by first | omega | with_reducible rfl) (by first | omega | with_reducible rfl) (by first | omega | with_reducible rfl)) gX11_move_X11_isColumn rfl rfl rfl (by decide +kernel) ⟨Nat.le_of_ble_eq_true rfl, Nat.le_of_ble_eq_true rfl⟩ rfl (by first | omega | with_reducible rfl) hm rfl (Nat.le_of_ble_eq_true rfl) ⟨Nat.zero_le _, Nat.zero_le _⟩ dX11_move_12 rfl (fun g_3 hp_4 => ?_)
    subst g_3
    refine w_ifeqB 23 dX11_move_15 (by decide) (fun c_15 => ?_) (fun c_15 => ?_)
    · rw [hcS2] at c_15
      refine w_iconst dX11_move_23 ?_
      exact w_iret dX11_move_24 rfl (by first | with_reducible rfl | omega | (split <;> omega)) rfl
    · rw [hcS2] at c_15
      refine w_iload_n dX11_move_18 rfl 2 rfl ?_
      refine w_iload_n dX11_move_19 rfl 3 rfl ?_
      refine w_icmp_ne 25 dX11_move_20 (by decide) (by first | omega | with_reducible rfl) (by first | omega | with_reducible rfl) (fun c_20 => ?_) (fun c_20 => ?_)
      · exfalso; omega
      · refine w_iconst dX11_move_23 ?_
        exact w_iret dX11_move_24 rfl (by first | with_reducible rfl | omega | (split <;> omega)) rfl
set_option maxHeartbeats 4000000 in
set_option maxRecDepth 100000 in
theorem m_s_X11_move {l : Launch} {D : va_G} {cy : Nat → ClassId} {B N : Nat} {g : Nat → va_E} {le sp va o0 tn aw mw fw ls gs sn sw kr : Int} {Nw Ps : Int → Int} {S : St} {P : List St} {k : Nat} {c : List Co} {a b : Int} (hm : vM cy B g 141 ((P.length : Nat) : Int) le sp va o0 tn aw mw fw ls gs sn sw kr) (hnow : vIA cy B g 142 49 Nw) (hpa : vIA cy B g 144 294 Ps) (hN : 160 ≤ N) (hER : ER Nw S) (hkS : k < S.length) (hcS : S.getD k [] = c) (hc : cok c) (hPR : PR Ps P) (h_a : -2147483648 ≤ a ∧ a < 2147483648) (h_b : -2147483648 ≤ b ∧ b < 2147483648) (ha : 0 ≤ a ∧ a < c.length) (hb : 0 ≤ b ∧ b < c.length) (hab : ¬ a = b) (hz : coX c a = 0 ∨ coX c b = coT c b) : CTi l yX11_move wsX11_move (rmo 3 65) D cy B N g [.ref (B + 141), .int (zI ((k : Nat) : Int)), .int (zI a), .int (zI b)] (-2) (fun g' => g' = g) := by
  refine WW_of (cc := cX11_move) (maxL := 4) (ret := (some .int)) (own := RX11) (by decide) rfl rfl (Nat.le_of_ble_eq_true rfl) rfl ?_
  intro pp ee ss mm bl me co hmn
  have hmc : MC Nw k c := by have h := hER.2 k hkS; rw [hcS] at h; exact h
  have hk3 := hmc.1
  have hcS2 : S.getD (((k : Nat) : Int)).toNat [] = c := by rw [Int.toNat_natCast]; exact hcS
  refine w_aload_n dX11_move_0 rfl 0 rfl ?_
  refine w_iload_n dX11_move_1 rfl 1 rfl ?_
  refine w_iload_n dX11_move_2 rfl 2 rfl ?_
  refine w_calli (As := [.int (zI ((k : Nat) : Int)), .int (zI a)]) (rest := []) (n := 2) (c_X11_isColumn hm hnow (by first | omega | with_reducible rfl) (by first | omega | with_reducible rfl) (by first | omega | with_reducible rfl) (by first | omega | with_reducible rfl)) gX11_move_X11_isColumn rfl rfl rfl (by decide +kernel) ⟨Nat.le_of_ble_eq_true rfl, Nat.le_of_ble_eq_true rfl⟩ rfl (by first | omega | with_reducible rfl) hm rfl (Nat.le_of_ble_eq_true rfl) ⟨Nat.zero_le _, Nat.zero_le _⟩ dX11_move_3 rfl (fun g_1 hp_2 => ?_)
  subst g_1
  refine w_ifeqB 23 dX11_move_6 (by decide) (fun c_6 => ?_) (fun c_6 => ?_)
  · rw [hcS2] at c_6
    exfalso; omega
  · rw [hcS2] at c_6
    refine w_aload_n dX11_move_9 rfl 0 rfl ?_
    refine w_iload_n dX11_move_10 rfl 1 rfl ?_
    refine w_iload_n dX11_move_11 rfl 3 rfl ?_
    refine w_calli (As := [.int (zI ((k : Nat) : Int)), .int (zI b)]) (rest := []) (n := 2) (c_X11_isColumn hm hnow (by first | omega | with_reducible rfl) (by first | omega | with_reducible rfl) (by first | omega | with_reducible rfl) (by first | omega | with_reducible rfl)) gX11_move_X11_isColumn rfl rfl rfl (by decide +kernel) ⟨Nat.le_of_ble_eq_true rfl, Nat.le_of_ble_eq_true rfl⟩ rfl (by first | omega | with_reducible rfl) hm rfl (Nat.le_of_ble_eq_true rfl) ⟨Nat.zero_le _, Nat.zero_le _⟩ dX11_move_12 rfl (fun g_3 hp_4 => ?_)
    subst g_3
    refine w_ifeqB 23 dX11_move_15 (by decide) (fun c_15 => ?_) (fun c_15 => ?_)
    · rw [hcS2] at c_15
      exfalso; omega
    · rw [hcS2] at c_15
      refine w_iload_n dX11_move_18 rfl 2 rfl ?_
      refine w_iload_n dX11_move_19 rfl 3 rfl ?_
      refine w_icmp_ne 25 dX11_move_20 (by decide) (by first | omega | with_reducible rfl) (by first | omega | with_reducible rfl) (fun c_20 => ?_) (fun c_20 => ?_)
      · refine w_aload_n dX11_move_25 rfl 0 rfl ?_
        refine w_iload_n dX11_move_26 rfl 1 rfl ?_
        refine w_iload_n dX11_move_27 rfl 2 rfl ?_
        refine w_iconst dX11_move_28 ?_
        refine w_calli (As := [.int (zI ((k : Nat) : Int)), .int (zI a), .int (zI 1)]) (rest := []) (n := 3) (c_X11_of1 (k := k) hm hnow (by first | omega | with_reducible rfl) (by first | omega | with_reducible rfl) (by first | omega | with_reducible rfl)) gX11_move_X11_of rfl rfl rfl (by decide +kernel) ⟨Nat.le_of_ble_eq_true rfl, Nat.le_of_ble_eq_true rfl⟩ rfl (by first | omega | with_reducible rfl) hm rfl (Nat.le_of_ble_eq_true rfl) ⟨Nat.zero_le _, Nat.zero_le _⟩ dX11_move_29 rfl (fun g_5 hp_6 => ?_)
        subst g_5
        have hca := hc.2 a (by omega) (by omega)
        have hcb := hc.2 b (by omega) (by omega)
        refine w_if_eq 52 dX11_move_32 (by decide) (by first | omega | with_reducible rfl) (fun c_32 => ?_) (fun c_32 => ?_)
        · refine w_bipush dX11_move_52 (by decide) ?_
          exact w_iret dX11_move_54 rfl (by first | with_reducible rfl | omega | (split <;> omega)) rfl
        · refine w_aload_n dX11_move_35 rfl 0 rfl ?_
          refine w_iload_n dX11_move_36 rfl 1 rfl ?_
          refine w_iload_n dX11_move_37 rfl 3 rfl ?_
          refine w_iconst dX11_move_38 ?_
          refine w_calli (As := [.int (zI ((k : Nat) : Int)), .int (zI b), .int (zI 1)]) (rest := []) (n := 3) (c_X11_of1 (k := k) hm hnow (by first | omega | with_reducible rfl) (by first | omega | with_reducible rfl) (by first | omega | with_reducible rfl)) gX11_move_X11_of rfl rfl rfl (by decide +kernel) ⟨Nat.le_of_ble_eq_true rfl, Nat.le_of_ble_eq_true rfl⟩ rfl (by first | omega | with_reducible rfl) hm rfl (Nat.le_of_ble_eq_true rfl) ⟨Nat.zero_le _, Nat.zero_le _⟩ dX11_move_39 rfl (fun g_7 hp_8 => ?_)
          subst g_7
          refine w_aload_n dX11_move_42 rfl 0 rfl ?_
          refine w_iload_n dX11_move_43 rfl 1 rfl ?_
          refine w_iload_n dX11_move_44 rfl 3 rfl ?_
          refine w_iconst dX11_move_45 ?_
          refine w_calli (As := [.int (zI ((k : Nat) : Int)), .int (zI b), .int (zI 0)]) (rest := [.int (zI (coX c b))]) (n := 3) (c_X11_of0 (k := k) hm hnow (by first | omega | with_reducible rfl) (by first | omega | with_reducible rfl) (by first | omega | with_reducible rfl)) gX11_move_X11_of rfl rfl rfl (by decide +kernel) ⟨Nat.le_of_ble_eq_true rfl, Nat.le_of_ble_eq_true rfl⟩ rfl (by first | omega | with_reducible rfl) hm rfl (Nat.le_of_ble_eq_true rfl) ⟨Nat.zero_le _, Nat.zero_le _⟩ dX11_move_46 rfl (fun g_9 hp_10 => ?_)
          subst g_9
          refine w_icmp_ne 55 dX11_move_49 (by decide) (by first | omega | with_reducible rfl) (by first | omega | with_reducible rfl) (fun c_49 => ?_) (fun c_49 => ?_)
          · exfalso; omega
          · refine w_bipush dX11_move_52 (by decide) ?_
            exact w_iret dX11_move_54 rfl (by first | with_reducible rfl | omega | (split <;> omega)) rfl
      · exfalso; omega
set_option maxHeartbeats 4000000 in
set_option maxRecDepth 100000 in
theorem m_y_X11_move {l : Launch} {D : va_G} {cy : Nat → ClassId} {B N : Nat} {g : Nat → va_E} {le sp va o0 tn aw mw fw ls gs sn sw kr : Int} {Nw Ps : Int → Int} {S : St} {P : List St} {k : Nat} {c : List Co} {a b : Int} (hm : vM cy B g 141 ((P.length : Nat) : Int) le sp va o0 tn aw mw fw ls gs sn sw kr) (hnow : vIA cy B g 142 49 Nw) (hpa : vIA cy B g 144 294 Ps) (hN : 160 ≤ N) (hER : ER Nw S) (hkS : k < S.length) (hcS : S.getD k [] = c) (hc : cok c) (hPR : PR Ps P) (h_a : -2147483648 ≤ a ∧ a < 2147483648) (h_b : -2147483648 ≤ b ∧ b < 2147483648) (ha : 0 ≤ a ∧ a < c.length) (hb : 0 ≤ b ∧ b < c.length) (hab : ¬ a = b) (hz : ¬ coX c a = 0 ∧ ¬ coX c b = coT c b) : CTi l yX11_move wsX11_move (rmo 3 65) D cy B N g [.ref (B + 141), .int (zI ((k : Nat) : Int)), .int (zI a), .int (zI b)] (coX c b + 1) (fun g' => ∃ Nw1 : Int → Int, ∃ Ps1 : Int → Int, vM cy B g' 141 ((((S :: P).take 6).length : Nat) : Int) le sp va o0 tn aw mw fw ls gs sn sw kr ∧ vIA cy B g' 142 49 Nw1 ∧ vIA cy B g' 144 294 Ps1 ∧ (ER Nw1 (S.set k (upX (upX c a (coX c a - 1)) b (coX c b + 1)))) ∧ (PR Ps1 ((S :: P).take 6)) ∧ (∀ q, (q ≠ 141 ∧ q ≠ 142 ∧ q ≠ 144) → g' q = g q)) := by
  refine WW_of (cc := cX11_move) (maxL := 4) (ret := (some .int)) (own := RX11) (by decide) rfl rfl (Nat.le_of_ble_eq_true rfl) rfl ?_
  intro pp ee ss mm bl me co hmn
  have hfr_0 : ∀ q, (q ≠ 141 ∧ q ≠ 142 ∧ q ≠ 144) → g q = g q := fun _ _ => rfl
  have hmc : MC Nw k c := by have h := hER.2 k hkS; rw [hcS] at h; exact h
  have hk3 := hmc.1
  have hcS2 : S.getD (((k : Nat) : Int)).toNat [] = c := by rw [Int.toNat_natCast]; exact hcS
  refine w_aload_n dX11_move_0 rfl 0 rfl ?_
  refine w_iload_n dX11_move_1 rfl 1 rfl ?_
  refine w_iload_n dX11_move_2 rfl 2 rfl ?_
  refine w_calli (As := [.int (zI ((k : Nat) : Int)), .int (zI a)]) (rest := []) (n := 2) (c_X11_isColumn hm hnow (by first | omega | with_reducible rfl) (by first | omega | with_reducible rfl) (by first | omega | with_reducible rfl) (by first | omega | with_reducible rfl)) gX11_move_X11_isColumn rfl rfl rfl (by decide +kernel) ⟨Nat.le_of_ble_eq_true rfl, Nat.le_of_ble_eq_true rfl⟩ rfl (by first | omega | with_reducible rfl) hm rfl (Nat.le_of_ble_eq_true rfl) ⟨Nat.zero_le _, Nat.zero_le _⟩ dX11_move_3 rfl (fun g_1 hp_2 => ?_)
  subst g_1
  refine w_ifeqB 23 dX11_move_6 (by decide) (fun c_6 => ?_) (fun c_6 => ?_)
  · rw [hcS2] at c_6
    exfalso; omega
  · rw [hcS2] at c_6
    refine w_aload_n dX11_move_9 rfl 0 rfl ?_
    refine w_iload_n dX11_move_10 rfl 1 rfl ?_
    refine w_iload_n dX11_move_11 rfl 3 rfl ?_
    refine w_calli (As := [.int (zI ((k : Nat) : Int)), .int (zI b)]) (rest := []) (n := 2) (c_X11_isColumn hm hnow (by first | omega | with_reducible rfl) (by first | omega | with_reducible rfl) (by first | omega | with_reducible rfl) (by first | omega | with_reducible rfl)) gX11_move_X11_isColumn rfl rfl rfl (by decide +kernel) ⟨Nat.le_of_ble_eq_true rfl, Nat.le_of_ble_eq_true rfl⟩ rfl (by first | omega | with_reducible rfl) hm rfl (Nat.le_of_ble_eq_true rfl) ⟨Nat.zero_le _, Nat.zero_le _⟩ dX11_move_12 rfl (fun g_3 hp_4 => ?_)
    subst g_3
    refine w_ifeqB 23 dX11_move_15 (by decide) (fun c_15 => ?_) (fun c_15 => ?_)
    · rw [hcS2] at c_15
      exfalso; omega
    · rw [hcS2] at c_15
      refine w_iload_n dX11_move_18 rfl 2 rfl ?_
      refine w_iload_n dX11_move_19 rfl 3 rfl ?_
      refine w_icmp_ne 25 dX11_move_20 (by decide) (by first | omega | with_reducible rfl) (by first | omega | with_reducible rfl) (fun c_20 => ?_) (fun c_20 => ?_)
      · refine w_aload_n dX11_move_25 rfl 0 rfl ?_
        refine w_iload_n dX11_move_26 rfl 1 rfl ?_
        refine w_iload_n dX11_move_27 rfl 2 rfl ?_
        refine w_iconst dX11_move_28 ?_
        refine w_calli (As := [.int (zI ((k : Nat) : Int)), .int (zI a), .int (zI 1)]) (rest := []) (n := 3) (c_X11_of1 (k := k) hm hnow (by first | omega | with_reducible rfl) (by first | omega | with_reducible rfl) (by first | omega | with_reducible rfl)) gX11_move_X11_of rfl rfl rfl (by decide +kernel) ⟨Nat.le_of_ble_eq_true rfl, Nat.le_of_ble_eq_true rfl⟩ rfl (by first | omega | with_reducible rfl) hm rfl (Nat.le_of_ble_eq_true rfl) ⟨Nat.zero_le _, Nat.zero_le _⟩ dX11_move_29 rfl (fun g_5 hp_6 => ?_)
        subst g_5
        have hca := hc.2 a (by omega) (by omega)
        have hcb := hc.2 b (by omega) (by omega)
        refine w_if_eq 52 dX11_move_32 (by decide) (by first | omega | with_reducible rfl) (fun c_32 => ?_) (fun c_32 => ?_)
        · exfalso; omega
        · refine w_aload_n dX11_move_35 rfl 0 rfl ?_
          refine w_iload_n dX11_move_36 rfl 1 rfl ?_
          refine w_iload_n dX11_move_37 rfl 3 rfl ?_
          refine w_iconst dX11_move_38 ?_
          refine w_calli (As := [.int (zI ((k : Nat) : Int)), .int (zI b), .int (zI 1)]) (rest := []) (n := 3) (c_X11_of1 (k := k) hm hnow (by first | omega | with_reducible rfl) (by first | omega | with_reducible rfl) (by first | omega | with_reducible rfl)) gX11_move_X11_of rfl rfl rfl (by decide +kernel) ⟨Nat.le_of_ble_eq_true rfl, Nat.le_of_ble_eq_true rfl⟩ rfl (by first | omega | with_reducible rfl) hm rfl (Nat.le_of_ble_eq_true rfl) ⟨Nat.zero_le _, Nat.zero_le _⟩ dX11_move_39 rfl (fun g_7 hp_8 => ?_)
          subst g_7
          refine w_aload_n dX11_move_42 rfl 0 rfl ?_
          refine w_iload_n dX11_move_43 rfl 1 rfl ?_
          refine w_iload_n dX11_move_44 rfl 3 rfl ?_
          refine w_iconst dX11_move_45 ?_
          refine w_calli (As := [.int (zI ((k : Nat) : Int)), .int (zI b), .int (zI 0)]) (rest := [.int (zI (coX c b))]) (n := 3) (c_X11_of0 (k := k) hm hnow (by first | omega | with_reducible rfl) (by first | omega | with_reducible rfl) (by first | omega | with_reducible rfl)) gX11_move_X11_of rfl rfl rfl (by decide +kernel) ⟨Nat.le_of_ble_eq_true rfl, Nat.le_of_ble_eq_true rfl⟩ rfl (by first | omega | with_reducible rfl) hm rfl (Nat.le_of_ble_eq_true rfl) ⟨Nat.zero_le _, Nat.zero_le _⟩ dX11_move_46 rfl (fun g_9 hp_10 => ?_)
          subst g_9
          refine w_icmp_ne 55 dX11_move_49 (by decide) (by first | omega | with_reducible rfl) (by first | omega | with_reducible rfl) (fun c_49 => ?_) (fun c_49 => ?_)
          · refine w_aload_n dX11_move_55 rfl 0 rfl ?_
            refine w_callv (As := []) (rest := []) (n := 0) (c_X11_keeps hm hnow hpa (by first | omega | with_reducible rfl) (by first | omega | with_reducible rfl) hPR) gX11_move_X11_keeps rfl rfl rfl (by decide +kernel) ⟨Nat.le_of_ble_eq_true rfl, Nat.le_of_ble_eq_true rfl⟩ rfl (by first | omega | with_reducible rfl) hm rfl (Nat.le_of_ble_eq_true rfl) ⟨Nat.zero_le _, Nat.zero_le _⟩ dX11_move_56 rfl (fun g_11 hp_12 => ?_)
            obtain ⟨Ps1_13, hm_14, hpa_15, hP1_56, hf_16⟩ := hp_12
            have hnow_17 : vIA cy B g_11 142 49 Nw := vIA_fr hnow (fun q h1 h2 => hf_16 q (by omega))
            have hfr_18 : ∀ q, (q ≠ 141 ∧ q ≠ 142 ∧ q ≠ 144) → g_11 q = g q := fun q hq => (hf_16 q (by omega)).trans (hfr_0 q hq)
            refine w_aload_n dX11_move_59 rfl 0 rfl ?_
            refine w_get (i := 0) (T := TX11) (NF := 32) 141 (by first | omega | with_reducible rfl) hm_14 rfl (fun _ h => (List.mem_cons_of_mem _ (List.mem_append_right _ h))) (by decide) (List.mem_of_getElem? (i := 1) rfl) rfl dX11_move_60 ?_
            refine w_iload_n dX11_move_63 rfl 1 rfl ?_
            refine w_iload_n dX11_move_64 rfl 2 rfl ?_
            refine w_iconst dX11_move_65 ?_
            refine w_calliS (As := [.int (zI ((k : Nat) : Int)), .int (zI a), .int (zI 1)]) (rest := [.ref (B + 142)]) (n := 3) (c_X11_place ) gX11_move_X11_place rfl rfl rfl (by decide +kernel) ⟨Nat.le_of_ble_eq_true rfl, Nat.le_of_ble_eq_true rfl⟩ rfl (Nat.le_of_ble_eq_true rfl) ⟨Nat.zero_le _, Nat.zero_le _⟩ dX11_move_66 rfl (fun g_19 hp_20 => ?_)
            subst g_19
            refine w_dup2 dX11_move_69 rfl rfl ?_
            refine w_iald 142 (by first | omega | with_reducible rfl) hnow_17 (by first | omega | with_reducible rfl) dX11_move_70 ?_
            refine w_as (st' := [.int (zI (coX c a)), .int (zI (4 + 15 * ((k : Nat) : Int) + 3 * a + 1)), .ref (B + 142)]) (sc_i (MC_i hmc ha.1 ha.2).2.1 rfl) ?_
            refine w_iconst dX11_move_71 ?_
            refine w_isub dX11_move_72 ?_
            refine w_iast 142 (by first | omega | with_reducible rfl) hnow_17 (by first | omega | with_reducible rfl) dX11_move_73 (fun g_21 he_22 hn_23 => ?_)
            have hm_24 : vM cy B g_21 141 ((((S :: P).take 6).length : Nat) : Int) le sp va o0 tn aw mw fw ls gs sn sw kr := vM_fr hm_14 (fun q h1 h2 => hn_23 q (by omega))
            have hnow_25 : vIA cy B g_21 142 49 (uZ Nw (4 + 15 * ((k : Nat) : Int) + 3 * a + 1) ((coX c a) - 1)) := he_22
            have hpa_26 : vIA cy B g_21 144 294 Ps1_13 := vIA_fr hpa_15 (fun q h1 h2 => hn_23 q (by omega))
            have hfr_27 : ∀ q, (q ≠ 141 ∧ q ≠ 142 ∧ q ≠ 144) → g_21 q = g q := fun q hq => (hn_23 q (by omega)).trans (hfr_18 q hq)
            refine w_aload_n dX11_move_74 rfl 0 rfl ?_
            refine w_get (i := 0) (T := TX11) (NF := 32) 141 (by first | omega | with_reducible rfl) hm_24 rfl (fun _ h => (List.mem_cons_of_mem _ (List.mem_append_right _ h))) (by decide) (List.mem_of_getElem? (i := 1) rfl) rfl dX11_move_75 ?_
            refine w_iload_n dX11_move_78 rfl 1 rfl ?_
            refine w_iload_n dX11_move_79 rfl 3 rfl ?_
            refine w_iconst dX11_move_80 ?_
            refine w_calliS (As := [.int (zI ((k : Nat) : Int)), .int (zI b), .int (zI 1)]) (rest := [.ref (B + 142)]) (n := 3) (c_X11_place ) gX11_move_X11_place rfl rfl rfl (by decide +kernel) ⟨Nat.le_of_ble_eq_true rfl, Nat.le_of_ble_eq_true rfl⟩ rfl (Nat.le_of_ble_eq_true rfl) ⟨Nat.zero_le _, Nat.zero_le _⟩ dX11_move_81 rfl (fun g_28 hp_29 => ?_)
            subst g_28
            refine w_dup2 dX11_move_84 rfl rfl ?_
            refine w_iald 142 (by first | omega | with_reducible rfl) hnow_25 (by first | omega | with_reducible rfl) dX11_move_85 ?_
            refine w_as (st' := [.int (zI (coX c b)), .int (zI (4 + 15 * ((k : Nat) : Int) + 3 * b + 1)), .ref (B + 142)]) (sc_i (by rw [uZ_ne (by omega)]; exact (MC_i hmc hb.1 hb.2).2.1) rfl) ?_
            refine w_iconst dX11_move_86 ?_
            refine w_iadd dX11_move_87 ?_
            refine w_iast 142 (by first | omega | with_reducible rfl) hnow_25 (by first | omega | with_reducible rfl) dX11_move_88 (fun g_30 he_31 hn_32 => ?_)
            have hm_33 : vM cy B g_30 141 ((((S :: P).take 6).length : Nat) : Int) le sp va o0 tn aw mw fw ls gs sn sw kr := vM_fr hm_24 (fun q h1 h2 => hn_32 q (by omega))
            have hnow_34 : vIA cy B g_30 142 49 (uZ (uZ Nw (4 + 15 * ((k : Nat) : Int) + 3 * a + 1) ((coX c a) - 1)) (4 + 15 * ((k : Nat) : Int) + 3 * b + 1) ((coX c b) + 1)) := he_31
            have hpa_35 : vIA cy B g_30 144 294 Ps1_13 := vIA_fr hpa_26 (fun q h1 h2 => hn_32 q (by omega))
            have hfr_36 : ∀ q, (q ≠ 141 ∧ q ≠ 142 ∧ q ≠ 144) → g_30 q = g q := fun q hq => (hn_32 q (by omega)).trans (hfr_27 q hq)
            have hE8 := ER_upX (v := coX c a - 1) hER hkS hcS ha
            have hE9 := ER_up2 (v := coX c b + 1) hE8 hkS (by rw [upX_len]; exact hb)
            have hMC9 := ER_MC hE9 hkS
            refine w_aload_n dX11_move_89 rfl 0 rfl ?_
            refine w_iload_n dX11_move_90 rfl 1 rfl ?_
            refine w_iload_n dX11_move_91 rfl 3 rfl ?_
            refine w_iconst dX11_move_92 ?_
            refine w_calli (As := [.int (zI ((k : Nat) : Int)), .int (zI b), .int (zI 1)]) (rest := []) (n := 3) (c_X11_of1 (k := k) hm_33 hnow_34 (by first | omega | with_reducible rfl) hMC9 (by rw [upX_len, upX_len]; exact hb)) gX11_move_X11_of rfl rfl rfl (by decide +kernel) ⟨Nat.le_of_ble_eq_true rfl, Nat.le_of_ble_eq_true rfl⟩ rfl (by first | omega | with_reducible rfl) hm_33 rfl (Nat.le_of_ble_eq_true rfl) ⟨Nat.zero_le _, Nat.zero_le _⟩ dX11_move_93 rfl (fun g_37 hp_38 => ?_)
            subst g_37
            exact w_iret dX11_move_96 rfl (by rw [(upX_at (c := (upX c a (coX c a - 1))) (j := b) (by rw [upX_len]; omega) b (by omega)).2.1, if_pos rfl]) ⟨(uZ (uZ Nw (4 + 15 * ((k : Nat) : Int) + 3 * a + 1) ((coX c a) - 1)) (4 + 15 * ((k : Nat) : Int) + 3 * b + 1) ((coX c b) + 1)), Ps1_13, hm_33, hnow_34, hpa_35, hE9, hP1_56, hfr_36⟩
          · exfalso; omega
      · exfalso; omega

set_option maxHeartbeats 4000000 in
set_option maxRecDepth 100000 in
theorem m_n_X11_turn {l : Launch} {D : va_G} {cy : Nat → ClassId} {B N : Nat} {g : Nat → va_E} {cg le sp va o0 tn aw mw fw ls gs sn sw kr : Int} {Nw : Int → Int} {S : St} {s : Int} (hm : vM cy B g 141 cg le sp va o0 tn aw mw fw ls gs sn sw kr) (hnow : vIA cy B g 142 49 Nw) (hN : 160 ≤ N) (hER : ER Nw S) (h_s : -2147483648 ≤ s ∧ s < 2147483648) (hb : ¬ (0 ≤ s ∧ s < S.length)) : CTi l yX11_turn wsX11_turn (rmo 3 69) D cy B N g [.ref (B + 141), .int (zI s)] (-1) (fun g' => g' = g) := by
  refine WW_of (cc := cX11_turn) (maxL := 3) (ret := (some .int)) (own := RX11) (by decide) rfl rfl (Nat.le_of_ble_eq_true rfl) rfl ?_
  intro pp ee ss mm bl me co hmn
  refine w_aload_n dX11_turn_0 rfl 0 rfl ?_
  refine w_iload_n dX11_turn_1 rfl 1 rfl ?_
  refine w_calli (As := [.int (zI s)]) (rest := []) (n := 1) (c_X11_isStratum hm hnow (by first | omega | with_reducible rfl) (by first | omega | with_reducible rfl) (by first | omega | with_reducible rfl)) gX11_turn_X11_isStratum rfl rfl rfl (by decide +kernel) ⟨Nat.le_of_ble_eq_true rfl, Nat.le_of_ble_eq_true rfl⟩ rfl (by first | omega | with_reducible rfl) hm rfl (Nat.le_of_ble_eq_true rfl) ⟨Nat.zero_le _, Nat.zero_le _⟩ dX11_turn_2 rfl (fun g_1 hp_2 => ?_)
  subst g_1
  refine w_ifneB 10 dX11_turn_5 (by decide) (fun c_5 => ?_) (fun c_5 => ?_)
  · exfalso; omega
  · refine w_iconst dX11_turn_8 ?_
    exact w_iret dX11_turn_9 rfl (by first | with_reducible rfl | omega | (split <;> omega)) rfl
set_option maxHeartbeats 4000000 in
set_option maxRecDepth 100000 in
theorem m_y_X11_turn {l : Launch} {D : va_G} {cy : Nat → ClassId} {B N : Nat} {g : Nat → va_E} {le sp va o0 tn aw mw fw ls gs sn sw kr : Int} {Nw Ps : Int → Int} {S : St} {P : List St} {k : Nat} {c : List Co} (hm : vM cy B g 141 ((P.length : Nat) : Int) le sp va o0 tn aw mw fw ls gs sn sw kr) (hnow : vIA cy B g 142 49 Nw) (hpa : vIA cy B g 144 294 Ps) (hN : 160 ≤ N) (hER : ER Nw S) (hkS : k < S.length) (hcS : S.getD k [] = c) (hc : cok c) (hPR : PR Ps P) : CTi l yX11_turn wsX11_turn (rmo 3 69) D cy B N g [.ref (B + 141), .int (zI ((k : Nat) : Int))] ((coR (trn c c.length) : Nat) : Int) (fun g' => ∃ Nw1 : Int → Int, ∃ Ps1 : Int → Int, vM cy B g' 141 ((((S :: P).take 6).length : Nat) : Int) le sp va o0 tn aw mw fw ls gs sn sw kr ∧ vIA cy B g' 142 49 Nw1 ∧ vIA cy B g' 144 294 Ps1 ∧ (ER Nw1 (S.set k (trn c c.length))) ∧ (PR Ps1 ((S :: P).take 6)) ∧ (∀ q, (q ≠ 141 ∧ q ≠ 142 ∧ q ≠ 144) → g' q = g q)) := by
  refine WW_of (cc := cX11_turn) (maxL := 3) (ret := (some .int)) (own := RX11) (by decide) rfl rfl (Nat.le_of_ble_eq_true rfl) rfl ?_
  intro pp ee ss mm bl me co hmn
  have hfr_0 : ∀ q, (q ≠ 141 ∧ q ≠ 142 ∧ q ≠ 144) → g q = g q := fun _ _ => rfl
  have hmc : MC Nw k c := by have h := hER.2 k hkS; rw [hcS] at h; exact h
  have hk3 := hmc.1
  have hcS2 : S.getD (((k : Nat) : Int)).toNat [] = c := by rw [Int.toNat_natCast]; exact hcS
  refine w_aload_n dX11_turn_0 rfl 0 rfl ?_
  refine w_iload_n dX11_turn_1 rfl 1 rfl ?_
  refine w_calli (As := [.int (zI ((k : Nat) : Int))]) (rest := []) (n := 1) (c_X11_isStratum hm hnow (by first | omega | with_reducible rfl) (by first | omega | with_reducible rfl) (by first | omega | with_reducible rfl)) gX11_turn_X11_isStratum rfl rfl rfl (by decide +kernel) ⟨Nat.le_of_ble_eq_true rfl, Nat.le_of_ble_eq_true rfl⟩ rfl (by first | omega | with_reducible rfl) hm rfl (Nat.le_of_ble_eq_true rfl) ⟨Nat.zero_le _, Nat.zero_le _⟩ dX11_turn_2 rfl (fun g_1 hp_2 => ?_)
  subst g_1
  refine w_ifneB 10 dX11_turn_5 (by decide) (fun c_5 => ?_) (fun c_5 => ?_)
  · refine w_aload_n dX11_turn_10 rfl 0 rfl ?_
    refine w_callv (As := []) (rest := []) (n := 0) (c_X11_keeps hm hnow hpa (by first | omega | with_reducible rfl) (by first | omega | with_reducible rfl) hPR) gX11_turn_X11_keeps rfl rfl rfl (by decide +kernel) ⟨Nat.le_of_ble_eq_true rfl, Nat.le_of_ble_eq_true rfl⟩ rfl (by first | omega | with_reducible rfl) hm rfl (Nat.le_of_ble_eq_true rfl) ⟨Nat.zero_le _, Nat.zero_le _⟩ dX11_turn_11 rfl (fun g_3 hp_4 => ?_)
    obtain ⟨Ps1_5, hm_6, hpa_7, hP1_11, hf_8⟩ := hp_4
    have hnow_9 : vIA cy B g_3 142 49 Nw := vIA_fr hnow (fun q h1 h2 => hf_8 q (by omega))
    have hfr_10 : ∀ q, (q ≠ 141 ∧ q ≠ 142 ∧ q ≠ 144) → g_3 q = g q := fun q hq => (hf_8 q (by omega)).trans (hfr_0 q hq)
    refine w_iconst dX11_turn_14 ?_
    refine w_istore_n [(2, .int (zI 0)), (0, .ref (B + 141)), (1, .int (zI ((k : Nat) : Int)))] dX11_turn_15 rfl (by decide) rfl ?_
    refine w_sub [(0, .ref (B + 141)), (1, .int (zI ((k : Nat) : Int))), (2, .int (zI 0))] [1, 2, 0] rfl ?_
    refine w_lv (lv' := [(0, .ref (B + 141)), (1, .int (zI ((k : Nat) : Int))), (2, .int (zI ((0 : Nat) : Int)))]) (lc_s (lc_s (lc_i (by first | omega | with_reducible rfl) rfl))) ?_
    refine w_loop3 (fun (i : Nat) (Nwi : Int → Int) (gl_11 : (Nat → va_E)) => vM cy B gl_11 141 ((((S :: P).take 6).length : Nat) : Int) le sp va o0 tn aw mw fw ls gs sn sw kr ∧ vIA cy B gl_11 142 49 Nwi ∧ vIA cy B gl_11 144 294 Ps1_5 ∧ (∀ q, (q ≠ 141 ∧ q ≠ 142 ∧ q ≠ 144) → gl_11 q = g q) ∧ i ≤ c.length ∧ ER Nwi (S.set k (trn c i))) (fun (i : Nat) (Nwi : Int → Int) (gl_11 : (Nat → va_E)) => c.length - i) (fun (i : Nat) (Nwi : Int → Int) (gl_11 : (Nat → va_E)) => gl_11) (fun (i : Nat) (Nwi : Int → Int) (gl_11 : (Nat → va_E)) => [(0, .ref (B + 141)), (1, .int (zI ((k : Nat) : Int))), (2, .int (zI ((i : Nat) : Int)))]) ?_ 0 Nw g_3 ⟨hm_6, hnow_9, hpa_7, hfr_10, (by first | omega | with_reducible rfl), (by rw [trn, set_self hkS hcS]; exact hER)⟩
    rintro i Nwi gl_11 ⟨hm_12, hnow_13, hpa_14, hfr_15, hi, hEi⟩ ih_16
    have hMi := ER_MC hEi hkS
    have htl := trn_len c i
    refine w_iload_n dX11_turn_16 rfl 2 rfl ?_
    refine w_aload_n dX11_turn_17 rfl 0 rfl ?_
    refine w_iload_n dX11_turn_18 rfl 1 rfl ?_
    refine w_calli (As := [.int (zI ((k : Nat) : Int))]) (rest := [.int (zI ((i : Nat) : Int))]) (n := 1) (c_X11_columns (k := k) hm_12 hnow_13 (by first | omega | with_reducible rfl) hMi) gX11_turn_X11_columns rfl rfl rfl (by decide +kernel) ⟨Nat.le_of_ble_eq_true rfl, Nat.le_of_ble_eq_true rfl⟩ rfl (by first | omega | with_reducible rfl) hm_12 rfl (Nat.le_of_ble_eq_true rfl) ⟨Nat.zero_le _, Nat.zero_le _⟩ dX11_turn_19 rfl (fun g_16 hp_17 => ?_)
    subst g_16
    refine w_as (st' := [.int (zI ((c.length : Nat) : Int)), .int (zI ((i : Nat) : Int))]) (sc_i (by rw [trn_len]) rfl) ?_
    refine w_icmp_ge 57 dX11_turn_22 (by decide) (by first | omega | with_reducible rfl) (by first | omega | with_reducible rfl) (fun c_22 => ?_) (fun c_22 => ?_)
    · have hie : i = c.length := by omega
      subst hie
      refine w_aload_n dX11_turn_57 rfl 0 rfl ?_
      refine w_iload_n dX11_turn_58 rfl 1 rfl ?_
      refine w_iconst dX11_turn_59 ?_
      refine w_calli (As := [.int (zI ((k : Nat) : Int)), .int (zI 1)]) (rest := []) (n := 2) (c_X11_total1 (k := k) hm_12 hnow_13 (by first | omega | with_reducible rfl) hMi) gX11_turn_X11_total rfl rfl rfl (by decide +kernel) ⟨Nat.le_of_ble_eq_true rfl, Nat.le_of_ble_eq_true rfl⟩ rfl (by first | omega | with_reducible rfl) hm_12 rfl (Nat.le_of_ble_eq_true rfl) ⟨Nat.zero_le _, Nat.zero_le _⟩ dX11_turn_60 rfl (fun g_18 hp_19 => ?_)
      subst g_18
      exact w_iret dX11_turn_63 rfl (by exact coR_z (trn_cok hc (Nat.le_refl _))) ⟨Nwi, Ps1_5, hm_12, hnow_13, hpa_14, hEi, hP1_11, hfr_15⟩
    · refine w_aload_n dX11_turn_25 rfl 0 rfl ?_
      refine w_get (i := 0) (T := TX11) (NF := 32) 141 (by first | omega | with_reducible rfl) hm_12 rfl (fun _ h => (List.mem_cons_of_mem _ (List.mem_append_right _ h))) (by decide) (List.mem_of_getElem? (i := 1) rfl) rfl dX11_turn_26 ?_
      refine w_iload_n dX11_turn_29 rfl 1 rfl ?_
      refine w_iload_n dX11_turn_30 rfl 2 rfl ?_
      refine w_iconst dX11_turn_31 ?_
      refine w_calliS (As := [.int (zI ((k : Nat) : Int)), .int (zI ((i : Nat) : Int)), .int (zI 1)]) (rest := [.ref (B + 142)]) (n := 3) (c_X11_place ) gX11_turn_X11_place rfl rfl rfl (by decide +kernel) ⟨Nat.le_of_ble_eq_true rfl, Nat.le_of_ble_eq_true rfl⟩ rfl (Nat.le_of_ble_eq_true rfl) ⟨Nat.zero_le _, Nat.zero_le _⟩ dX11_turn_32 rfl (fun g_20 hp_21 => ?_)
      subst g_20
      refine w_aload_n dX11_turn_35 rfl 0 rfl ?_
      refine w_iload_n dX11_turn_36 rfl 1 rfl ?_
      refine w_iload_n dX11_turn_37 rfl 2 rfl ?_
      refine w_iconst dX11_turn_38 ?_
      refine w_calli (As := [.int (zI ((k : Nat) : Int)), .int (zI ((i : Nat) : Int)), .int (zI 0)]) (rest := [.int (zI (4 + 15 * ((k : Nat) : Int) + 3 * ((i : Nat) : Int) + 1)), .ref (B + 142)]) (n := 3) (c_X11_of0 (k := k) hm_12 hnow_13 (by first | omega | with_reducible rfl) hMi (by omega)) gX11_turn_X11_of rfl rfl rfl (by decide +kernel) ⟨Nat.le_of_ble_eq_true rfl, Nat.le_of_ble_eq_true rfl⟩ rfl (by first | omega | with_reducible rfl) hm_12 rfl (Nat.le_of_ble_eq_true rfl) ⟨Nat.zero_le _, Nat.zero_le _⟩ dX11_turn_39 rfl (fun g_22 hp_23 => ?_)
      subst g_22
      refine w_as (st' := [.int (zI (coT c ((i : Nat) : Int))), .int (zI (4 + 15 * ((k : Nat) : Int) + 3 * ((i : Nat) : Int) + 1)), .ref (B + 142)]) (sc_i (trn_at hi ((i : Nat) : Int) (by omega)).1 rfl) ?_
      refine w_aload_n dX11_turn_42 rfl 0 rfl ?_
      refine w_iload_n dX11_turn_43 rfl 1 rfl ?_
      refine w_iload_n dX11_turn_44 rfl 2 rfl ?_
      refine w_iconst dX11_turn_45 ?_
      refine w_calli (As := [.int (zI ((k : Nat) : Int)), .int (zI ((i : Nat) : Int)), .int (zI 1)]) (rest := [.int (zI (coT c ((i : Nat) : Int))), .int (zI (4 + 15 * ((k : Nat) : Int) + 3 * ((i : Nat) : Int) + 1)), .ref (B + 142)]) (n := 3) (c_X11_of1 (k := k) hm_12 hnow_13 (by first | omega | with_reducible rfl) hMi (by omega)) gX11_turn_X11_of rfl rfl rfl (by decide +kernel) ⟨Nat.le_of_ble_eq_true rfl, Nat.le_of_ble_eq_true rfl⟩ rfl (by first | omega | with_reducible rfl) hm_12 rfl (Nat.le_of_ble_eq_true rfl) ⟨Nat.zero_le _, Nat.zero_le _⟩ dX11_turn_46 rfl (fun g_24 hp_25 => ?_)
      subst g_24
      refine w_as (st' := [.int (zI (coX c ((i : Nat) : Int))), .int (zI (coT c ((i : Nat) : Int))), .int (zI (4 + 15 * ((k : Nat) : Int) + 3 * ((i : Nat) : Int) + 1)), .ref (B + 142)]) (sc_i (by rw [(trn_at hi ((i : Nat) : Int) (by omega)).2.1, if_neg (by omega)]) rfl) ?_
      refine w_isub dX11_turn_49 ?_
      refine w_iast 142 (by first | omega | with_reducible rfl) hnow_13 (by first | omega | with_reducible rfl) dX11_turn_50 (fun g_26 he_27 hn_28 => ?_)
      have hm_29 : vM cy B g_26 141 ((((S :: P).take 6).length : Nat) : Int) le sp va o0 tn aw mw fw ls gs sn sw kr := vM_fr hm_12 (fun q h1 h2 => hn_28 q (by omega))
      have hnow_30 : vIA cy B g_26 142 49 (uZ Nwi (4 + 15 * ((k : Nat) : Int) + 3 * ((i : Nat) : Int) + 1) ((coT c ((i : Nat) : Int)) - (coX c ((i : Nat) : Int)))) := he_27
      have hpa_31 : vIA cy B g_26 144 294 Ps1_5 := vIA_fr hpa_14 (fun q h1 h2 => hn_28 q (by omega))
      have hfr_32 : ∀ q, (q ≠ 141 ∧ q ≠ 142 ∧ q ≠ 144) → g_26 q = g q := fun q hq => (hn_28 q (by omega)).trans (hfr_15 q hq)
      refine w_iinc 2 [(2, .int (zI (((i : Nat) : Int) + 1))), (0, .ref (B + 141)), (1, .int (zI ((k : Nat) : Int)))] dX11_turn_51 rfl (by decide) rfl ?_
      refine w_goto 16 dX11_turn_54 (by decide) ?_
      refine w_sub [(0, .ref (B + 141)), (1, .int (zI ((k : Nat) : Int))), (2, .int (zI (((i : Nat) : Int) + 1)))] [1, 2, 0] rfl ?_
      refine w_lv (lv' := [(0, .ref (B + 141)), (1, .int (zI ((k : Nat) : Int))), (2, .int (zI (((i + 1) : Nat) : Int)))]) (lc_s (lc_s (lc_i (by first | omega | with_reducible rfl) rfl))) ?_
      exact ih_16 (i + 1) (uZ Nwi (4 + 15 * ((k : Nat) : Int) + 3 * ((i : Nat) : Int) + 1) ((coT c ((i : Nat) : Int)) - (coX c ((i : Nat) : Int)))) g_26 ⟨hm_29, hnow_30, hpa_31, hfr_32, (by first | omega | with_reducible rfl), (ER_up2 hEi hkS (by rw [trn_len]; omega))⟩ (by first | omega | with_reducible rfl)
  · exfalso; omega

