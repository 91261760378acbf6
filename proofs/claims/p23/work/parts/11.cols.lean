/-! ===== MarginTables$Sets, MarginTables$Columns ===== -/
def setA (Cn : Nat → Int → Int) (t x : Int) : Int := if 0 ≤ t ∧ t ≤ 12 ∧ 0 ≤ x ∧ x ≤ t then Cn t.toNat x else 0
set_option maxHeartbeats 4000000 in
set_option maxRecDepth 100000 in
theorem c_X6_of {l : Launch} {D : va_G} {cy : Nat → ClassId} {B N : Nat} {g : Nat → va_E} {b : Nat} {Cn : Nat → Int → Int} {t x : Int} (hs : vSets cy B g b Cn) (hN : b + 15 ≤ N) (h_t : -2147483648 ≤ t ∧ t < 2147483648) (h_x : -2147483648 ≤ x ∧ x < 2147483648) : CTl l yX6_of wsX6_of (rmo 0 0) D cy B N g [.ref (B + b), .int (zI t), .int (zI x)] (setA Cn t x) (fun g' => g' = g) := by
  refine WW_of (cc := cX6_of) (maxL := 3) (ret := (some .long)) (own := RX6) (by decide) rfl rfl (Nat.le_of_ble_eq_true rfl) rfl ?_
  intro pp ee ss mm bl me co hmn
  refine w_iload_n dX6_of_0 rfl 1 rfl ?_
  refine w_if_lt 19 dX6_of_1 (by decide) (by first | omega | with_reducible rfl) (fun c_1 => ?_) (fun c_1 => ?_)
  · refine w_lconst0 dX6_of_19 ?_
    refine w_goto 31 dX6_of_20 (by decide) ?_
    exact w_lret dX6_of_31 rfl (by first | (unfold setA; rw [if_neg (by omega)]) | (unfold setA; rw [if_pos (by omega), show t.toNat = tn by omega])) rfl
  · refine w_iload_n dX6_of_4 rfl 1 rfl ?_
    refine w_bipush dX6_of_5 (by decide) ?_
    refine w_icmp_gt 19 dX6_of_7 (by decide) (by first | omega | with_reducible rfl) (by first | omega | with_reducible rfl) (fun c_7 => ?_) (fun c_7 => ?_)
    · refine w_lconst0 dX6_of_19 ?_
      refine w_goto 31 dX6_of_20 (by decide) ?_
      exact w_lret dX6_of_31 rfl (by first | (unfold setA; rw [if_neg (by omega)]) | (unfold setA; rw [if_pos (by omega), show t.toNat = tn by omega])) rfl
    · refine w_iload_n dX6_of_10 rfl 2 rfl ?_
      refine w_if_lt 19 dX6_of_11 (by decide) (by first | omega | with_reducible rfl) (fun c_11 => ?_) (fun c_11 => ?_)
      · refine w_lconst0 dX6_of_19 ?_
        refine w_goto 31 dX6_of_20 (by decide) ?_
        exact w_lret dX6_of_31 rfl (by first | (unfold setA; rw [if_neg (by omega)]) | (unfold setA; rw [if_pos (by omega), show t.toNat = tn by omega])) rfl
      · refine w_iload_n dX6_of_14 rfl 2 rfl ?_
        refine w_iload_n dX6_of_15 rfl 1 rfl ?_
        refine w_icmp_le 23 dX6_of_16 (by decide) (by first | omega | with_reducible rfl) (by first | omega | with_reducible rfl) (fun c_16 => ?_) (fun c_16 => ?_)
        · obtain ⟨tn, htn⟩ := Int.eq_ofNat_of_zero_le (show 0 ≤ t by omega)
          refine w_aload_n dX6_of_23 rfl 0 rfl ?_
          refine w_get (i := 0) (T := TX6) (NF := 1) b (by first | omega | with_reducible rfl) hs.1 rfl (fun _ h => (List.mem_cons_of_mem _ (List.mem_append_right _ h))) (by decide) (List.mem_of_getElem? (i := 1) rfl) rfl dX6_of_24 ?_
          refine w_iload_n dX6_of_27 rfl 1 rfl ?_
          refine w_aald (j := tn) (k' := (b + (tn + 2))) (b + 1) (by first | omega | with_reducible rfl) hs.2.1 rfl rfl (by first | omega | with_reducible rfl) (by first | omega | with_reducible rfl) (by first | omega | with_reducible rfl) dX6_of_28 ?_
          refine w_iload_n dX6_of_29 rfl 2 rfl ?_
          refine w_lald (b + (tn + 2)) (by first | omega | with_reducible rfl) (hs.2.2 tn (by first | omega | with_reducible rfl)) (by first | omega | with_reducible rfl) dX6_of_30 ?_
          exact w_lret dX6_of_31 rfl (by first | (unfold setA; rw [if_neg (by omega)]) | (unfold setA; rw [if_pos (by omega), show t.toNat = tn by omega])) rfl
        · refine w_lconst0 dX6_of_19 ?_
          refine w_goto 31 dX6_of_20 (by decide) ?_
          exact w_lret dX6_of_31 rfl (by first | (unfold setA; rw [if_neg (by omega)]) | (unfold setA; rw [if_pos (by omega), show t.toNat = tn by omega])) rfl
set_option maxHeartbeats 4000000 in
set_option maxRecDepth 100000 in
theorem c_X0_size {l : Launch} {D : va_G} {cy : Nat → ClassId} {B N : Nat} {g : Nat → va_E} {b sets n : Nat} {ver : Int} {T X V : Int → Int} {Wy : Nat → Int → Int} (hc : vCol cy B g b sets n ver T X V Wy) (hN : b + 10 ≤ N) : CTi l yX0_size wsX0_size (rmo 0 0) D cy B N g [.ref (B + b)] ((n : Nat) : Int) (fun g' => g' = g) := by
  refine WW_of (cc := cX0_size) (maxL := 1) (ret := (some .int)) (own := RX0) (by decide) rfl rfl (Nat.le_of_ble_eq_true rfl) rfl ?_
  intro pp ee ss mm bl me co hmn
  refine w_aload_n dX0_size_0 rfl 0 rfl ?_
  refine w_get (i := 5) (T := TX0) (NF := 7) b (by first | omega | with_reducible rfl) hc.1 rfl (fun _ h => (List.mem_cons_of_mem _ (List.mem_append_right _ h))) (by decide) (List.mem_of_getElem? (i := 1) rfl) rfl dX0_size_1 ?_
  exact w_iret dX0_size_4 rfl (by first | with_reducible rfl | omega | (split <;> omega)) rfl
set_option maxHeartbeats 4000000 in
set_option maxRecDepth 100000 in
theorem c_X0_version {l : Launch} {D : va_G} {cy : Nat → ClassId} {B N : Nat} {g : Nat → va_E} {b sets n : Nat} {ver : Int} {T X V : Int → Int} {Wy : Nat → Int → Int} (hc : vCol cy B g b sets n ver T X V Wy) (hN : b + 10 ≤ N) : CTi l yX0_version wsX0_version (rmo 0 0) D cy B N g [.ref (B + b)] ver (fun g' => g' = g) := by
  refine WW_of (cc := cX0_version) (maxL := 1) (ret := (some .int)) (own := RX0) (by decide) rfl rfl (Nat.le_of_ble_eq_true rfl) rfl ?_
  intro pp ee ss mm bl me co hmn
  refine w_aload_n dX0_version_0 rfl 0 rfl ?_
  refine w_get (i := 6) (T := TX0) (NF := 7) b (by first | omega | with_reducible rfl) hc.1 rfl (fun _ h => (List.mem_cons_of_mem _ (List.mem_append_right _ h))) (by decide) (List.mem_of_getElem? (i := 1) rfl) rfl dX0_version_1 ?_
  exact w_iret dX0_version_4 rfl (by first | with_reducible rfl | omega | (split <;> omega)) rfl
set_option maxHeartbeats 4000000 in
set_option maxRecDepth 100000 in
theorem c_X0_has {l : Launch} {D : va_G} {cy : Nat → ClassId} {B N : Nat} {g : Nat → va_E} {b sets n : Nat} {ver : Int} {T X V : Int → Int} {Wy : Nat → Int → Int} {j : Int} (hc : vCol cy B g b sets n ver T X V Wy) (hN : b + 10 ≤ N) (hn : n ≤ 5) (h_j : -2147483648 ≤ j ∧ j < 2147483648) : CTi l yX0_has wsX0_has (rmo 0 0) D cy B N g [.ref (B + b), .int (zI j)] (if 0 ≤ j ∧ j < n then 1 else 0) (fun g' => g' = g) := by
  refine WW_of (cc := cX0_has) (maxL := 2) (ret := (some .boolean)) (own := RX0) (by decide) rfl rfl (Nat.le_of_ble_eq_true rfl) rfl ?_
  intro pp ee ss mm bl me co hmn
  refine w_iload_n dX0_has_0 rfl 1 rfl ?_
  refine w_if_lt 16 dX0_has_1 (by decide) (by first | omega | with_reducible rfl) (fun c_1 => ?_) (fun c_1 => ?_)
  · refine w_iconst dX0_has_16 ?_
    exact w_zret dX0_has_17 rfl rfl (by first | (rw [if_neg (by omega)]) | (rw [if_pos (by omega)])) rfl
  · refine w_iload_n dX0_has_4 rfl 1 rfl ?_
    refine w_aload_n dX0_has_5 rfl 0 rfl ?_
    refine w_get (i := 5) (T := TX0) (NF := 7) b (by first | omega | with_reducible rfl) hc.1 rfl (fun _ h => (List.mem_cons_of_mem _ (List.mem_append_right _ h))) (by decide) (List.mem_of_getElem? (i := 1) rfl) rfl dX0_has_6 ?_
    refine w_icmp_ge 16 dX0_has_9 (by decide) (by first | omega | with_reducible rfl) (by first | omega | with_reducible rfl) (fun c_9 => ?_) (fun c_9 => ?_)
    · refine w_iconst dX0_has_16 ?_
      exact w_zret dX0_has_17 rfl rfl (by first | (rw [if_neg (by omega)]) | (rw [if_pos (by omega)])) rfl
    · refine w_iconst dX0_has_12 ?_
      refine w_goto 17 dX0_has_13 (by decide) ?_
      exact w_zret dX0_has_17 rfl rfl (by first | (rw [if_neg (by omega)]) | (rw [if_pos (by omega)])) rfl
set_option maxHeartbeats 4000000 in
set_option maxRecDepth 100000 in
theorem c_X0_totalOf {l : Launch} {D : va_G} {cy : Nat → ClassId} {B N : Nat} {g : Nat → va_E} {b sets n : Nat} {ver : Int} {T X V : Int → Int} {Wy : Nat → Int → Int} {j : Int} (hc : vCol cy B g b sets n ver T X V Wy) (hN : b + 10 ≤ N) (hn : n ≤ 5) (h_j : -2147483648 ≤ j ∧ j < 2147483648) : CTi l yX0_totalOf wsX0_totalOf (rmo 0 0) D cy B N g [.ref (B + b), .int (zI j)] (inA n T j) (fun g' => g' = g) := by
  refine WW_of (cc := cX0_totalOf) (maxL := 2) (ret := (some .int)) (own := RX0) (by decide) rfl rfl (Nat.le_of_ble_eq_true rfl) rfl ?_
  intro pp ee ss mm bl me co hmn
  refine w_iload_n dX0_totalOf_0 rfl 1 rfl ?_
  refine w_if_lt 21 dX0_totalOf_1 (by decide) (by first | omega | with_reducible rfl) (fun c_1 => ?_) (fun c_1 => ?_)
  · refine w_iconst dX0_totalOf_21 ?_
    exact w_iret dX0_totalOf_22 rfl (by first | (rw [inA_in (by omega)]) | (rw [inA_out (by omega)])) rfl
  · refine w_iload_n dX0_totalOf_4 rfl 1 rfl ?_
    refine w_aload_n dX0_totalOf_5 rfl 0 rfl ?_
    refine w_get (i := 5) (T := TX0) (NF := 7) b (by first | omega | with_reducible rfl) hc.1 rfl (fun _ h => (List.mem_cons_of_mem _ (List.mem_append_right _ h))) (by decide) (List.mem_of_getElem? (i := 1) rfl) rfl dX0_totalOf_6 ?_
    refine w_icmp_ge 21 dX0_totalOf_9 (by decide) (by first | omega | with_reducible rfl) (by first | omega | with_reducible rfl) (fun c_9 => ?_) (fun c_9 => ?_)
    · refine w_iconst dX0_totalOf_21 ?_
      exact w_iret dX0_totalOf_22 rfl (by first | (rw [inA_in (by omega)]) | (rw [inA_out (by omega)])) rfl
    · refine w_aload_n dX0_totalOf_12 rfl 0 rfl ?_
      refine w_get (i := 1) (T := TX0) (NF := 7) b (by first | omega | with_reducible rfl) hc.1 rfl (fun _ h => (List.mem_cons_of_mem _ (List.mem_append_right _ h))) (by decide) (List.mem_of_getElem? (i := 2) rfl) rfl dX0_totalOf_13 ?_
      refine w_iload_n dX0_totalOf_16 rfl 1 rfl ?_
      refine w_iald (b + 1) (by first | omega | with_reducible rfl) hc.2.1 (by first | omega | with_reducible rfl) dX0_totalOf_17 ?_
      refine w_goto 22 dX0_totalOf_18 (by decide) ?_
      exact w_iret dX0_totalOf_22 rfl (by first | (rw [inA_in (by omega)]) | (rw [inA_out (by omega)])) rfl
set_option maxHeartbeats 4000000 in
set_option maxRecDepth 100000 in
theorem c_X0_aboveOf {l : Launch} {D : va_G} {cy : Nat → ClassId} {B N : Nat} {g : Nat → va_E} {b sets n : Nat} {ver : Int} {T X V : Int → Int} {Wy : Nat → Int → Int} {j : Int} (hc : vCol cy B g b sets n ver T X V Wy) (hN : b + 10 ≤ N) (hn : n ≤ 5) (h_j : -2147483648 ≤ j ∧ j < 2147483648) : CTi l yX0_aboveOf wsX0_aboveOf (rmo 0 0) D cy B N g [.ref (B + b), .int (zI j)] (inA n X j) (fun g' => g' = g) := by
  refine WW_of (cc := cX0_aboveOf) (maxL := 2) (ret := (some .int)) (own := RX0) (by decide) rfl rfl (Nat.le_of_ble_eq_true rfl) rfl ?_
  intro pp ee ss mm bl me co hmn
  refine w_iload_n dX0_aboveOf_0 rfl 1 rfl ?_
  refine w_if_lt 21 dX0_aboveOf_1 (by decide) (by first | omega | with_reducible rfl) (fun c_1 => ?_) (fun c_1 => ?_)
  · refine w_iconst dX0_aboveOf_21 ?_
    exact w_iret dX0_aboveOf_22 rfl (by first | (rw [inA_in (by omega)]) | (rw [inA_out (by omega)])) rfl
  · refine w_iload_n dX0_aboveOf_4 rfl 1 rfl ?_
    refine w_aload_n dX0_aboveOf_5 rfl 0 rfl ?_
    refine w_get (i := 5) (T := TX0) (NF := 7) b (by first | omega | with_reducible rfl) hc.1 rfl (fun _ h => (List.mem_cons_of_mem _ (List.mem_append_right _ h))) (by decide) (List.mem_of_getElem? (i := 1) rfl) rfl dX0_aboveOf_6 ?_
    refine w_icmp_ge 21 dX0_aboveOf_9 (by decide) (by first | omega | with_reducible rfl) (by first | omega | with_reducible rfl) (fun c_9 => ?_) (fun c_9 => ?_)
    · refine w_iconst dX0_aboveOf_21 ?_
      exact w_iret dX0_aboveOf_22 rfl (by first | (rw [inA_in (by omega)]) | (rw [inA_out (by omega)])) rfl
    · refine w_aload_n dX0_aboveOf_12 rfl 0 rfl ?_
      refine w_get (i := 2) (T := TX0) (NF := 7) b (by first | omega | with_reducible rfl) hc.1 rfl (fun _ h => (List.mem_cons_of_mem _ (List.mem_append_right _ h))) (by decide) (List.mem_of_getElem? (i := 2) rfl) rfl dX0_aboveOf_13 ?_
      refine w_iload_n dX0_aboveOf_16 rfl 1 rfl ?_
      refine w_iald (b + 2) (by first | omega | with_reducible rfl) hc.2.2.1 (by first | omega | with_reducible rfl) dX0_aboveOf_17 ?_
      refine w_goto 22 dX0_aboveOf_18 (by decide) ?_
      exact w_iret dX0_aboveOf_22 rfl (by first | (rw [inA_in (by omega)]) | (rw [inA_out (by omega)])) rfl
set_option maxHeartbeats 4000000 in
set_option maxRecDepth 100000 in
theorem c_X0_scoreOf {l : Launch} {D : va_G} {cy : Nat → ClassId} {B N : Nat} {g : Nat → va_E} {b sets n : Nat} {ver : Int} {T X V : Int → Int} {Wy : Nat → Int → Int} {j : Int} (hc : vCol cy B g b sets n ver T X V Wy) (hN : b + 10 ≤ N) (hn : n ≤ 5) (h_j : -2147483648 ≤ j ∧ j < 2147483648) : CTi l yX0_scoreOf wsX0_scoreOf (rmo 0 0) D cy B N g [.ref (B + b), .int (zI j)] (inA n V j) (fun g' => g' = g) := by
  refine WW_of (cc := cX0_scoreOf) (maxL := 2) (ret := (some .int)) (own := RX0) (by decide) rfl rfl (Nat.le_of_ble_eq_true rfl) rfl ?_
  intro pp ee ss mm bl me co hmn
  refine w_iload_n dX0_scoreOf_0 rfl 1 rfl ?_
  refine w_if_lt 21 dX0_scoreOf_1 (by decide) (by first | omega | with_reducible rfl) (fun c_1 => ?_) (fun c_1 => ?_)
  · refine w_iconst dX0_scoreOf_21 ?_
    exact w_iret dX0_scoreOf_22 rfl (by first | (rw [inA_in (by omega)]) | (rw [inA_out (by omega)])) rfl
  · refine w_iload_n dX0_scoreOf_4 rfl 1 rfl ?_
    refine w_aload_n dX0_scoreOf_5 rfl 0 rfl ?_
    refine w_get (i := 5) (T := TX0) (NF := 7) b (by first | omega | with_reducible rfl) hc.1 rfl (fun _ h => (List.mem_cons_of_mem _ (List.mem_append_right _ h))) (by decide) (List.mem_of_getElem? (i := 1) rfl) rfl dX0_scoreOf_6 ?_
    refine w_icmp_ge 21 dX0_scoreOf_9 (by decide) (by first | omega | with_reducible rfl) (by first | omega | with_reducible rfl) (fun c_9 => ?_) (fun c_9 => ?_)
    · refine w_iconst dX0_scoreOf_21 ?_
      exact w_iret dX0_scoreOf_22 rfl (by first | (rw [inA_in (by omega)]) | (rw [inA_out (by omega)])) rfl
    · refine w_aload_n dX0_scoreOf_12 rfl 0 rfl ?_
      refine w_get (i := 3) (T := TX0) (NF := 7) b (by first | omega | with_reducible rfl) hc.1 rfl (fun _ h => (List.mem_cons_of_mem _ (List.mem_append_right _ h))) (by decide) (List.mem_of_getElem? (i := 2) rfl) rfl dX0_scoreOf_13 ?_
      refine w_iload_n dX0_scoreOf_16 rfl 1 rfl ?_
      refine w_iald (b + 3) (by first | omega | with_reducible rfl) hc.2.2.2.1 (by first | omega | with_reducible rfl) dX0_scoreOf_17 ?_
      refine w_goto 22 dX0_scoreOf_18 (by decide) ?_
      exact w_iret dX0_scoreOf_22 rfl (by first | (rw [inA_in (by omega)]) | (rw [inA_out (by omega)])) rfl
set_option maxHeartbeats 4000000 in
set_option maxRecDepth 100000 in
theorem c_X0_waysOf {l : Launch} {D : va_G} {cy : Nat → ClassId} {B N : Nat} {g : Nat → va_E} {b sets n : Nat} {ver : Int} {T X V : Int → Int} {Wy : Nat → Int → Int} {j x : Int} (hc : vCol cy B g b sets n ver T X V Wy) (hN : b + 10 ≤ N) (hn : n ≤ 5) (h_j : -2147483648 ≤ j ∧ j < 2147483648) (h_x : -2147483648 ≤ x ∧ x < 2147483648) : CTl l yX0_waysOf wsX0_waysOf (rmo 0 0) D cy B N g [.ref (B + b), .int (zI j), .int (zI x)] (wyA n Wy j x) (fun g' => g' = g) := by
  refine WW_of (cc := cX0_waysOf) (maxL := 3) (ret := (some .long)) (own := RX0) (by decide) rfl rfl (Nat.le_of_ble_eq_true rfl) rfl ?_
  intro pp ee ss mm bl me co hmn
  refine w_iload_n dX0_waysOf_0 rfl 1 rfl ?_
  refine w_if_lt 33 dX0_waysOf_1 (by decide) (by first | omega | with_reducible rfl) (fun c_1 => ?_) (fun c_1 => ?_)
  · refine w_lconst0 dX0_waysOf_33 ?_
    exact w_lret dX0_waysOf_34 rfl (by first | (rw [wyA_in (by omega), show j.toNat = jn by omega]) | (rw [wyA_out (by omega)])) rfl
  · refine w_iload_n dX0_waysOf_4 rfl 1 rfl ?_
    refine w_aload_n dX0_waysOf_5 rfl 0 rfl ?_
    refine w_get (i := 5) (T := TX0) (NF := 7) b (by first | omega | with_reducible rfl) hc.1 rfl (fun _ h => (List.mem_cons_of_mem _ (List.mem_append_right _ h))) (by decide) (List.mem_of_getElem? (i := 1) rfl) rfl dX0_waysOf_6 ?_
    refine w_icmp_ge 33 dX0_waysOf_9 (by decide) (by first | omega | with_reducible rfl) (by first | omega | with_reducible rfl) (fun c_9 => ?_) (fun c_9 => ?_)
    · refine w_lconst0 dX0_waysOf_33 ?_
      exact w_lret dX0_waysOf_34 rfl (by first | (rw [wyA_in (by omega), show j.toNat = jn by omega]) | (rw [wyA_out (by omega)])) rfl
    · refine w_iload_n dX0_waysOf_12 rfl 2 rfl ?_
      refine w_if_lt 33 dX0_waysOf_13 (by decide) (by first | omega | with_reducible rfl) (fun c_13 => ?_) (fun c_13 => ?_)
      · refine w_lconst0 dX0_waysOf_33 ?_
        exact w_lret dX0_waysOf_34 rfl (by first | (rw [wyA_in (by omega), show j.toNat = jn by omega]) | (rw [wyA_out (by omega)])) rfl
      · refine w_iload_n dX0_waysOf_16 rfl 2 rfl ?_
        refine w_bipush dX0_waysOf_17 (by decide) ?_
        refine w_icmp_gt 33 dX0_waysOf_19 (by decide) (by first | omega | with_reducible rfl) (by first | omega | with_reducible rfl) (fun c_19 => ?_) (fun c_19 => ?_)
        · refine w_lconst0 dX0_waysOf_33 ?_
          exact w_lret dX0_waysOf_34 rfl (by first | (rw [wyA_in (by omega), show j.toNat = jn by omega]) | (rw [wyA_out (by omega)])) rfl
        · obtain ⟨jn, hjn⟩ := Int.eq_ofNat_of_zero_le (show 0 ≤ j by omega)
          refine w_aload_n dX0_waysOf_22 rfl 0 rfl ?_
          refine w_get (i := 4) (T := TX0) (NF := 7) b (by first | omega | with_reducible rfl) hc.1 rfl (fun _ h => (List.mem_cons_of_mem _ (List.mem_append_right _ h))) (by decide) (List.mem_of_getElem? (i := 2) rfl) rfl dX0_waysOf_23 ?_
          refine w_iload_n dX0_waysOf_26 rfl 1 rfl ?_
          refine w_aald (j := jn) (k' := (b + (jn + 5))) (b + 4) (by first | omega | with_reducible rfl) hc.2.2.2.2.1 rfl rfl (by first | omega | with_reducible rfl) (by first | omega | with_reducible rfl) (by first | omega | with_reducible rfl) dX0_waysOf_27 ?_
          refine w_iload_n dX0_waysOf_28 rfl 2 rfl ?_
          refine w_lald (b + (jn + 5)) (by first | omega | with_reducible rfl) (hc.2.2.2.2.2 jn (by first | omega | with_reducible rfl)) (by first | omega | with_reducible rfl) dX0_waysOf_29 ?_
          refine w_goto 34 dX0_waysOf_30 (by decide) ?_
          exact w_lret dX0_waysOf_34 rfl (by first | (rw [wyA_in (by omega), show j.toNat = jn by omega]) | (rw [wyA_out (by omega)])) rfl
set_option maxHeartbeats 4000000 in
set_option maxRecDepth 100000 in
theorem c_X0_allTotal {l : Launch} {D : va_G} {cy : Nat → ClassId} {B N : Nat} {g : Nat → va_E} {b sets n : Nat} {ver : Int} {T X V : Int → Int} {Wy : Nat → Int → Int} (hc : vCol cy B g b sets n ver T X V Wy) (hN : b + 10 ≤ N) (hn : n ≤ 5) : CTi l yX0_allTotal wsX0_allTotal (rmo 1 21) D cy B N g [.ref (B + b)] (sm T n) (fun g' => g' = g) := by
  refine WW_of (cc := cX0_allTotal) (maxL := 3) (ret := (some .int)) (own := RX0) (by decide) rfl rfl (Nat.le_of_ble_eq_true rfl) rfl ?_
  intro pp ee ss mm bl me co hmn
  refine w_iconst dX0_allTotal_0 ?_
  refine w_istore_n [(1, .int (zI 0)), (0, .ref (B + b))] dX0_allTotal_1 rfl (by decide) rfl ?_
  refine w_iconst dX0_allTotal_2 ?_
  refine w_istore_n [(2, .int (zI 0)), (1, .int (zI 0)), (0, .ref (B + b))] dX0_allTotal_3 rfl (by decide) rfl ?_
  refine w_sub [(0, .ref (B + b)), (1, .int (zI 0)), (2, .int (zI 0))] [2, 1, 0] rfl ?_
  refine w_lv (lv' := [(0, .ref (B + b)), (1, .int (zI (sm T 0))), (2, .int (zI ((0 : Nat) : Int)))]) (lc_s (lc_i rfl (lc_i (by first | omega | with_reducible rfl) rfl))) ?_
  refine w_loop1 (fun (k : Nat) => k ≤ n) (fun (k : Nat) => n - k) (fun (k : Nat) => g) (fun (k : Nat) => [(0, .ref (B + b)), (1, .int (zI (sm T k))), (2, .int (zI ((k : Nat) : Int)))]) ?_ 0 (by first | omega | with_reducible rfl)
  rintro k hk ih_4
  refine w_iload_n dX0_allTotal_4 rfl 2 rfl ?_
  refine w_aload_n dX0_allTotal_5 rfl 0 rfl ?_
  refine w_get (i := 5) (T := TX0) (NF := 7) b (by first | omega | with_reducible rfl) hc.1 rfl (fun _ h => (List.mem_cons_of_mem _ (List.mem_append_right _ h))) (by decide) (List.mem_of_getElem? (i := 1) rfl) rfl dX0_allTotal_6 ?_
  refine w_icmp_ge 26 dX0_allTotal_9 (by decide) (by first | omega | with_reducible rfl) (by first | omega | with_reducible rfl) (fun c_9 => ?_) (fun c_9 => ?_)
  · refine w_iload_n dX0_allTotal_26 rfl 1 rfl ?_
    exact w_iret dX0_allTotal_27 rfl (by rw [show k = n by omega]) rfl
  · refine w_iload_n dX0_allTotal_12 rfl 1 rfl ?_
    refine w_aload_n dX0_allTotal_13 rfl 0 rfl ?_
    refine w_iload_n dX0_allTotal_14 rfl 2 rfl ?_
    refine w_calli (As := [.int (zI ((k : Nat) : Int))]) (rest := [.int (zI (sm T k))]) (n := 1) (c_X0_totalOf hc (by first | omega | with_reducible rfl) (by first | omega | with_reducible rfl) (by first | omega | with_reducible rfl)) gX0_allTotal_X0_totalOf rfl rfl rfl (by decide +kernel) ⟨Nat.le_of_ble_eq_true rfl, Nat.le_of_ble_eq_true rfl⟩ rfl (by first | omega | with_reducible rfl) hc.1 rfl (Nat.le_of_ble_eq_true rfl) ⟨Nat.zero_le _, Nat.zero_le _⟩ dX0_allTotal_15 rfl (fun g_1 hp_2 => ?_)
    subst g_1
    refine w_as (st' := [.int (zI (T ((k : Nat) : Int))), .int (zI (sm T k))]) (sc_i (inA_in (by omega)) rfl) ?_
    refine w_iadd dX0_allTotal_18 ?_
    refine w_istore_n [(1, .int (zI ((sm T k) + (T ((k : Nat) : Int))))), (0, .ref (B + b)), (2, .int (zI ((k : Nat) : Int)))] dX0_allTotal_19 rfl (by decide) rfl ?_
    refine w_iinc 2 [(2, .int (zI (((k : Nat) : Int) + 1))), (1, .int (zI ((sm T k) + (T ((k : Nat) : Int))))), (0, .ref (B + b))] dX0_allTotal_20 rfl (by decide) rfl ?_
    refine w_goto 4 dX0_allTotal_23 (by decide) ?_
    refine w_sub [(0, .ref (B + b)), (1, .int (zI ((sm T k) + (T ((k : Nat) : Int))))), (2, .int (zI (((k : Nat) : Int) + 1)))] [2, 1, 0] rfl ?_
    refine w_lv (lv' := [(0, .ref (B + b)), (1, .int (zI (sm T (k + 1)))), (2, .int (zI (((k + 1) : Nat) : Int)))]) (lc_s (lc_i rfl (lc_i (by first | omega | with_reducible rfl) rfl))) ?_
    exact ih_4 (k + 1) (by first | omega | with_reducible rfl) (by first | omega | with_reducible rfl)
set_option maxHeartbeats 4000000 in
set_option maxRecDepth 100000 in
theorem c_X0_allAbove {l : Launch} {D : va_G} {cy : Nat → ClassId} {B N : Nat} {g : Nat → va_E} {b sets n : Nat} {ver : Int} {T X V : Int → Int} {Wy : Nat → Int → Int} (hc : vCol cy B g b sets n ver T X V Wy) (hN : b + 10 ≤ N) (hn : n ≤ 5) : CTi l yX0_allAbove wsX0_allAbove (rmo 1 21) D cy B N g [.ref (B + b)] (sm X n) (fun g' => g' = g) := by
  refine WW_of (cc := cX0_allAbove) (maxL := 3) (ret := (some .int)) (own := RX0) (by decide) rfl rfl (Nat.le_of_ble_eq_true rfl) rfl ?_
  intro pp ee ss mm bl me co hmn
  refine w_iconst dX0_allAbove_0 ?_
  refine w_istore_n [(1, .int (zI 0)), (0, .ref (B + b))] dX0_allAbove_1 rfl (by decide) rfl ?_
  refine w_iconst dX0_allAbove_2 ?_
  refine w_istore_n [(2, .int (zI 0)), (1, .int (zI 0)), (0, .ref (B + b))] dX0_allAbove_3 rfl (by decide) rfl ?_
  refine w_sub [(0, .ref (B + b)), (1, .int (zI 0)), (2, .int (zI 0))] [2, 1, 0] rfl ?_
  refine w_lv (lv' := [(0, .ref (B + b)), (1, .int (zI (sm X 0))), (2, .int (zI ((0 : Nat) : Int)))]) (lc_s (lc_i rfl (lc_i (by first | omega | with_reducible rfl) rfl))) ?_
  refine w_loop1 (fun (k : Nat) => k ≤ n) (fun (k : Nat) => n - k) (fun (k : Nat) => g) (fun (k : Nat) => [(0, .ref (B + b)), (1, .int (zI (sm X k))), (2, .int (zI ((k : Nat) : Int)))]) ?_ 0 (by first | omega | with_reducible rfl)
  rintro k hk ih_4
  refine w_iload_n dX0_allAbove_4 rfl 2 rfl ?_
  refine w_aload_n dX0_allAbove_5 rfl 0 rfl ?_
  refine w_get (i := 5) (T := TX0) (NF := 7) b (by first | omega | with_reducible rfl) hc.1 rfl (fun _ h => (List.mem_cons_of_mem _ (List.mem_append_right _ h))) (by decide) (List.mem_of_getElem? (i := 1) rfl) rfl dX0_allAbove_6 ?_
  refine w_icmp_ge 26 dX0_allAbove_9 (by decide) (by first | omega | with_reducible rfl) (by first | omega | with_reducible rfl) (fun c_9 => ?_) (fun c_9 => ?_)
  · refine w_iload_n dX0_allAbove_26 rfl 1 rfl ?_
    exact w_iret dX0_allAbove_27 rfl (by rw [show k = n by omega]) rfl
  · refine w_iload_n dX0_allAbove_12 rfl 1 rfl ?_
    refine w_aload_n dX0_allAbove_13 rfl 0 rfl ?_
    refine w_iload_n dX0_allAbove_14 rfl 2 rfl ?_
    refine w_calli (As := [.int (zI ((k : Nat) : Int))]) (rest := [.int (zI (sm X k))]) (n := 1) (c_X0_aboveOf hc (by first | omega | with_reducible rfl) (by first | omega | with_reducible rfl) (by first | omega | with_reducible rfl)) gX0_allAbove_X0_aboveOf rfl rfl rfl (by decide +kernel) ⟨Nat.le_of_ble_eq_true rfl, Nat.le_of_ble_eq_true rfl⟩ rfl (by first | omega | with_reducible rfl) hc.1 rfl (Nat.le_of_ble_eq_true rfl) ⟨Nat.zero_le _, Nat.zero_le _⟩ dX0_allAbove_15 rfl (fun g_1 hp_2 => ?_)
    subst g_1
    refine w_as (st' := [.int (zI (X ((k : Nat) : Int))), .int (zI (sm X k))]) (sc_i (inA_in (by omega)) rfl) ?_
    refine w_iadd dX0_allAbove_18 ?_
    refine w_istore_n [(1, .int (zI ((sm X k) + (X ((k : Nat) : Int))))), (0, .ref (B + b)), (2, .int (zI ((k : Nat) : Int)))] dX0_allAbove_19 rfl (by decide) rfl ?_
    refine w_iinc 2 [(2, .int (zI (((k : Nat) : Int) + 1))), (1, .int (zI ((sm X k) + (X ((k : Nat) : Int))))), (0, .ref (B + b))] dX0_allAbove_20 rfl (by decide) rfl ?_
    refine w_goto 4 dX0_allAbove_23 (by decide) ?_
    refine w_sub [(0, .ref (B + b)), (1, .int (zI ((sm X k) + (X ((k : Nat) : Int))))), (2, .int (zI (((k : Nat) : Int) + 1)))] [2, 1, 0] rfl ?_
    refine w_lv (lv' := [(0, .ref (B + b)), (1, .int (zI (sm X (k + 1)))), (2, .int (zI (((k + 1) : Nat) : Int)))]) (lc_s (lc_i rfl (lc_i (by first | omega | with_reducible rfl) rfl))) ?_
    exact ih_4 (k + 1) (by first | omega | with_reducible rfl) (by first | omega | with_reducible rfl)
set_option maxHeartbeats 4000000 in
set_option maxRecDepth 100000 in
theorem c_X0_seenSum {l : Launch} {D : va_G} {cy : Nat → ClassId} {B N : Nat} {g : Nat → va_E} {b sets n : Nat} {ver : Int} {T X V : Int → Int} {Wy : Nat → Int → Int} (hc : vCol cy B g b sets n ver T X V Wy) (hN : b + 10 ≤ N) (hn : n ≤ 5) : CTi l yX0_seenSum wsX0_seenSum (rmo 1 21) D cy B N g [.ref (B + b)] (sm (xv X V) n) (fun g' => g' = g) := by
  refine WW_of (cc := cX0_seenSum) (maxL := 3) (ret := (some .int)) (own := RX0) (by decide) rfl rfl (Nat.le_of_ble_eq_true rfl) rfl ?_
  intro pp ee ss mm bl me co hmn
  refine w_iconst dX0_seenSum_0 ?_
  refine w_istore_n [(1, .int (zI 0)), (0, .ref (B + b))] dX0_seenSum_1 rfl (by decide) rfl ?_
  refine w_iconst dX0_seenSum_2 ?_
  refine w_istore_n [(2, .int (zI 0)), (1, .int (zI 0)), (0, .ref (B + b))] dX0_seenSum_3 rfl (by decide) rfl ?_
  refine w_sub [(0, .ref (B + b)), (1, .int (zI 0)), (2, .int (zI 0))] [2, 1, 0] rfl ?_
  refine w_lv (lv' := [(0, .ref (B + b)), (1, .int (zI (sm (xv X V) 0))), (2, .int (zI ((0 : Nat) : Int)))]) (lc_s (lc_i rfl (lc_i (by first | omega | with_reducible rfl) rfl))) ?_
  refine w_loop1 (fun (k : Nat) => k ≤ n) (fun (k : Nat) => n - k) (fun (k : Nat) => g) (fun (k : Nat) => [(0, .ref (B + b)), (1, .int (zI (sm (xv X V) k))), (2, .int (zI ((k : Nat) : Int)))]) ?_ 0 (by first | omega | with_reducible rfl)
  rintro k hk ih_4
  refine w_iload_n dX0_seenSum_4 rfl 2 rfl ?_
  refine w_aload_n dX0_seenSum_5 rfl 0 rfl ?_
  refine w_get (i := 5) (T := TX0) (NF := 7) b (by first | omega | with_reducible rfl) hc.1 rfl (fun _ h => (List.mem_cons_of_mem _ (List.mem_append_right _ h))) (by decide) (List.mem_of_getElem? (i := 1) rfl) rfl dX0_seenSum_6 ?_
  refine w_icmp_ge 32 dX0_seenSum_9 (by decide) (by first | omega | with_reducible rfl) (by first | omega | with_reducible rfl) (fun c_9 => ?_) (fun c_9 => ?_)
  · refine w_iload_n dX0_seenSum_32 rfl 1 rfl ?_
    exact w_iret dX0_seenSum_33 rfl (by rw [show k = n by omega]) rfl
  · refine w_iload_n dX0_seenSum_12 rfl 1 rfl ?_
    refine w_aload_n dX0_seenSum_13 rfl 0 rfl ?_
    refine w_iload_n dX0_seenSum_14 rfl 2 rfl ?_
    refine w_calli (As := [.int (zI ((k : Nat) : Int))]) (rest := [.int (zI (sm (xv X V) k))]) (n := 1) (c_X0_aboveOf hc (by first | omega | with_reducible rfl) (by first | omega | with_reducible rfl) (by first | omega | with_reducible rfl)) gX0_seenSum_X0_aboveOf rfl rfl rfl (by decide +kernel) ⟨Nat.le_of_ble_eq_true rfl, Nat.le_of_ble_eq_true rfl⟩ rfl (by first | omega | with_reducible rfl) hc.1 rfl (Nat.le_of_ble_eq_true rfl) ⟨Nat.zero_le _, Nat.zero_le _⟩ dX0_seenSum_15 rfl (fun g_1 hp_2 => ?_)
    subst g_1
    refine w_as (st' := [.int (zI (X ((k : Nat) : Int))), .int (zI (sm (xv X V) k))]) (sc_i (inA_in (by omega)) rfl) ?_
    refine w_aload_n dX0_seenSum_18 rfl 0 rfl ?_
    refine w_iload_n dX0_seenSum_19 rfl 2 rfl ?_
    refine w_calli (As := [.int (zI ((k : Nat) : Int))]) (rest := [.int (zI (X ((k : Nat) : Int))), .int (zI (sm (xv X V) k))]) (n := 1) (c_X0_scoreOf hc (by first | omega | with_reducible rfl) (by first | omega | with_reducible rfl) (by first | omega | with_reducible rfl)) gX0_seenSum_X0_scoreOf rfl rfl rfl (by decide +kernel) ⟨Nat.le_of_ble_eq_true rfl, Nat.le_of_ble_eq_true rfl⟩ rfl (by first | omega | with_reducible rfl) hc.1 rfl (Nat.le_of_ble_eq_true rfl) ⟨Nat.zero_le _, Nat.zero_le _⟩ dX0_seenSum_20 rfl (fun g_3 hp_4 => ?_)
    subst g_3
    refine w_as (st' := [.int (zI (V ((k : Nat) : Int))), .int (zI (X ((k : Nat) : Int))), .int (zI (sm (xv X V) k))]) (sc_i (inA_in (by omega)) rfl) ?_
    refine w_imul dX0_seenSum_23 ?_
    refine w_iadd dX0_seenSum_24 ?_
    refine w_istore_n [(1, .int (zI ((sm (xv X V) k) + ((X ((k : Nat) : Int)) * (V ((k : Nat) : Int)))))), (0, .ref (B + b)), (2, .int (zI ((k : Nat) : Int)))] dX0_seenSum_25 rfl (by decide) rfl ?_
    refine w_iinc 2 [(2, .int (zI (((k : Nat) : Int) + 1))), (1, .int (zI ((sm (xv X V) k) + ((X ((k : Nat) : Int)) * (V ((k : Nat) : Int)))))), (0, .ref (B + b))] dX0_seenSum_26 rfl (by decide) rfl ?_
    refine w_goto 4 dX0_seenSum_29 (by decide) ?_
    refine w_sub [(0, .ref (B + b)), (1, .int (zI ((sm (xv X V) k) + ((X ((k : Nat) : Int)) * (V ((k : Nat) : Int)))))), (2, .int (zI (((k : Nat) : Int) + 1)))] [2, 1, 0] rfl ?_
    refine w_lv (lv' := [(0, .ref (B + b)), (1, .int (zI (sm (xv X V) (k + 1)))), (2, .int (zI (((k + 1) : Nat) : Int)))]) (lc_s (lc_i rfl (lc_i (by first | omega | with_reducible rfl) rfl))) ?_
    exact ih_4 (k + 1) (by first | omega | with_reducible rfl) (by first | omega | with_reducible rfl)
set_option maxHeartbeats 4000000 in
set_option maxRecDepth 100000 in
theorem c_X0_seenWays {l : Launch} {D : va_G} {cy : Nat → ClassId} {B N : Nat} {g : Nat → va_E} {b sets n : Nat} {ver : Int} {T X V : Int → Int} {Wy : Nat → Int → Int} (hc : vCol cy B g b sets n ver T X V Wy) (hN : b + 10 ≤ N) (hn : n ≤ 5) (hX : ∀ j : Int, 0 ≤ j → j < n → 0 ≤ X j ∧ X j ≤ 12) : CTl l yX0_seenWays wsX0_seenWays (rmo 1 22) D cy B N g [.ref (B + b)] (pr (wx Wy X) n) (fun g' => g' = g) := by
  refine WW_of (cc := cX0_seenWays) (maxL := 4) (ret := (some .long)) (own := RX0) (by decide) rfl rfl (Nat.le_of_ble_eq_true rfl) rfl ?_
  intro pp ee ss mm bl me co hmn
  refine w_lconst1 dX0_seenWays_0 ?_
  refine w_lstore_n [(1, .long (zJ 1)), (0, .ref (B + b))] dX0_seenWays_1 rfl (by decide) rfl ?_
  refine w_iconst dX0_seenWays_2 ?_
  refine w_istore_n [(3, .int (zI 0)), (1, .long (zJ 1)), (0, .ref (B + b))] dX0_seenWays_3 rfl (by decide) rfl ?_
  refine w_sub [(0, .ref (B + b)), (1, .long (zJ 1)), (3, .int (zI 0))] [2, 1, 0] rfl ?_
  refine w_lv (lv' := [(0, .ref (B + b)), (1, .long (zJ (pr (wx Wy X) 0))), (3, .int (zI ((0 : Nat) : Int)))]) (lc_s (lc_l rfl (lc_i (by first | omega | with_reducible rfl) rfl))) ?_
  refine w_loop1 (fun (k : Nat) => k ≤ n) (fun (k : Nat) => n - k) (fun (k : Nat) => g) (fun (k : Nat) => [(0, .ref (B + b)), (1, .long (zJ (pr (wx Wy X) k))), (3, .int (zI ((k : Nat) : Int)))]) ?_ 0 (by first | omega | with_reducible rfl)
  rintro k hk ih_4
  refine w_iload_n dX0_seenWays_4 rfl 2 rfl ?_
  refine w_aload_n dX0_seenWays_5 rfl 0 rfl ?_
  refine w_get (i := 5) (T := TX0) (NF := 7) b (by first | omega | with_reducible rfl) hc.1 rfl (fun _ h => (List.mem_cons_of_mem _ (List.mem_append_right _ h))) (by decide) (List.mem_of_getElem? (i := 1) rfl) rfl dX0_seenWays_6 ?_
  refine w_icmp_ge 31 dX0_seenWays_9 (by decide) (by first | omega | with_reducible rfl) (by first | omega | with_reducible rfl) (fun c_9 => ?_) (fun c_9 => ?_)
  · refine w_lload_n dX0_seenWays_31 rfl 1 rfl ?_
    exact w_lret dX0_seenWays_32 rfl (by rw [show k = n by omega]) rfl
  · refine w_lload_n dX0_seenWays_12 rfl 1 rfl ?_
    refine w_aload_n dX0_seenWays_13 rfl 0 rfl ?_
    refine w_iload_n dX0_seenWays_14 rfl 2 rfl ?_
    refine w_aload_n dX0_seenWays_15 rfl 0 rfl ?_
    refine w_iload_n dX0_seenWays_16 rfl 2 rfl ?_
    refine w_calli (As := [.int (zI ((k : Nat) : Int))]) (rest := [.int (zI ((k : Nat) : Int)), .ref (B + b), .long (zJ (pr (wx Wy X) k))]) (n := 1) (c_X0_aboveOf hc (by first | omega | with_reducible rfl) (by first | omega | with_reducible rfl) (by first | omega | with_reducible rfl)) gX0_seenWays_X0_aboveOf rfl rfl rfl (by decide +kernel) ⟨Nat.le_of_ble_eq_true rfl, Nat.le_of_ble_eq_true rfl⟩ rfl (by first | omega | with_reducible rfl) hc.1 rfl (Nat.le_of_ble_eq_true rfl) ⟨Nat.zero_le _, Nat.zero_le _⟩ dX0_seenWays_17 rfl (fun g_1 hp_2 => ?_)
    subst g_1
    have h9 := hX (k : Int) (by omega) (by omega)
    refine w_as (st' := [.int (zI (X ((k : Nat) : Int))), .int (zI ((k : Nat) : Int)), .ref (B + b), .long (zJ (pr (wx Wy X) k))]) (sc_i (inA_in (by omega)) rfl) ?_
    refine w_calll (As := [.int (zI ((k : Nat) : Int)), .int (zI (X ((k : Nat) : Int)))]) (rest := [.long (zJ (pr (wx Wy X) k))]) (n := 2) (c_X0_waysOf hc (by first | omega | with_reducible rfl) (by first | omega | with_reducible rfl) (by first | omega | with_reducible rfl) (by first | omega | with_reducible rfl)) gX0_seenWays_X0_waysOf rfl rfl rfl (by decide +kernel) ⟨Nat.le_of_ble_eq_true rfl, Nat.le_of_ble_eq_true rfl⟩ rfl (by first | omega | with_reducible rfl) hc.1 rfl (Nat.le_of_ble_eq_true rfl) ⟨Nat.zero_le _, Nat.zero_le _⟩ dX0_seenWays_20 rfl (fun g_3 hp_4 => ?_)
    subst g_3
    refine w_as (st' := [.long (zJ (wx Wy X ((k : Nat) : Int))), .long (zJ (pr (wx Wy X) k))]) (sc_l (wyA_in (by omega)) rfl) ?_
    refine w_lmul dX0_seenWays_23 ?_
    refine w_lstore_n [(1, .long (zJ ((pr (wx Wy X) k) * (wx Wy X ((k : Nat) : Int))))), (0, .ref (B + b)), (3, .int (zI ((k : Nat) : Int)))] dX0_seenWays_24 rfl (by decide) rfl ?_
    refine w_iinc 2 [(3, .int (zI (((k : Nat) : Int) + 1))), (1, .long (zJ ((pr (wx Wy X) k) * (wx Wy X ((k : Nat) : Int))))), (0, .ref (B + b))] dX0_seenWays_25 rfl (by decide) rfl ?_
    refine w_goto 4 dX0_seenWays_28 (by decide) ?_
    refine w_sub [(0, .ref (B + b)), (1, .long (zJ ((pr (wx Wy X) k) * (wx Wy X ((k : Nat) : Int))))), (3, .int (zI (((k : Nat) : Int) + 1)))] [2, 1, 0] rfl ?_
    refine w_lv (lv' := [(0, .ref (B + b)), (1, .long (zJ (pr (wx Wy X) (k + 1)))), (3, .int (zI (((k + 1) : Nat) : Int)))]) (lc_s (lc_l rfl (lc_i (by first | omega | with_reducible rfl) rfl))) ?_
    exact ih_4 (k + 1) (by first | omega | with_reducible rfl) (by first | omega | with_reducible rfl)
set_option maxHeartbeats 4000000 in
set_option maxRecDepth 100000 in
theorem c_X0_clear {l : Launch} {D : va_G} {cy : Nat → ClassId} {B N : Nat} {g : Nat → va_E} {b sets n : Nat} {ver : Int} {T X V : Int → Int} {Wy : Nat → Int → Int} (hc : vCol cy B g b sets n ver T X V Wy) (hN : b + 10 ≤ N) : CTv l yX0_clear wsX0_clear (rmo 0 0) D cy B N g [.ref (B + b)] (fun g' => vCol cy B g' b sets 0 (ver + 1) T X V Wy ∧ (∀ q, (q < b ∨ b + 10 ≤ q) → g' q = g q)) := by
  refine WW_of (cc := cX0_clear) (maxL := 1) (ret := none) (own := RX0) (by decide) rfl rfl (Nat.le_of_ble_eq_true rfl) rfl ?_
  intro pp ee ss mm bl me co hmn
  have hfr_0 : ∀ q, (q < b ∨ b + 10 ≤ q) → g q = g q := fun _ _ => rfl
  refine w_aload_n dX0_clear_0 rfl 0 rfl ?_
  refine w_iconst dX0_clear_1 ?_
  refine w_as (st' := [.int (zI ((0 : Nat) : Int)), .ref (B + b)]) (sc_i rfl rfl) ?_
  refine w_put (i := 5) (T := TX0) (NF := 7) b (by first | omega | with_reducible rfl) hc.1 rfl (fun _ h => (List.mem_cons_of_mem _ (List.mem_append_right _ h))) tyX0 tyX0_ok nmX0 (by decide) (List.mem_of_getElem? (i := 1) rfl) rfl rfl rfl (Nat.le_of_ble_eq_true rfl) dX0_clear_2 (fun g_1 he_2 hn_3 => ?_)
  have hc_4 : vCol cy B g_1 b sets 0 ver T X V Wy := ⟨he_2, ((hn_3 _ (by omega)).trans hc.2.1), ((hn_3 _ (by omega)).trans hc.2.2.1), ((hn_3 _ (by omega)).trans hc.2.2.2.1), ((hn_3 _ (by omega)).trans hc.2.2.2.2.1), (fun k hk => (hn_3 _ (by omega)).trans (hc.2.2.2.2.2 k hk))⟩
  have hfr_5 : ∀ q, (q < b ∨ b + 10 ≤ q) → g_1 q = g q := fun q hq => (hn_3 q (by omega)).trans (hfr_0 q hq)
  refine w_aload_n dX0_clear_5 rfl 0 rfl ?_
  refine w_dup dX0_clear_6 rfl ?_
  refine w_get (i := 6) (T := TX0) (NF := 7) b (by first | omega | with_reducible rfl) hc_4.1 rfl (fun _ h => (List.mem_cons_of_mem _ (List.mem_append_right _ h))) (by decide) (List.mem_of_getElem? (i := 2) rfl) rfl dX0_clear_7 ?_
  refine w_iconst dX0_clear_10 ?_
  refine w_iadd dX0_clear_11 ?_
  refine w_put (i := 6) (T := TX0) (NF := 7) b (by first | omega | with_reducible rfl) hc_4.1 rfl (fun _ h => (List.mem_cons_of_mem _ (List.mem_append_right _ h))) tyX0 tyX0_ok nmX0 (by decide) (List.mem_of_getElem? (i := 2) rfl) rfl rfl rfl (Nat.le_of_ble_eq_true rfl) dX0_clear_12 (fun g_6 he_7 hn_8 => ?_)
  have hc_9 : vCol cy B g_6 b sets 0 (ver + 1) T X V Wy := ⟨he_7, ((hn_8 _ (by omega)).trans hc_4.2.1), ((hn_8 _ (by omega)).trans hc_4.2.2.1), ((hn_8 _ (by omega)).trans hc_4.2.2.2.1), ((hn_8 _ (by omega)).trans hc_4.2.2.2.2.1), (fun k hk => (hn_8 _ (by omega)).trans (hc_4.2.2.2.2.2 k hk))⟩
  have hfr_10 : ∀ q, (q < b ∨ b + 10 ≤ q) → g_6 q = g q := fun q hq => (hn_8 q (by omega)).trans (hfr_5 q hq)
  exact w_vret dX0_clear_15 rfl ⟨hc_9, hfr_10⟩
set_option maxHeartbeats 4000000 in
set_option maxRecDepth 100000 in
theorem c_X0_tellAbove {l : Launch} {D : va_G} {cy : Nat → ClassId} {B N : Nat} {g : Nat → va_E} {b sets n : Nat} {ver : Int} {T X V : Int → Int} {Wy : Nat → Int → Int} {j x : Int} (hc : vCol cy B g b sets n ver T X V Wy) (hN : b + 10 ≤ N) (hn : n ≤ 5) (hj : 0 ≤ j ∧ j < n) : CTv l yX0_tellAbove wsX0_tellAbove (rmo 1 21) D cy B N g [.ref (B + b), .int (zI j), .int (zI x)] (fun g' => vCol cy B g' b sets n (ver + 1) T (uZ X j x) V Wy ∧ (∀ q, (q < b ∨ b + 10 ≤ q) → g' q = g q)) := by
  refine WW_of (cc := cX0_tellAbove) (maxL := 3) (ret := none) (own := RX0) (by decide) rfl rfl (Nat.le_of_ble_eq_true rfl) rfl ?_
  intro pp ee ss mm bl me co hmn
  have hfr_0 : ∀ q, (q < b ∨ b + 10 ≤ q) → g q = g q := fun _ _ => rfl
  refine w_aload_n dX0_tellAbove_0 rfl 0 rfl ?_
  refine w_iload_n dX0_tellAbove_1 rfl 1 rfl ?_
  refine w_calli (As := [.int (zI j)]) (rest := []) (n := 1) (c_X0_has hc (by first | omega | with_reducible rfl) (by first | omega | with_reducible rfl) (by first | omega | with_reducible rfl)) gX0_tellAbove_X0_has rfl rfl rfl (by decide +kernel) ⟨Nat.le_of_ble_eq_true rfl, Nat.le_of_ble_eq_true rfl⟩ rfl (by first | omega | with_reducible rfl) hc.1 rfl (Nat.le_of_ble_eq_true rfl) ⟨Nat.zero_le _, Nat.zero_le _⟩ dX0_tellAbove_2 rfl (fun g_1 hp_2 => ?_)
  subst g_1
  refine w_ifeqB 25 dX0_tellAbove_5 (by decide) (fun c_5 => ?_) (fun c_5 => ?_)
  · exact absurd hj c_5
  · refine w_aload_n dX0_tellAbove_8 rfl 0 rfl ?_
    refine w_get (i := 2) (T := TX0) (NF := 7) b (by first | omega | with_reducible rfl) hc.1 rfl (fun _ h => (List.mem_cons_of_mem _ (List.mem_append_right _ h))) (by decide) (List.mem_of_getElem? (i := 1) rfl) rfl dX0_tellAbove_9 ?_
    refine w_iload_n dX0_tellAbove_12 rfl 1 rfl ?_
    refine w_iload_n dX0_tellAbove_13 rfl 2 rfl ?_
    refine w_iast (b + 2) (by first | omega | with_reducible rfl) hc.2.2.1 (by first | omega | with_reducible rfl) dX0_tellAbove_14 (fun g_3 he_4 hn_5 => ?_)
    have hc_6 : vCol cy B g_3 b sets n ver T (uZ X j x) V Wy := ⟨((hn_5 _ (by omega)).trans hc.1), ((hn_5 _ (by omega)).trans hc.2.1), he_4, ((hn_5 _ (by omega)).trans hc.2.2.2.1), ((hn_5 _ (by omega)).trans hc.2.2.2.2.1), (fun k hk => (hn_5 _ (by omega)).trans (hc.2.2.2.2.2 k hk))⟩
    have hfr_7 : ∀ q, (q < b ∨ b + 10 ≤ q) → g_3 q = g q := fun q hq => (hn_5 q (by omega)).trans (hfr_0 q hq)
    refine w_aload_n dX0_tellAbove_15 rfl 0 rfl ?_
    refine w_dup dX0_tellAbove_16 rfl ?_
    refine w_get (i := 6) (T := TX0) (NF := 7) b (by first | omega | with_reducible rfl) hc_6.1 rfl (fun _ h => (List.mem_cons_of_mem _ (List.mem_append_right _ h))) (by decide) (List.mem_of_getElem? (i := 2) rfl) rfl dX0_tellAbove_17 ?_
    refine w_iconst dX0_tellAbove_20 ?_
    refine w_iadd dX0_tellAbove_21 ?_
    refine w_put (i := 6) (T := TX0) (NF := 7) b (by first | omega | with_reducible rfl) hc_6.1 rfl (fun _ h => (List.mem_cons_of_mem _ (List.mem_append_right _ h))) tyX0 tyX0_ok nmX0 (by decide) (List.mem_of_getElem? (i := 2) rfl) rfl rfl rfl (Nat.le_of_ble_eq_true rfl) dX0_tellAbove_22 (fun g_8 he_9 hn_10 => ?_)
    have hc_11 : vCol cy B g_8 b sets n (ver + 1) T (uZ X j x) V Wy := ⟨he_9, ((hn_10 _ (by omega)).trans hc_6.2.1), ((hn_10 _ (by omega)).trans hc_6.2.2.1), ((hn_10 _ (by omega)).trans hc_6.2.2.2.1), ((hn_10 _ (by omega)).trans hc_6.2.2.2.2.1), (fun k hk => (hn_10 _ (by omega)).trans (hc_6.2.2.2.2.2 k hk))⟩
    have hfr_12 : ∀ q, (q < b ∨ b + 10 ≤ q) → g_8 q = g q := fun q hq => (hn_10 q (by omega)).trans (hfr_7 q hq)
    exact w_vret dX0_tellAbove_25 rfl ⟨hc_11, hfr_12⟩
set_option maxHeartbeats 4000000 in
set_option maxRecDepth 100000 in
theorem c_X0_tellScore {l : Launch} {D : va_G} {cy : Nat → ClassId} {B N : Nat} {g : Nat → va_E} {b sets n : Nat} {ver : Int} {T X V : Int → Int} {Wy : Nat → Int → Int} {j x : Int} (hc : vCol cy B g b sets n ver T X V Wy) (hN : b + 10 ≤ N) (hn : n ≤ 5) (hj : 0 ≤ j ∧ j < n) : CTv l yX0_tellScore wsX0_tellScore (rmo 1 21) D cy B N g [.ref (B + b), .int (zI j), .int (zI x)] (fun g' => vCol cy B g' b sets n (ver + 1) T X (uZ V j x) Wy ∧ (∀ q, (q < b ∨ b + 10 ≤ q) → g' q = g q)) := by
  refine WW_of (cc := cX0_tellScore) (maxL := 3) (ret := none) (own := RX0) (by decide) rfl rfl (Nat.le_of_ble_eq_true rfl) rfl ?_
  intro pp ee ss mm bl me co hmn
  have hfr_0 : ∀ q, (q < b ∨ b + 10 ≤ q) → g q = g q := fun _ _ => rfl
  refine w_aload_n dX0_tellScore_0 rfl 0 rfl ?_
  refine w_iload_n dX0_tellScore_1 rfl 1 rfl ?_
  refine w_calli (As := [.int (zI j)]) (rest := []) (n := 1) (c_X0_has hc (by first | omega | with_reducible rfl) (by first | omega | with_reducible rfl) (by first | omega | with_reducible rfl)) gX0_tellScore_X0_has rfl rfl rfl (by decide +kernel) ⟨Nat.le_of_ble_eq_true rfl, Nat.le_of_ble_eq_true rfl⟩ rfl (by first | omega | with_reducible rfl) hc.1 rfl (Nat.le_of_ble_eq_true rfl) ⟨Nat.zero_le _, Nat.zero_le _⟩ dX0_tellScore_2 rfl (fun g_1 hp_2 => ?_)
  subst g_1
  refine w_ifeqB 25 dX0_tellScore_5 (by decide) (fun c_5 => ?_) (fun c_5 => ?_)
  · exact absurd hj c_5
  · refine w_aload_n dX0_tellScore_8 rfl 0 rfl ?_
    refine w_get (i := 3) (T := TX0) (NF := 7) b (by first | omega | with_reducible rfl) hc.1 rfl (fun _ h => (List.mem_cons_of_mem _ (List.mem_append_right _ h))) (by decide) (List.mem_of_getElem? (i := 1) rfl) rfl dX0_tellScore_9 ?_
    refine w_iload_n dX0_tellScore_12 rfl 1 rfl ?_
    refine w_iload_n dX0_tellScore_13 rfl 2 rfl ?_
    refine w_iast (b + 3) (by first | omega | with_reducible rfl) hc.2.2.2.1 (by first | omega | with_reducible rfl) dX0_tellScore_14 (fun g_3 he_4 hn_5 => ?_)
    have hc_6 : vCol cy B g_3 b sets n ver T X (uZ V j x) Wy := ⟨((hn_5 _ (by omega)).trans hc.1), ((hn_5 _ (by omega)).trans hc.2.1), ((hn_5 _ (by omega)).trans hc.2.2.1), he_4, ((hn_5 _ (by omega)).trans hc.2.2.2.2.1), (fun k hk => (hn_5 _ (by omega)).trans (hc.2.2.2.2.2 k hk))⟩
    have hfr_7 : ∀ q, (q < b ∨ b + 10 ≤ q) → g_3 q = g q := fun q hq => (hn_5 q (by omega)).trans (hfr_0 q hq)
    refine w_aload_n dX0_tellScore_15 rfl 0 rfl ?_
    refine w_dup dX0_tellScore_16 rfl ?_
    refine w_get (i := 6) (T := TX0) (NF := 7) b (by first | omega | with_reducible rfl) hc_6.1 rfl (fun _ h => (List.mem_cons_of_mem _ (List.mem_append_right _ h))) (by decide) (List.mem_of_getElem? (i := 2) rfl) rfl dX0_tellScore_17 ?_
    refine w_iconst dX0_tellScore_20 ?_
    refine w_iadd dX0_tellScore_21 ?_
    refine w_put (i := 6) (T := TX0) (NF := 7) b (by first | omega | with_reducible rfl) hc_6.1 rfl (fun _ h => (List.mem_cons_of_mem _ (List.mem_append_right _ h))) tyX0 tyX0_ok nmX0 (by decide) (List.mem_of_getElem? (i := 2) rfl) rfl rfl rfl (Nat.le_of_ble_eq_true rfl) dX0_tellScore_22 (fun g_8 he_9 hn_10 => ?_)
    have hc_11 : vCol cy B g_8 b sets n (ver + 1) T X (uZ V j x) Wy := ⟨he_9, ((hn_10 _ (by omega)).trans hc_6.2.1), ((hn_10 _ (by omega)).trans hc_6.2.2.1), ((hn_10 _ (by omega)).trans hc_6.2.2.2.1), ((hn_10 _ (by omega)).trans hc_6.2.2.2.2.1), (fun k hk => (hn_10 _ (by omega)).trans (hc_6.2.2.2.2.2 k hk))⟩
    have hfr_12 : ∀ q, (q < b ∨ b + 10 ≤ q) → g_8 q = g q := fun q hq => (hn_10 q (by omega)).trans (hfr_7 q hq)
    exact w_vret dX0_tellScore_25 rfl ⟨hc_11, hfr_12⟩
