/-! ===== SumWalk ===== -/
def inS (W : Int → Int) (y : Int) : Int := if 0 ≤ y ∧ y ≤ 540 then W y else 0
def bw (W : Int → Int) (law seen : Int) : Int → Int := fun y => if (law = 1 ∧ seen ≤ y) ∨ (¬ law = 1 ∧ y ≤ seen) then W y else 0
set_option maxHeartbeats 4000000 in
set_option maxRecDepth 100000 in
theorem c_X8_least {l : Launch} {D : va_G} {cy : Nat → ClassId} {B N : Nat} {g : Nat → va_E} {sb : Nat} {W Tb : Int → Int} {le gr sver : Int} {nb cb : Nat} (hs : vSum cy B g sb cb nb W Tb le gr sver) (hSB : sb + 3 ≤ N) : CTi l yX8_least wsX8_least (rmo 0 0) D cy B N g [.ref (B + sb)] le (fun g' => g' = g) := by
  refine WW_of (cc := cX8_least) (maxL := 1) (ret := (some .int)) (own := RX8) (by decide) rfl rfl (Nat.le_of_ble_eq_true rfl) rfl ?_
  intro pp ee ss mm bl me co hmn
  refine w_aload_n dX8_least_0 rfl 0 rfl ?_
  refine w_get (i := 4) (T := TX8) (NF := 7) sb (by first | omega | with_reducible rfl) hs.1 rfl (fun _ h => (List.mem_cons_of_mem _ (List.mem_append_right _ h))) (by decide) (List.mem_of_getElem? (i := 1) rfl) rfl dX8_least_1 ?_
  exact w_iret dX8_least_4 rfl (by first | with_reducible rfl | omega | (split <;> omega)) rfl
set_option maxHeartbeats 4000000 in
set_option maxRecDepth 100000 in
theorem c_X8_greatest {l : Launch} {D : va_G} {cy : Nat → ClassId} {B N : Nat} {g : Nat → va_E} {sb : Nat} {W Tb : Int → Int} {le gr sver : Int} {nb cb : Nat} (hs : vSum cy B g sb cb nb W Tb le gr sver) (hSB : sb + 3 ≤ N) : CTi l yX8_greatest wsX8_greatest (rmo 0 0) D cy B N g [.ref (B + sb)] gr (fun g' => g' = g) := by
  refine WW_of (cc := cX8_greatest) (maxL := 1) (ret := (some .int)) (own := RX8) (by decide) rfl rfl (Nat.le_of_ble_eq_true rfl) rfl ?_
  intro pp ee ss mm bl me co hmn
  refine w_aload_n dX8_greatest_0 rfl 0 rfl ?_
  refine w_get (i := 5) (T := TX8) (NF := 7) sb (by first | omega | with_reducible rfl) hs.1 rfl (fun _ h => (List.mem_cons_of_mem _ (List.mem_append_right _ h))) (by decide) (List.mem_of_getElem? (i := 1) rfl) rfl dX8_greatest_1 ?_
  exact w_iret dX8_greatest_4 rfl (by first | with_reducible rfl | omega | (split <;> omega)) rfl
set_option maxHeartbeats 4000000 in
set_option maxRecDepth 100000 in
theorem c_X8_waysOf {l : Launch} {D : va_G} {cy : Nat → ClassId} {B N : Nat} {g : Nat → va_E} {sb : Nat} {W Tb : Int → Int} {le gr sver : Int} {nb cb : Nat} {y : Int} (hs : vSum cy B g sb cb nb W Tb le gr sver) (hSB : sb + 3 ≤ N) (h_y : -2147483648 ≤ y ∧ y < 2147483648) : CTl l yX8_waysOf wsX8_waysOf (rmo 0 0) D cy B N g [.ref (B + sb), .int (zI y)] (inS W y) (fun g' => g' = g) := by
  refine WW_of (cc := cX8_waysOf) (maxL := 2) (ret := (some .long)) (own := RX8) (by decide) rfl rfl (Nat.le_of_ble_eq_true rfl) rfl ?_
  intro pp ee ss mm bl me co hmn
  refine w_iload_n dX8_waysOf_0 rfl 1 rfl ?_
  refine w_if_lt 20 dX8_waysOf_1 (by decide) (by first | omega | with_reducible rfl) (fun c_1 => ?_) (fun c_1 => ?_)
  · refine w_lconst0 dX8_waysOf_20 ?_
    exact w_lret dX8_waysOf_21 rfl (by unfold inS; first | rw [if_neg (by omega)] | rw [if_pos (by omega)]) rfl
  · refine w_iload_n dX8_waysOf_4 rfl 1 rfl ?_
    refine w_sipush dX8_waysOf_5 (by decide) ?_
    refine w_icmp_gt 20 dX8_waysOf_8 (by decide) (by first | omega | with_reducible rfl) (by first | omega | with_reducible rfl) (fun c_8 => ?_) (fun c_8 => ?_)
    · refine w_lconst0 dX8_waysOf_20 ?_
      exact w_lret dX8_waysOf_21 rfl (by unfold inS; first | rw [if_neg (by omega)] | rw [if_pos (by omega)]) rfl
    · refine w_aload_n dX8_waysOf_11 rfl 0 rfl ?_
      refine w_get (i := 2) (T := TX8) (NF := 7) sb (by first | omega | with_reducible rfl) hs.1 rfl (fun _ h => (List.mem_cons_of_mem _ (List.mem_append_right _ h))) (by decide) (List.mem_of_getElem? (i := 1) rfl) rfl dX8_waysOf_12 ?_
      refine w_iload_n dX8_waysOf_15 rfl 1 rfl ?_
      refine w_lald (sb + 1) (by first | omega | with_reducible rfl) hs.2.1 (by first | omega | with_reducible rfl) dX8_waysOf_16 ?_
      refine w_goto 21 dX8_waysOf_17 (by decide) ?_
      exact w_lret dX8_waysOf_21 rfl (by unfold inS; first | rw [if_neg (by omega)] | rw [if_pos (by omega)]) rfl
set_option maxHeartbeats 4000000 in
set_option maxRecDepth 100000 in
theorem c_X8_isStrange {l : Launch} {D : va_G} {cy : Nat → ClassId} {B N : Nat} {g : Nat → va_E} {law y seen : Int} (h_law : -2147483648 ≤ law ∧ law < 2147483648) (h_y : -2147483648 ≤ y ∧ y < 2147483648) (h_seen : -2147483648 ≤ seen ∧ seen < 2147483648) : CTi l yX8_isStrange wsX8_isStrange (rmo 0 0) D cy B N g [.int (zI law), .int (zI y), .int (zI seen)] (if ((law = 1 ∧ seen ≤ y) ∨ (¬ law = 1 ∧ y ≤ seen)) then 1 else 0) (fun g' => g' = g) := by
  refine WW_of (cc := cX8_isStrange) (maxL := 3) (ret := (some .boolean)) (own := RX8) (by decide) rfl rfl (Nat.le_of_ble_eq_true rfl) rfl ?_
  intro pp ee ss mm bl me co hmn
  refine w_iload_n dX8_isStrange_0 rfl 0 rfl ?_
  refine w_iconst dX8_isStrange_1 ?_
  refine w_icmp_ne 18 dX8_isStrange_2 (by decide) (by first | omega | with_reducible rfl) (by first | omega | with_reducible rfl) (fun c_2 => ?_) (fun c_2 => ?_)
  · refine w_iload_n dX8_isStrange_18 rfl 1 rfl ?_
    refine w_iload_n dX8_isStrange_19 rfl 2 rfl ?_
    refine w_icmp_gt 27 dX8_isStrange_20 (by decide) (by first | omega | with_reducible rfl) (by first | omega | with_reducible rfl) (fun c_20 => ?_) (fun c_20 => ?_)
    · refine w_iconst dX8_isStrange_27 ?_
      exact w_zret dX8_isStrange_28 rfl rfl (by first | rw [if_neg (by omega)] | rw [if_pos (by omega)]) rfl
    · refine w_iconst dX8_isStrange_23 ?_
      refine w_goto 28 dX8_isStrange_24 (by decide) ?_
      exact w_zret dX8_isStrange_28 rfl rfl (by first | rw [if_neg (by omega)] | rw [if_pos (by omega)]) rfl
  · refine w_iload_n dX8_isStrange_5 rfl 1 rfl ?_
    refine w_iload_n dX8_isStrange_6 rfl 2 rfl ?_
    refine w_icmp_lt 14 dX8_isStrange_7 (by decide) (by first | omega | with_reducible rfl) (by first | omega | with_reducible rfl) (fun c_7 => ?_) (fun c_7 => ?_)
    · refine w_iconst dX8_isStrange_14 ?_
      refine w_goto 28 dX8_isStrange_15 (by decide) ?_
      exact w_zret dX8_isStrange_28 rfl rfl (by first | rw [if_neg (by omega)] | rw [if_pos (by omega)]) rfl
    · refine w_iconst dX8_isStrange_10 ?_
      refine w_goto 28 dX8_isStrange_11 (by decide) ?_
      exact w_zret dX8_isStrange_28 rfl rfl (by first | rw [if_neg (by omega)] | rw [if_pos (by omega)]) rfl
set_option maxHeartbeats 4000000 in
set_option maxRecDepth 100000 in
theorem c_X8_waysBy {l : Launch} {D : va_G} {cy : Nat → ClassId} {B N : Nat} {g : Nat → va_E} {sb : Nat} {W Tb : Int → Int} {le gr sver : Int} {nb cb : Nat} {law seen : Int} (hs : vSum cy B g sb cb nb W Tb le gr sver) (hSB : sb + 3 ≤ N) (h_law : -2147483648 ≤ law ∧ law < 2147483648) (h_seen : -2147483648 ≤ seen ∧ seen < 2147483648) : CTl l yX8_waysBy wsX8_waysBy (rmo 1 22) D cy B N g [.ref (B + sb), .int (zI law), .int (zI seen)] (sm (bw W law seen) 541) (fun g' => g' = g) := by
  refine WW_of (cc := cX8_waysBy) (maxL := 6) (ret := (some .long)) (own := RX8) (by decide) rfl rfl (Nat.le_of_ble_eq_true rfl) rfl ?_
  intro pp ee ss mm bl me co hmn
  refine w_lconst0 dX8_waysBy_0 ?_
  refine w_lstore_n [(3, .long (zJ 0)), (0, .ref (B + sb)), (1, .int (zI law)), (2, .int (zI seen))] dX8_waysBy_1 rfl (by decide) rfl ?_
  refine w_iconst dX8_waysBy_2 ?_
  refine w_istore [(5, .int (zI 0)), (3, .long (zJ 0)), (0, .ref (B + sb)), (1, .int (zI law)), (2, .int (zI seen))] dX8_waysBy_3 (by decide) rfl ?_
  refine w_sub [(0, .ref (B + sb)), (1, .int (zI law)), (2, .int (zI seen)), (3, .long (zJ 0)), (5, .int (zI 0))] [2, 3, 4, 1, 0] rfl ?_
  refine w_lv (lv' := [(0, .ref (B + sb)), (1, .int (zI law)), (2, .int (zI seen)), (3, .long (zJ (sm (bw W law seen) 0))), (5, .int (zI ((0 : Nat) : Int)))]) (lc_s (lc_s (lc_s (lc_l rfl (lc_i (by first | omega | with_reducible rfl) rfl))))) ?_
  refine w_loop1 (fun (k : Nat) => k ≤ 541) (fun (k : Nat) => 541 - k) (fun (k : Nat) => g) (fun (k : Nat) => [(0, .ref (B + sb)), (1, .int (zI law)), (2, .int (zI seen)), (3, .long (zJ (sm (bw W law seen) k))), (5, .int (zI ((k : Nat) : Int)))]) ?_ 0 (by first | omega | with_reducible rfl)
  rintro k hk ih_5
  refine w_iload dX8_waysBy_5 4 rfl ?_
  refine w_sipush dX8_waysBy_7 (by decide) ?_
  refine w_icmp_gt 39 dX8_waysBy_10 (by decide) (by first | omega | with_reducible rfl) (by first | omega | with_reducible rfl) (fun c_10 => ?_) (fun c_10 => ?_)
  · refine w_lload_n dX8_waysBy_39 rfl 3 rfl ?_
    exact w_lret dX8_waysBy_40 rfl (by rw [show k = 541 by omega]) rfl
  · refine w_iload_n dX8_waysBy_13 rfl 1 rfl ?_
    refine w_iload dX8_waysBy_14 4 rfl ?_
    refine w_iload_n dX8_waysBy_16 rfl 2 rfl ?_
    refine w_calliS (As := [.int (zI law), .int (zI ((k : Nat) : Int)), .int (zI seen)]) (rest := []) (n := 3) (c_X8_isStrange (by first | omega | with_reducible rfl) (by first | omega | with_reducible rfl) (by first | omega | with_reducible rfl)) gX8_waysBy_X8_isStrange rfl rfl rfl (by decide +kernel) ⟨Nat.le_of_ble_eq_true rfl, Nat.le_of_ble_eq_true rfl⟩ rfl (Nat.le_of_ble_eq_true rfl) ⟨Nat.zero_le _, Nat.zero_le _⟩ dX8_waysBy_17 rfl (fun g_1 hp_2 => ?_)
    subst g_1
    refine w_ifeqB 33 dX8_waysBy_20 (by decide) (fun c_20 => ?_) (fun c_20 => ?_)
    · refine w_iinc 4 [(5, .int (zI (((k : Nat) : Int) + 1))), (0, .ref (B + sb)), (1, .int (zI law)), (2, .int (zI seen)), (3, .long (zJ (sm (bw W law seen) k)))] dX8_waysBy_33 rfl (by decide) rfl ?_
      refine w_goto 5 dX8_waysBy_36 (by decide) ?_
      refine w_sub [(0, .ref (B + sb)), (1, .int (zI law)), (2, .int (zI seen)), (3, .long (zJ (sm (bw W law seen) k))), (5, .int (zI (((k : Nat) : Int) + 1)))] [1, 2, 3, 4, 0] rfl ?_
      refine w_lv (lv' := [(0, .ref (B + sb)), (1, .int (zI law)), (2, .int (zI seen)), (3, .long (zJ (sm (bw W law seen) (k + 1)))), (5, .int (zI (((k + 1) : Nat) : Int)))]) (lc_s (lc_s (lc_s (lc_l (by show _ = sm (bw W law seen) k + bw W law seen ((k : Nat) : Int); unfold bw; first | rw [if_pos c_20] | rw [if_neg c_20, Int.add_zero]) (lc_i (by first | omega | with_reducible rfl) rfl))))) ?_
      exact ih_5 (k + 1) (by first | omega | with_reducible rfl) (by first | omega | with_reducible rfl)
    · refine w_lload_n dX8_waysBy_23 rfl 3 rfl ?_
      refine w_aload_n dX8_waysBy_24 rfl 0 rfl ?_
      refine w_get (i := 2) (T := TX8) (NF := 7) sb (by first | omega | with_reducible rfl) hs.1 rfl (fun _ h => (List.mem_cons_of_mem _ (List.mem_append_right _ h))) (by decide) (List.mem_of_getElem? (i := 1) rfl) rfl dX8_waysBy_25 ?_
      refine w_iload dX8_waysBy_28 4 rfl ?_
      refine w_lald (sb + 1) (by first | omega | with_reducible rfl) hs.2.1 (by first | omega | with_reducible rfl) dX8_waysBy_30 ?_
      refine w_ladd dX8_waysBy_31 ?_
      refine w_lstore_n [(3, .long (zJ ((sm (bw W law seen) k) + (W ((k : Nat) : Int))))), (0, .ref (B + sb)), (1, .int (zI law)), (2, .int (zI seen)), (5, .int (zI ((k : Nat) : Int)))] dX8_waysBy_32 rfl (by decide) rfl ?_
      refine w_iinc 4 [(5, .int (zI (((k : Nat) : Int) + 1))), (3, .long (zJ ((sm (bw W law seen) k) + (W ((k : Nat) : Int))))), (0, .ref (B + sb)), (1, .int (zI law)), (2, .int (zI seen))] dX8_waysBy_33 rfl (by decide) rfl ?_
      refine w_goto 5 dX8_waysBy_36 (by decide) ?_
      refine w_sub [(0, .ref (B + sb)), (1, .int (zI law)), (2, .int (zI seen)), (3, .long (zJ ((sm (bw W law seen) k) + (W ((k : Nat) : Int))))), (5, .int (zI (((k : Nat) : Int) + 1)))] [2, 3, 4, 1, 0] rfl ?_
      refine w_lv (lv' := [(0, .ref (B + sb)), (1, .int (zI law)), (2, .int (zI seen)), (3, .long (zJ (sm (bw W law seen) (k + 1)))), (5, .int (zI (((k + 1) : Nat) : Int)))]) (lc_s (lc_s (lc_s (lc_l (by show _ = sm (bw W law seen) k + bw W law seen ((k : Nat) : Int); unfold bw; first | rw [if_pos c_20] | rw [if_neg c_20, Int.add_zero]) (lc_i (by first | omega | with_reducible rfl) rfl))))) ?_
      exact ih_5 (k + 1) (by first | omega | with_reducible rfl) (by first | omega | with_reducible rfl)
set_option maxHeartbeats 4000000 in
set_option maxRecDepth 100000 in
theorem c_X8_tablesBy {l : Launch} {D : va_G} {cy : Nat → ClassId} {B N : Nat} {g : Nat → va_E} {sb : Nat} {W Tb : Int → Int} {le gr sver : Int} {nb cb : Nat} {law seen : Int} (hs : vSum cy B g sb cb nb W Tb le gr sver) (hSB : sb + 3 ≤ N) (h_law : -2147483648 ≤ law ∧ law < 2147483648) (h_seen : -2147483648 ≤ seen ∧ seen < 2147483648) : CTi l yX8_tablesBy wsX8_tablesBy (rmo 1 22) D cy B N g [.ref (B + sb), .int (zI law), .int (zI seen)] (sm (bw Tb law seen) 541) (fun g' => g' = g) := by
  refine WW_of (cc := cX8_tablesBy) (maxL := 5) (ret := (some .int)) (own := RX8) (by decide) rfl rfl (Nat.le_of_ble_eq_true rfl) rfl ?_
  intro pp ee ss mm bl me co hmn
  refine w_iconst dX8_tablesBy_0 ?_
  refine w_istore_n [(3, .int (zI 0)), (0, .ref (B + sb)), (1, .int (zI law)), (2, .int (zI seen))] dX8_tablesBy_1 rfl (by decide) rfl ?_
  refine w_iconst dX8_tablesBy_2 ?_
  refine w_istore [(4, .int (zI 0)), (3, .int (zI 0)), (0, .ref (B + sb)), (1, .int (zI law)), (2, .int (zI seen))] dX8_tablesBy_3 (by decide) rfl ?_
  refine w_sub [(0, .ref (B + sb)), (1, .int (zI law)), (2, .int (zI seen)), (3, .int (zI 0)), (4, .int (zI 0))] [2, 3, 4, 1, 0] rfl ?_
  refine w_lv (lv' := [(0, .ref (B + sb)), (1, .int (zI law)), (2, .int (zI seen)), (3, .int (zI (sm (bw Tb law seen) 0))), (4, .int (zI ((0 : Nat) : Int)))]) (lc_s (lc_s (lc_s (lc_i rfl (lc_i (by first | omega | with_reducible rfl) rfl))))) ?_
  refine w_loop1 (fun (k : Nat) => k ≤ 541) (fun (k : Nat) => 541 - k) (fun (k : Nat) => g) (fun (k : Nat) => [(0, .ref (B + sb)), (1, .int (zI law)), (2, .int (zI seen)), (3, .int (zI (sm (bw Tb law seen) k))), (4, .int (zI ((k : Nat) : Int)))]) ?_ 0 (by first | omega | with_reducible rfl)
  rintro k hk ih_5
  refine w_iload dX8_tablesBy_5 4 rfl ?_
  refine w_sipush dX8_tablesBy_7 (by decide) ?_
  refine w_icmp_gt 39 dX8_tablesBy_10 (by decide) (by first | omega | with_reducible rfl) (by first | omega | with_reducible rfl) (fun c_10 => ?_) (fun c_10 => ?_)
  · refine w_iload_n dX8_tablesBy_39 rfl 3 rfl ?_
    exact w_iret dX8_tablesBy_40 rfl (by rw [show k = 541 by omega]) rfl
  · refine w_iload_n dX8_tablesBy_13 rfl 1 rfl ?_
    refine w_iload dX8_tablesBy_14 4 rfl ?_
    refine w_iload_n dX8_tablesBy_16 rfl 2 rfl ?_
    refine w_calliS (As := [.int (zI law), .int (zI ((k : Nat) : Int)), .int (zI seen)]) (rest := []) (n := 3) (c_X8_isStrange (by first | omega | with_reducible rfl) (by first | omega | with_reducible rfl) (by first | omega | with_reducible rfl)) gX8_tablesBy_X8_isStrange rfl rfl rfl (by decide +kernel) ⟨Nat.le_of_ble_eq_true rfl, Nat.le_of_ble_eq_true rfl⟩ rfl (Nat.le_of_ble_eq_true rfl) ⟨Nat.zero_le _, Nat.zero_le _⟩ dX8_tablesBy_17 rfl (fun g_1 hp_2 => ?_)
    subst g_1
    refine w_ifeqB 33 dX8_tablesBy_20 (by decide) (fun c_20 => ?_) (fun c_20 => ?_)
    · refine w_iinc 4 [(4, .int (zI (((k : Nat) : Int) + 1))), (0, .ref (B + sb)), (1, .int (zI law)), (2, .int (zI seen)), (3, .int (zI (sm (bw Tb law seen) k)))] dX8_tablesBy_33 rfl (by decide) rfl ?_
      refine w_goto 5 dX8_tablesBy_36 (by decide) ?_
      refine w_sub [(0, .ref (B + sb)), (1, .int (zI law)), (2, .int (zI seen)), (3, .int (zI (sm (bw Tb law seen) k))), (4, .int (zI (((k : Nat) : Int) + 1)))] [1, 2, 3, 4, 0] rfl ?_
      refine w_lv (lv' := [(0, .ref (B + sb)), (1, .int (zI law)), (2, .int (zI seen)), (3, .int (zI (sm (bw Tb law seen) (k + 1)))), (4, .int (zI (((k + 1) : Nat) : Int)))]) (lc_s (lc_s (lc_s (lc_i (by show _ = sm (bw Tb law seen) k + bw Tb law seen ((k : Nat) : Int); unfold bw; first | rw [if_pos c_20] | rw [if_neg c_20, Int.add_zero]) (lc_i (by first | omega | with_reducible rfl) rfl))))) ?_
      exact ih_5 (k + 1) (by first | omega | with_reducible rfl) (by first | omega | with_reducible rfl)
    · refine w_iload_n dX8_tablesBy_23 rfl 3 rfl ?_
      refine w_aload_n dX8_tablesBy_24 rfl 0 rfl ?_
      refine w_get (i := 3) (T := TX8) (NF := 7) sb (by first | omega | with_reducible rfl) hs.1 rfl (fun _ h => (List.mem_cons_of_mem _ (List.mem_append_right _ h))) (by decide) (List.mem_of_getElem? (i := 1) rfl) rfl dX8_tablesBy_25 ?_
      refine w_iload dX8_tablesBy_28 4 rfl ?_
      refine w_iald (sb + 2) (by first | omega | with_reducible rfl) hs.2.2 (by first | omega | with_reducible rfl) dX8_tablesBy_30 ?_
      refine w_iadd dX8_tablesBy_31 ?_
      refine w_istore_n [(3, .int (zI ((sm (bw Tb law seen) k) + (Tb ((k : Nat) : Int))))), (0, .ref (B + sb)), (1, .int (zI law)), (2, .int (zI seen)), (4, .int (zI ((k : Nat) : Int)))] dX8_tablesBy_32 rfl (by decide) rfl ?_
      refine w_iinc 4 [(4, .int (zI (((k : Nat) : Int) + 1))), (3, .int (zI ((sm (bw Tb law seen) k) + (Tb ((k : Nat) : Int))))), (0, .ref (B + sb)), (1, .int (zI law)), (2, .int (zI seen))] dX8_tablesBy_33 rfl (by decide) rfl ?_
      refine w_goto 5 dX8_tablesBy_36 (by decide) ?_
      refine w_sub [(0, .ref (B + sb)), (1, .int (zI law)), (2, .int (zI seen)), (3, .int (zI ((sm (bw Tb law seen) k) + (Tb ((k : Nat) : Int))))), (4, .int (zI (((k : Nat) : Int) + 1)))] [2, 3, 4, 1, 0] rfl ?_
      refine w_lv (lv' := [(0, .ref (B + sb)), (1, .int (zI law)), (2, .int (zI seen)), (3, .int (zI (sm (bw Tb law seen) (k + 1)))), (4, .int (zI (((k + 1) : Nat) : Int)))]) (lc_s (lc_s (lc_s (lc_i (by show _ = sm (bw Tb law seen) k + bw Tb law seen ((k : Nat) : Int); unfold bw; first | rw [if_pos c_20] | rw [if_neg c_20, Int.add_zero]) (lc_i (by first | omega | with_reducible rfl) rfl))))) ?_
      exact ih_5 (k + 1) (by first | omega | with_reducible rfl) (by first | omega | with_reducible rfl)
set_option maxHeartbeats 4000000 in
set_option maxRecDepth 100000 in
theorem c_X8_take {l : Launch} {D : va_G} {cy : Nat → ClassId} {B N : Nat} {g : Nat → va_E} {sb : Nat} {W Tb : Int → Int} {le gr sver : Int} {nb cb r : Nat} {s w : Int} (hs : vSum cy B g sb cb nb W Tb le gr sver) (hSB : sb + 3 ≤ N) (hsr : 0 ≤ s ∧ s ≤ 540) : CTv l yX8_take wsX8_take (rmo 0 0) D cy B N g [.ref (B + sb), .int (zI s), .long (zJ w)] (fun g' => vSum cy B g' sb cb nb (aW W [] r s w) (aT Tb [] r s) le gr sver ∧ (∀ q, (q < sb ∨ sb + 3 ≤ q) → g' q = g q)) := by
  refine WW_of (cc := cX8_take) (maxL := 4) (ret := none) (own := RX8) (by decide) rfl rfl (Nat.le_of_ble_eq_true rfl) rfl ?_
  intro pp ee ss mm bl me co hmn
  have hfr_0 : ∀ q, (q < sb ∨ sb + 3 ≤ q) → g q = g q := fun _ _ => rfl
  refine w_iload_n dX8_take_0 rfl 1 rfl ?_
  refine w_if_lt 31 dX8_take_1 (by decide) (by first | omega | with_reducible rfl) (fun c_1 => ?_) (fun c_1 => ?_)
  · exfalso; omega
  · refine w_iload_n dX8_take_4 rfl 1 rfl ?_
    refine w_sipush dX8_take_5 (by decide) ?_
    refine w_icmp_gt 31 dX8_take_8 (by decide) (by first | omega | with_reducible rfl) (by first | omega | with_reducible rfl) (fun c_8 => ?_) (fun c_8 => ?_)
    · exfalso; omega
    · refine w_aload_n dX8_take_11 rfl 0 rfl ?_
      refine w_get (i := 2) (T := TX8) (NF := 7) sb (by first | omega | with_reducible rfl) hs.1 rfl (fun _ h => (List.mem_cons_of_mem _ (List.mem_append_right _ h))) (by decide) (List.mem_of_getElem? (i := 1) rfl) rfl dX8_take_12 ?_
      refine w_iload_n dX8_take_15 rfl 1 rfl ?_
      refine w_dup2 dX8_take_16 rfl rfl ?_
      refine w_lald (sb + 1) (by first | omega | with_reducible rfl) hs.2.1 (by first | omega | with_reducible rfl) dX8_take_17 ?_
      refine w_lload_n dX8_take_18 rfl 2 rfl ?_
      refine w_ladd dX8_take_19 ?_
      refine w_last (sb + 1) (by first | omega | with_reducible rfl) hs.2.1 (by first | omega | with_reducible rfl) dX8_take_20 (fun g_1 he_2 hn_3 => ?_)
      have hs_4 : vSum cy B g_1 sb cb nb (uZ W s ((W s) + w)) Tb le gr sver := ⟨((hn_3 _ (by omega)).trans hs.1), he_2, ((hn_3 _ (by omega)).trans hs.2.2)⟩
      have hfr_5 : ∀ q, (q < sb ∨ sb + 3 ≤ q) → g_1 q = g q := fun q hq => (hn_3 q (by omega)).trans (hfr_0 q hq)
      refine w_aload_n dX8_take_21 rfl 0 rfl ?_
      refine w_get (i := 3) (T := TX8) (NF := 7) sb (by first | omega | with_reducible rfl) hs_4.1 rfl (fun _ h => (List.mem_cons_of_mem _ (List.mem_append_right _ h))) (by decide) (List.mem_of_getElem? (i := 2) rfl) rfl dX8_take_22 ?_
      refine w_iload_n dX8_take_25 rfl 1 rfl ?_
      refine w_dup2 dX8_take_26 rfl rfl ?_
      refine w_iald (sb + 2) (by first | omega | with_reducible rfl) hs_4.2.2 (by first | omega | with_reducible rfl) dX8_take_27 ?_
      refine w_iconst dX8_take_28 ?_
      refine w_iadd dX8_take_29 ?_
      refine w_iast (sb + 2) (by first | omega | with_reducible rfl) hs_4.2.2 (by first | omega | with_reducible rfl) dX8_take_30 (fun g_6 he_7 hn_8 => ?_)
      have hs_9 : vSum cy B g_6 sb cb nb (uZ W s ((W s) + w)) (uZ Tb s ((Tb s) + 1)) le gr sver := ⟨((hn_8 _ (by omega)).trans hs_4.1), ((hn_8 _ (by omega)).trans hs_4.2.1), he_7⟩
      have hfr_10 : ∀ q, (q < sb ∨ sb + 3 ≤ q) → g_6 q = g q := fun q hq => (hn_8 q (by omega)).trans (hfr_5 q hq)
      exact w_vret dX8_take_31 rfl ⟨(by have h9 := hs_9; rw [uZ_W _ r, uZ_T _ r] at h9; exact h9), hfr_10⟩
set_option maxHeartbeats 4000000 in
set_option maxRecDepth 100000 in
theorem c_X8_comeTo_0 {l : Launch} {D : va_G} {cy : Nat → ClassId} {B N : Nat} {g : Nat → va_E} {sb : Nat} {W Tb : Int → Int} {le gr sver : Int} {nb cb : Nat} {tf : Int → Int} {nver : Int} {G : Nat → Int → Int} {sets n R : Nat} {cver : Int} {T X V : Int → Int} {Wy : Nat → Int → Int} {j a : Nat} {s w : Int} (hs : vSum cy B g sb cb nb W Tb le gr sver) (hn : vNet cy B g nb cb tf ((R : Nat) : Int) nver G) (hc : vCol cy B g cb sets n cver T X V Wy) (hSB : sb + 3 ≤ N) (hd1 : sb + 3 ≤ nb ∨ nb + 11 ≤ sb) (hd2 : sb + 3 ≤ cb ∨ cb + 10 ≤ sb) (hNB : nb + 11 ≤ N) (hCB : cb + 10 ≤ N) (hok : okT T V n) (hR : R ≤ 60) (hNF : NF T V n R G) (htf : ∀ j : Nat, j ≤ 5 → tf ((j : Nat) : Int) = ((tsum (clL T V j (n - j)) : Nat) : Int)) (hWy : ∀ j : Nat, j < n → ∀ x : Nat, x ≤ 12 → Wy j ((x : Nat) : Int) = ((ch (T ((j : Nat) : Int)).toNat x : Nat) : Int)) (hjm : j + 0 = n) (hth : thr T V n R j a) (hsr : 0 ≤ s ∧ s + 9 * ((tsum (clL T V j 0) : Nat) : Int) ≤ 540) : CTv l yX8_comeTo wsX8_comeTo (rmo 1 23) D cy B N g [.ref (B + sb), .int (zI ((j : Nat) : Int)), .int (zI ((a : Nat) : Int)), .int (zI s), .long (zJ w)] (fun g' => vSum cy B g' sb cb nb (aW W (clL T V j 0) (R - a) s w) (aT Tb (clL T V j 0) (R - a) s) le gr sver ∧ (∀ q, (q < sb ∨ sb + 3 ≤ q) → g' q = g q)) := by
  refine WW_of (cc := cX8_comeTo) (maxL := 6) (ret := none) (own := RX8) (by decide) rfl rfl (Nat.le_of_ble_eq_true rfl) rfl ?_
  intro pp ee ss mm bl me co hmn
  have hfr_0 : ∀ q, (q < sb ∨ sb + 3 ≤ q) → g q = g q := fun _ _ => rfl
  have hn5 : n ≤ 5 := hok.1
  have htR := hth.2.1
  refine w_aload_n dX8_comeTo_0 rfl 0 rfl ?_
  refine w_get (i := 0) (T := TX8) (NF := 7) sb (by first | omega | with_reducible rfl) hs.1 rfl (fun _ h => (List.mem_cons_of_mem _ (List.mem_append_left _ (List.mem_append_left _ (List.mem_append_right _ h))))) (by decide) (List.mem_of_getElem? (i := 1) rfl) rfl dX8_comeTo_1 ?_
  refine w_iload_n dX8_comeTo_4 rfl 1 rfl ?_
  refine w_calli (As := [.int (zI ((j : Nat) : Int))]) (rest := []) (n := 1) (c_X0_has hc (by first | omega | with_reducible rfl) (by first | omega | with_reducible rfl) (by first | omega | with_reducible rfl)) gX8_comeTo_X0_has rfl rfl rfl (by decide +kernel) ⟨Nat.le_of_ble_eq_true rfl, Nat.le_of_ble_eq_true rfl⟩ rfl (by first | omega | with_reducible rfl) hc.1 rfl (Nat.le_of_ble_eq_true rfl) ⟨Nat.zero_le _, Nat.zero_le _⟩ dX8_comeTo_5 rfl (fun g_1 hp_2 => ?_)
  subst g_1
  refine w_ifeqB 23 dX8_comeTo_8 (by decide) (fun c_8 => ?_) (fun c_8 => ?_)
  · refine w_aload_n dX8_comeTo_23 rfl 0 rfl ?_
    refine w_iload_n dX8_comeTo_24 rfl 3 rfl ?_
    refine w_lload dX8_comeTo_25 4 rfl ?_
    refine w_callv (As := [.int (zI s), .long (zJ w)]) (rest := []) (n := 2) (c_X8_take (r := (R - a)) hs (by first | omega | with_reducible rfl) (by first | omega | with_reducible rfl)) gX8_comeTo_X8_take rfl rfl rfl (by decide +kernel) ⟨Nat.le_of_ble_eq_true rfl, Nat.le_of_ble_eq_true rfl⟩ rfl (by first | omega | with_reducible rfl) hs.1 rfl (Nat.le_of_ble_eq_true rfl) ⟨Nat.zero_le _, Nat.zero_le _⟩ dX8_comeTo_27 rfl (fun g_3 hp_4 => ?_)
    obtain ⟨hs_5, hf_6⟩ := hp_4
    have hn_7 : vNet cy B g_3 nb cb tf ((R : Nat) : Int) nver G := vNet_fr hn (fun q h1 h2 => hf_6 q (by omega))
    have hc_8 : vCol cy B g_3 cb sets n cver T X V Wy := vCol_fr hc (fun q h1 h2 => hf_6 q (by omega))
    have hfr_9 : ∀ q, (q < sb ∨ sb + 3 ≤ q) → g_3 q = g q := fun q hq => (hf_6 q (by omega)).trans (hfr_0 q hq)
    exact w_vret dX8_comeTo_30 rfl ⟨(by have h9 := hs_5; exact h9), hfr_9⟩
  · exfalso; omega
set_option maxHeartbeats 4000000 in
set_option maxRecDepth 100000 in
theorem c_X8_walkFrom_1 {l : Launch} {D : va_G} {cy : Nat → ClassId} {B N : Nat} {g : Nat → va_E} {sb : Nat} {W Tb : Int → Int} {le gr sver : Int} {nb cb : Nat} {tf : Int → Int} {nver : Int} {G : Nat → Int → Int} {sets n R : Nat} {cver : Int} {T X V : Int → Int} {Wy : Nat → Int → Int} {j a : Nat} {s w : Int} (hs : vSum cy B g sb cb nb W Tb le gr sver) (hn : vNet cy B g nb cb tf ((R : Nat) : Int) nver G) (hc : vCol cy B g cb sets n cver T X V Wy) (hSB : sb + 3 ≤ N) (hd1 : sb + 3 ≤ nb ∨ nb + 11 ≤ sb) (hd2 : sb + 3 ≤ cb ∨ cb + 10 ≤ sb) (hNB : nb + 11 ≤ N) (hCB : cb + 10 ≤ N) (hok : okT T V n) (hR : R ≤ 60) (hNF : NF T V n R G) (htf : ∀ j : Nat, j ≤ 5 → tf ((j : Nat) : Int) = ((tsum (clL T V j (n - j)) : Nat) : Int)) (hWy : ∀ j : Nat, j < n → ∀ x : Nat, x ≤ 12 → Wy j ((x : Nat) : Int) = ((ch (T ((j : Nat) : Int)).toNat x : Nat) : Int)) (hjm : j + 1 = n) (hth : thr T V n R j a) (hsr : 0 ≤ s ∧ s + 9 * ((tsum (clL T V j 1) : Nat) : Int) ≤ 540) : CTv l yX8_walkFrom wsX8_walkFrom (rmo 2 62) D cy B N g [.ref (B + sb), .int (zI ((j : Nat) : Int)), .int (zI ((a : Nat) : Int)), .int (zI s), .long (zJ w)] (fun g' => vSum cy B g' sb cb nb (aW W (clL T V j 1) (R - a) s w) (aT Tb (clL T V j 1) (R - a) s) le gr sver ∧ (∀ q, (q < sb ∨ sb + 3 ≤ q) → g' q = g q)) := by
  refine WW_of (cc := cX8_walkFrom) (maxL := 9) (ret := none) (own := RX8) (by decide) rfl rfl (Nat.le_of_ble_eq_true rfl) rfl ?_
  intro pp ee ss mm bl me co hmn
  have hfr_0 : ∀ q, (q < sb ∨ sb + 3 ≤ q) → g q = g q := fun _ _ => rfl
  have hn5 : n ≤ 5 := hok.1
  have htR := hth.2.1
  have hq1 := hok.2 ((j : Nat) : Int) (by omega) (by omega)
  have ht3 : tf (((j : Nat) : Int) + 1) = ((tsum (clL T V (j + 1) 0) : Nat) : Int) := by
    have h9 := htf (j + 1) (by omega)
    rw [show n - (j + 1) = 0 by omega] at h9
    exact h9
  have htfr : ∀ i : Int, 0 ≤ i → i ≤ 5 → 0 ≤ tf i ∧ tf i ≤ 60 := fun i h1 h2 => by
    obtain ⟨k, rfl⟩ := Int.eq_ofNat_of_zero_le h1
    have h3 := htf k (by omega)
    by_cases hk : k ≤ n
    · have h4 := okT_ts hok (m := n - k) (j := k) (by omega)
      omega
    · rw [show n - k = 0 by omega] at h3
      rw [clL, tsum] at h3
      omega
  have hts := thr_ts hth hjm
  have hts2 : tsum (clL T V j 1) = (T ((j : Nat) : Int)).toNat + tsum (clL T V (j + 1) 0) := rfl
  refine w_aload_n dX8_walkFrom_0 rfl 0 rfl ?_
  refine w_get (i := 0) (T := TX8) (NF := 7) sb (by first | omega | with_reducible rfl) hs.1 rfl (fun _ h => (List.mem_cons_of_mem _ (List.mem_append_left _ (List.mem_append_left _ (List.mem_append_right _ h))))) (by decide) (List.mem_of_getElem? (i := 1) rfl) rfl dX8_walkFrom_1 ?_
  refine w_iload_n dX8_walkFrom_4 rfl 1 rfl ?_
  refine w_calli (As := [.int (zI ((j : Nat) : Int))]) (rest := []) (n := 1) (c_X0_scoreOf hc (by first | omega | with_reducible rfl) (by first | omega | with_reducible rfl) (by first | omega | with_reducible rfl)) gX8_walkFrom_X0_scoreOf rfl rfl rfl (by decide +kernel) ⟨Nat.le_of_ble_eq_true rfl, Nat.le_of_ble_eq_true rfl⟩ rfl (by first | omega | with_reducible rfl) hc.1 rfl (Nat.le_of_ble_eq_true rfl) ⟨Nat.zero_le _, Nat.zero_le _⟩ dX8_walkFrom_5 rfl (fun g_1 hp_2 => ?_)
  subst g_1
  refine w_as (st' := [.int (zI (((V ((j : Nat) : Int)).toNat : Nat) : Int))]) (sc_i (by rw [inA_in (by omega)]; omega) rfl) ?_
  refine w_istore [(6, .int (zI (((V ((j : Nat) : Int)).toNat : Nat) : Int))), (0, .ref (B + sb)), (1, .int (zI ((j : Nat) : Int))), (2, .int (zI ((a : Nat) : Int))), (3, .int (zI s)), (4, .long (zJ w))] dX8_walkFrom_8 (by decide) rfl ?_
  refine w_aload_n dX8_walkFrom_10 rfl 1 rfl ?_
  refine w_get (i := 1) (T := TX8) (NF := 7) sb (by first | omega | with_reducible rfl) hs.1 rfl (fun _ h => (List.mem_cons_of_mem _ (List.mem_append_left _ (List.mem_append_left _ (List.mem_append_right _ h))))) (by decide) (List.mem_of_getElem? (i := 2) rfl) rfl dX8_walkFrom_11 ?_
  refine w_iload_n dX8_walkFrom_14 rfl 2 rfl ?_
  refine w_iload_n dX8_walkFrom_15 rfl 3 rfl ?_
  refine w_calli (As := [.int (zI ((j : Nat) : Int)), .int (zI ((a : Nat) : Int))]) (rest := []) (n := 2) (c_X2_most hn hc (by first | omega | with_reducible rfl) (by first | omega | with_reducible rfl) hn5 (by omega) (by omega) (by first | omega | with_reducible rfl) (by first | omega | with_reducible rfl)) gX8_walkFrom_X2_most rfl rfl rfl (by decide +kernel) ⟨Nat.le_of_ble_eq_true rfl, Nat.le_of_ble_eq_true rfl⟩ rfl (by first | omega | with_reducible rfl) hn.1 rfl (Nat.le_of_ble_eq_true rfl) ⟨Nat.zero_le _, Nat.zero_le _⟩ dX8_walkFrom_16 rfl (fun g_3 hp_4 => ?_)
  subst g_3
  refine w_as (st' := [.int (zI ((min (T ((j : Nat) : Int)).toNat (R - a) : Nat) : Int))]) (sc_i (by first | omega | with_reducible rfl) rfl) ?_
  refine w_istore [(7, .int (zI ((min (T ((j : Nat) : Int)).toNat (R - a) : Nat) : Int))), (6, .int (zI (((V ((j : Nat) : Int)).toNat : Nat) : Int))), (0, .ref (B + sb)), (1, .int (zI ((j : Nat) : Int))), (2, .int (zI ((a : Nat) : Int))), (3, .int (zI s)), (4, .long (zJ w))] dX8_walkFrom_19 (by decide) rfl ?_
  refine w_aload_n dX8_walkFrom_21 rfl 2 rfl ?_
  refine w_get (i := 1) (T := TX8) (NF := 7) sb (by first | omega | with_reducible rfl) hs.1 rfl (fun _ h => (List.mem_cons_of_mem _ (List.mem_append_left _ (List.mem_append_left _ (List.mem_append_right _ h))))) (by decide) (List.mem_of_getElem? (i := 2) rfl) rfl dX8_walkFrom_22 ?_
  refine w_iload_n dX8_walkFrom_25 rfl 3 rfl ?_
  refine w_iload_n dX8_walkFrom_26 rfl 4 rfl ?_
  refine w_calli (As := [.int (zI ((j : Nat) : Int)), .int (zI ((a : Nat) : Int))]) (rest := []) (n := 2) (c_X2_fewest hn (by first | omega | with_reducible rfl) (by omega) htfr (by first | omega | with_reducible rfl) (by first | omega | with_reducible rfl)) gX8_walkFrom_X2_fewest rfl rfl rfl (by decide +kernel) ⟨Nat.le_of_ble_eq_true rfl, Nat.le_of_ble_eq_true rfl⟩ rfl (by first | omega | with_reducible rfl) hn.1 rfl (Nat.le_of_ble_eq_true rfl) ⟨Nat.zero_le _, Nat.zero_le _⟩ dX8_walkFrom_27 rfl (fun g_5 hp_6 => ?_)
  subst g_5
  refine w_as (st' := [.int (zI (((lo (clL T V (j + 1) 0) (R - a)) : Nat) : Int))]) (sc_i (by rw [ht3]; unfold lo; omega) rfl) ?_
  refine w_istore [(8, .int (zI (((lo (clL T V (j + 1) 0) (R - a)) : Nat) : Int))), (7, .int (zI ((min (T ((j : Nat) : Int)).toNat (R - a) : Nat) : Int))), (6, .int (zI (((V ((j : Nat) : Int)).toNat : Nat) : Int))), (0, .ref (B + sb)), (1, .int (zI ((j : Nat) : Int))), (2, .int (zI ((a : Nat) : Int))), (3, .int (zI s)), (4, .long (zJ w))] dX8_walkFrom_30 (by decide) rfl ?_
  refine w_sub [(0, .ref (B + sb)), (1, .int (zI ((j : Nat) : Int))), (2, .int (zI ((a : Nat) : Int))), (3, .int (zI s)), (4, .long (zJ w)), (6, .int (zI (((V ((j : Nat) : Int)).toNat : Nat) : Int))), (7, .int (zI ((min (T ((j : Nat) : Int)).toNat (R - a) : Nat) : Int))), (8, .int (zI (((lo (clL T V (j + 1) 0) (R - a)) : Nat) : Int)))] [3, 4, 5, 6, 7, 2, 1, 0] rfl ?_
  refine w_lv (lv' := [(0, .ref (B + sb)), (1, .int (zI ((j : Nat) : Int))), (2, .int (zI ((a : Nat) : Int))), (3, .int (zI s)), (4, .long (zJ w)), (6, .int (zI (((V ((j : Nat) : Int)).toNat : Nat) : Int))), (7, .int (zI ((min (T ((j : Nat) : Int)).toNat (R - a) : Nat) : Int))), (8, .int (zI ((((lo (clL T V (j + 1) 0) (R - a)) + 0) : Nat) : Int)))]) (lc_s (lc_s (lc_s (lc_s (lc_s (lc_s (lc_s (lc_i (by first | omega | with_reducible rfl) rfl)))))))) ?_
  refine w_loop2 (fun (k : Nat) (gl_7 : (Nat → va_E)) => vSum cy B gl_7 sb cb nb (gW W ((T ((j : Nat) : Int)).toNat, (V ((j : Nat) : Int)).toNat) (clL T V (j + 1) 0) (R - a) s w k) (gT Tb ((T ((j : Nat) : Int)).toNat, (V ((j : Nat) : Int)).toNat) (clL T V (j + 1) 0) (R - a) s k) le gr sver ∧ vNet cy B gl_7 nb cb tf ((R : Nat) : Int) nver G ∧ vCol cy B gl_7 cb sets n cver T X V Wy ∧ (∀ q, (q < sb ∨ sb + 3 ≤ q) → gl_7 q = g q) ∧ k ≤ nn ((T ((j : Nat) : Int)).toNat, (V ((j : Nat) : Int)).toNat) (clL T V (j + 1) 0) (R - a)) (fun (k : Nat) (gl_7 : (Nat → va_E)) => nn ((T ((j : Nat) : Int)).toNat, (V ((j : Nat) : Int)).toNat) (clL T V (j + 1) 0) (R - a) - k) (fun (k : Nat) (gl_7 : (Nat → va_E)) => gl_7) (fun (k : Nat) (gl_7 : (Nat → va_E)) => [(0, .ref (B + sb)), (1, .int (zI ((j : Nat) : Int))), (2, .int (zI ((a : Nat) : Int))), (3, .int (zI s)), (4, .long (zJ w)), (6, .int (zI (((V ((j : Nat) : Int)).toNat : Nat) : Int))), (7, .int (zI ((min (T ((j : Nat) : Int)).toNat (R - a) : Nat) : Int))), (8, .int (zI ((((lo (clL T V (j + 1) 0) (R - a)) + k) : Nat) : Int)))]) ?_ 0 g ⟨(by have h9 := hs; rw [gW_0, gT_0]; exact h9), hn, hc, hfr_0, (Nat.zero_le _)⟩
  rintro k gl_7 ⟨hs_8, hn_9, hc_10, hfr_11, hk⟩ ih_32
  have hlo : lo (clL T V (j + 1) 0) (R - a) ≤ R - a ∧ nn ((T ((j : Nat) : Int)).toNat, (V ((j : Nat) : Int)).toNat) (clL T V (j + 1) 0) (R - a) ≤ 13 := by unfold lo nn; omega
  refine w_iload dX8_walkFrom_32 7 rfl ?_
  refine w_iload dX8_walkFrom_34 6 rfl ?_
  refine w_icmp_gt 76 dX8_walkFrom_36 (by decide) (by first | omega | with_reducible rfl) (by first | omega | with_reducible rfl) (fun c_36 => ?_) (fun c_36 => ?_)
  · have hk9 : k = nn ((T ((j : Nat) : Int)).toNat, (V ((j : Nat) : Int)).toNat) (clL T V (j + 1) 0) (R - a) := by unfold lo nn at *; omega
    exact w_vret dX8_walkFrom_76 rfl ⟨(by have h9 := hs_8; rw [hk9] at h9; exact h9), hfr_11⟩
  · have hx : lo (clL T V (j + 1) 0) (R - a) + k ≤ (T ((j : Nat) : Int)).toNat := by omega
    have hxv : 0 ≤ ((((lo (clL T V (j + 1) 0) (R - a)) + k) : Nat) : Int) * (((V ((j : Nat) : Int)).toNat : Nat) : Int) ∧ ((((lo (clL T V (j + 1) 0) (R - a)) + k) : Nat) : Int) * (((V ((j : Nat) : Int)).toNat : Nat) : Int) ≤ ((((lo (clL T V (j + 1) 0) (R - a)) + k) : Nat) : Int) * 9 := ⟨Int.mul_nonneg (by omega) (by omega), Int.mul_le_mul_of_nonneg_left (by omega) (by omega)⟩
    refine w_aload_n dX8_walkFrom_39 rfl 0 rfl ?_
    refine w_iload_n dX8_walkFrom_40 rfl 1 rfl ?_
    refine w_iconst dX8_walkFrom_41 ?_
    refine w_iadd dX8_walkFrom_42 ?_
    refine w_iload_n dX8_walkFrom_43 rfl 2 rfl ?_
    refine w_iload dX8_walkFrom_44 7 rfl ?_
    refine w_iadd dX8_walkFrom_46 ?_
    refine w_iload_n dX8_walkFrom_47 rfl 3 rfl ?_
    refine w_iload dX8_walkFrom_48 7 rfl ?_
    refine w_iload dX8_walkFrom_50 5 rfl ?_
    refine w_imul dX8_walkFrom_52 ?_
    refine w_iadd dX8_walkFrom_53 ?_
    refine w_lload dX8_walkFrom_54 4 rfl ?_
    refine w_aload_n dX8_walkFrom_56 rfl 0 rfl ?_
    refine w_get (i := 0) (T := TX8) (NF := 7) sb (by first | omega | with_reducible rfl) hs_8.1 rfl (fun _ h => (List.mem_cons_of_mem _ (List.mem_append_left _ (List.mem_append_left _ (List.mem_append_right _ h))))) (by decide) (List.mem_of_getElem? (i := 1) rfl) rfl dX8_walkFrom_57 ?_
    refine w_iload_n dX8_walkFrom_60 rfl 1 rfl ?_
    refine w_iload dX8_walkFrom_61 7 rfl ?_
    refine w_calll (As := [.int (zI ((j : Nat) : Int)), .int (zI ((((lo (clL T V (j + 1) 0) (R - a)) + k) : Nat) : Int))]) (rest := [.long (zJ w), .int (zI (s + (((((lo (clL T V (j + 1) 0) (R - a)) + k) : Nat) : Int) * (((V ((j : Nat) : Int)).toNat : Nat) : Int)))), .int (zI (((a : Nat) : Int) + ((((lo (clL T V (j + 1) 0) (R - a)) + k) : Nat) : Int))), .int (zI (((j : Nat) : Int) + 1)), .ref (B + sb)]) (n := 2) (c_X0_waysOf hc_10 (by first | omega | with_reducible rfl) (by first | omega | with_reducible rfl) (by first | omega | with_reducible rfl) (by first | omega | with_reducible rfl)) gX8_walkFrom_X0_waysOf rfl rfl rfl (by decide +kernel) ⟨Nat.le_of_ble_eq_true rfl, Nat.le_of_ble_eq_true rfl⟩ rfl (by first | omega | with_reducible rfl) hc_10.1 rfl (Nat.le_of_ble_eq_true rfl) ⟨Nat.zero_le _, Nat.zero_le _⟩ dX8_walkFrom_63 rfl (fun g_12 hp_13 => ?_)
    subst g_12
    refine w_as (st' := [.long (zJ ((ch (T ((j : Nat) : Int)).toNat (lo (clL T V (j + 1) 0) (R - a) + k) : Nat) : Int)), .long (zJ w), .int (zI (s + (((((lo (clL T V (j + 1) 0) (R - a)) + k) : Nat) : Int) * (((V ((j : Nat) : Int)).toNat : Nat) : Int)))), .int (zI (((a : Nat) : Int) + ((((lo (clL T V (j + 1) 0) (R - a)) + k) : Nat) : Int))), .int (zI (((j : Nat) : Int) + 1)), .ref (B + sb)]) (sc_l (by rw [wyA_in (by omega), Int.toNat_natCast]; exact hWy _ (by omega) _ (by omega)) rfl) ?_
    refine w_lmul dX8_walkFrom_66 ?_
    refine w_as (st' := [.long (zJ (w * ((ch (T ((j : Nat) : Int)).toNat (lo (clL T V (j + 1) 0) (R - a) + k) : Nat) : Int))), .int (zI (s + (((((lo (clL T V (j + 1) 0) (R - a)) + k) : Nat) : Int) * (((V ((j : Nat) : Int)).toNat : Nat) : Int)))), .int (zI (((a + (lo (clL T V (j + 1) 0) (R - a) + k)) : Nat) : Int)), .int (zI (((j + 1) : Nat) : Int)), .ref (B + sb)]) (lc_s (lc_s (sc_i (by first | omega | with_reducible rfl) (sc_i (by first | omega | with_reducible rfl) rfl)))) ?_
    refine w_callv (As := [.int (zI (((j + 1) : Nat) : Int)), .int (zI (((a + (lo (clL T V (j + 1) 0) (R - a) + k)) : Nat) : Int)), .int (zI (s + (((((lo (clL T V (j + 1) 0) (R - a)) + k) : Nat) : Int) * (((V ((j : Nat) : Int)).toNat : Nat) : Int)))), .long (zJ (w * ((ch (T ((j : Nat) : Int)).toNat (lo (clL T V (j + 1) 0) (R - a) + k) : Nat) : Int)))]) (rest := []) (n := 4) (c_X8_comeTo_0 (j := (j + 1)) (a := (a + (lo (clL T V (j + 1) 0) (R - a) + k))) hs_8 hn_9 hc_10 (by first | omega | with_reducible rfl) (by first | omega | with_reducible rfl) (by first | omega | with_reducible rfl) (by first | omega | with_reducible rfl) (by first | omega | with_reducible rfl) hok (by first | omega | with_reducible rfl) hNF htf hWy (by first | omega | with_reducible rfl) (thr_next hth hjm (by omega) hx (by omega)) (by first | omega | with_reducible rfl)) gX8_walkFrom_X8_comeTo rfl rfl rfl (by decide +kernel) ⟨Nat.le_of_ble_eq_true rfl, Nat.le_of_ble_eq_true rfl⟩ rfl (by first | omega | with_reducible rfl) hs_8.1 rfl (Nat.le_of_ble_eq_true rfl) ⟨Nat.zero_le _, Nat.zero_le _⟩ dX8_walkFrom_67 rfl (fun g_14 hp_15 => ?_)
    obtain ⟨hs_16, hf_17⟩ := hp_15
    have hn_18 : vNet cy B g_14 nb cb tf ((R : Nat) : Int) nver G := vNet_fr hn_9 (fun q h1 h2 => hf_17 q (by omega))
    have hc_19 : vCol cy B g_14 cb sets n cver T X V Wy := vCol_fr hc_10 (fun q h1 h2 => hf_17 q (by omega))
    have hfr_20 : ∀ q, (q < sb ∨ sb + 3 ≤ q) → g_14 q = g q := fun q hq => (hf_17 q (by omega)).trans (hfr_11 q hq)
    refine w_iinc 7 [(8, .int (zI (((((lo (clL T V (j + 1) 0) (R - a)) + k) : Nat) : Int) + 1))), (0, .ref (B + sb)), (1, .int (zI ((j : Nat) : Int))), (2, .int (zI ((a : Nat) : Int))), (3, .int (zI s)), (4, .long (zJ w)), (6, .int (zI (((V ((j : Nat) : Int)).toNat : Nat) : Int))), (7, .int (zI ((min (T ((j : Nat) : Int)).toNat (R - a) : Nat) : Int)))] dX8_walkFrom_70 rfl (by decide) rfl ?_
    refine w_goto 32 dX8_walkFrom_73 (by decide) ?_
    refine w_sub [(0, .ref (B + sb)), (1, .int (zI ((j : Nat) : Int))), (2, .int (zI ((a : Nat) : Int))), (3, .int (zI s)), (4, .long (zJ w)), (6, .int (zI (((V ((j : Nat) : Int)).toNat : Nat) : Int))), (7, .int (zI ((min (T ((j : Nat) : Int)).toNat (R - a) : Nat) : Int))), (8, .int (zI (((((lo (clL T V (j + 1) 0) (R - a)) + k) : Nat) : Int) + 1)))] [1, 2, 3, 4, 5, 6, 7, 0] rfl ?_
    refine w_lv (lv' := [(0, .ref (B + sb)), (1, .int (zI ((j : Nat) : Int))), (2, .int (zI ((a : Nat) : Int))), (3, .int (zI s)), (4, .long (zJ w)), (6, .int (zI (((V ((j : Nat) : Int)).toNat : Nat) : Int))), (7, .int (zI ((min (T ((j : Nat) : Int)).toNat (R - a) : Nat) : Int))), (8, .int (zI ((((lo (clL T V (j + 1) 0) (R - a)) + (k + 1)) : Nat) : Int)))]) (lc_s (lc_s (lc_s (lc_s (lc_s (lc_s (lc_s (lc_i (by first | omega | with_reducible rfl) rfl)))))))) ?_
    exact ih_32 (k + 1) g_14 ⟨(by have h9 := hs_16; rw [Nat.sub_add_eq, gW_s, gT_s] at h9; exact h9), hn_18, hc_19, hfr_20, (by unfold lo nn at *; omega)⟩ (by unfold lo nn at *; omega)
set_option maxHeartbeats 4000000 in
set_option maxRecDepth 100000 in
theorem c_X8_comeTo_1 {l : Launch} {D : va_G} {cy : Nat → ClassId} {B N : Nat} {g : Nat → va_E} {sb : Nat} {W Tb : Int → Int} {le gr sver : Int} {nb cb : Nat} {tf : Int → Int} {nver : Int} {G : Nat → Int → Int} {sets n R : Nat} {cver : Int} {T X V : Int → Int} {Wy : Nat → Int → Int} {j a : Nat} {s w : Int} (hs : vSum cy B g sb cb nb W Tb le gr sver) (hn : vNet cy B g nb cb tf ((R : Nat) : Int) nver G) (hc : vCol cy B g cb sets n cver T X V Wy) (hSB : sb + 3 ≤ N) (hd1 : sb + 3 ≤ nb ∨ nb + 11 ≤ sb) (hd2 : sb + 3 ≤ cb ∨ cb + 10 ≤ sb) (hNB : nb + 11 ≤ N) (hCB : cb + 10 ≤ N) (hok : okT T V n) (hR : R ≤ 60) (hNF : NF T V n R G) (htf : ∀ j : Nat, j ≤ 5 → tf ((j : Nat) : Int) = ((tsum (clL T V j (n - j)) : Nat) : Int)) (hWy : ∀ j : Nat, j < n → ∀ x : Nat, x ≤ 12 → Wy j ((x : Nat) : Int) = ((ch (T ((j : Nat) : Int)).toNat x : Nat) : Int)) (hjm : j + 1 = n) (hth : thr T V n R j a) (hsr : 0 ≤ s ∧ s + 9 * ((tsum (clL T V j 1) : Nat) : Int) ≤ 540) : CTv l yX8_comeTo wsX8_comeTo (rmo 3 90) D cy B N g [.ref (B + sb), .int (zI ((j : Nat) : Int)), .int (zI ((a : Nat) : Int)), .int (zI s), .long (zJ w)] (fun g' => vSum cy B g' sb cb nb (aW W (clL T V j 1) (R - a) s w) (aT Tb (clL T V j 1) (R - a) s) le gr sver ∧ (∀ q, (q < sb ∨ sb + 3 ≤ q) → g' q = g q)) := by
  refine WW_of (cc := cX8_comeTo) (maxL := 6) (ret := none) (own := RX8) (by decide) rfl rfl (Nat.le_of_ble_eq_true rfl) rfl ?_
  intro pp ee ss mm bl me co hmn
  have hfr_0 : ∀ q, (q < sb ∨ sb + 3 ≤ q) → g q = g q := fun _ _ => rfl
  have hn5 : n ≤ 5 := hok.1
  have htR := hth.2.1
  refine w_aload_n dX8_comeTo_0 rfl 0 rfl ?_
  refine w_get (i := 0) (T := TX8) (NF := 7) sb (by first | omega | with_reducible rfl) hs.1 rfl (fun _ h => (List.mem_cons_of_mem _ (List.mem_append_left _ (List.mem_append_left _ (List.mem_append_right _ h))))) (by decide) (List.mem_of_getElem? (i := 1) rfl) rfl dX8_comeTo_1 ?_
  refine w_iload_n dX8_comeTo_4 rfl 1 rfl ?_
  refine w_calli (As := [.int (zI ((j : Nat) : Int))]) (rest := []) (n := 1) (c_X0_has hc (by first | omega | with_reducible rfl) (by first | omega | with_reducible rfl) (by first | omega | with_reducible rfl)) gX8_comeTo_X0_has rfl rfl rfl (by decide +kernel) ⟨Nat.le_of_ble_eq_true rfl, Nat.le_of_ble_eq_true rfl⟩ rfl (by first | omega | with_reducible rfl) hc.1 rfl (Nat.le_of_ble_eq_true rfl) ⟨Nat.zero_le _, Nat.zero_le _⟩ dX8_comeTo_5 rfl (fun g_1 hp_2 => ?_)
  subst g_1
  refine w_ifeqB 23 dX8_comeTo_8 (by decide) (fun c_8 => ?_) (fun c_8 => ?_)
  · exfalso; omega
  · refine w_aload_n dX8_comeTo_11 rfl 0 rfl ?_
    refine w_iload_n dX8_comeTo_12 rfl 1 rfl ?_
    refine w_iload_n dX8_comeTo_13 rfl 2 rfl ?_
    refine w_iload_n dX8_comeTo_14 rfl 3 rfl ?_
    refine w_lload dX8_comeTo_15 4 rfl ?_
    refine w_callv (As := [.int (zI ((j : Nat) : Int)), .int (zI ((a : Nat) : Int)), .int (zI s), .long (zJ w)]) (rest := []) (n := 4) (c_X8_walkFrom_1 (j := j) (a := a) hs hn hc (by first | omega | with_reducible rfl) (by first | omega | with_reducible rfl) (by first | omega | with_reducible rfl) (by first | omega | with_reducible rfl) (by first | omega | with_reducible rfl) hok (by first | omega | with_reducible rfl) hNF htf hWy (by first | omega | with_reducible rfl) hth hsr) gX8_comeTo_X8_walkFrom rfl rfl rfl (by decide +kernel) ⟨Nat.le_of_ble_eq_true rfl, Nat.le_of_ble_eq_true rfl⟩ rfl (by first | omega | with_reducible rfl) hs.1 rfl (Nat.le_of_ble_eq_true rfl) ⟨Nat.zero_le _, Nat.zero_le _⟩ dX8_comeTo_17 rfl (fun g_3 hp_4 => ?_)
    obtain ⟨hs_5, hf_6⟩ := hp_4
    have hn_7 : vNet cy B g_3 nb cb tf ((R : Nat) : Int) nver G := vNet_fr hn (fun q h1 h2 => hf_6 q (by omega))
    have hc_8 : vCol cy B g_3 cb sets n cver T X V Wy := vCol_fr hc (fun q h1 h2 => hf_6 q (by omega))
    have hfr_9 : ∀ q, (q < sb ∨ sb + 3 ≤ q) → g_3 q = g q := fun q hq => (hf_6 q (by omega)).trans (hfr_0 q hq)
    refine w_goto 30 dX8_comeTo_20 (by decide) ?_
    exact w_vret dX8_comeTo_30 rfl ⟨hs_5, hfr_9⟩
set_option maxHeartbeats 4000000 in
set_option maxRecDepth 100000 in
theorem c_X8_walkFrom_2 {l : Launch} {D : va_G} {cy : Nat → ClassId} {B N : Nat} {g : Nat → va_E} {sb : Nat} {W Tb : Int → Int} {le gr sver : Int} {nb cb : Nat} {tf : Int → Int} {nver : Int} {G : Nat → Int → Int} {sets n R : Nat} {cver : Int} {T X V : Int → Int} {Wy : Nat → Int → Int} {j a : Nat} {s w : Int} (hs : vSum cy B g sb cb nb W Tb le gr sver) (hn : vNet cy B g nb cb tf ((R : Nat) : Int) nver G) (hc : vCol cy B g cb sets n cver T X V Wy) (hSB : sb + 3 ≤ N) (hd1 : sb + 3 ≤ nb ∨ nb + 11 ≤ sb) (hd2 : sb + 3 ≤ cb ∨ cb + 10 ≤ sb) (hNB : nb + 11 ≤ N) (hCB : cb + 10 ≤ N) (hok : okT T V n) (hR : R ≤ 60) (hNF : NF T V n R G) (htf : ∀ j : Nat, j ≤ 5 → tf ((j : Nat) : Int) = ((tsum (clL T V j (n - j)) : Nat) : Int)) (hWy : ∀ j : Nat, j < n → ∀ x : Nat, x ≤ 12 → Wy j ((x : Nat) : Int) = ((ch (T ((j : Nat) : Int)).toNat x : Nat) : Int)) (hjm : j + 2 = n) (hth : thr T V n R j a) (hsr : 0 ≤ s ∧ s + 9 * ((tsum (clL T V j 2) : Nat) : Int) ≤ 540) : CTv l yX8_walkFrom wsX8_walkFrom (rmo 4 115) D cy B N g [.ref (B + sb), .int (zI ((j : Nat) : Int)), .int (zI ((a : Nat) : Int)), .int (zI s), .long (zJ w)] (fun g' => vSum cy B g' sb cb nb (aW W (clL T V j 2) (R - a) s w) (aT Tb (clL T V j 2) (R - a) s) le gr sver ∧ (∀ q, (q < sb ∨ sb + 3 ≤ q) → g' q = g q)) := by
  refine WW_of (cc := cX8_walkFrom) (maxL := 9) (ret := none) (own := RX8) (by decide) rfl rfl (Nat.le_of_ble_eq_true rfl) rfl ?_
  intro pp ee ss mm bl me co hmn
  have hfr_0 : ∀ q, (q < sb ∨ sb + 3 ≤ q) → g q = g q := fun _ _ => rfl
  have hn5 : n ≤ 5 := hok.1
  have htR := hth.2.1
  have hq1 := hok.2 ((j : Nat) : Int) (by omega) (by omega)
  have ht3 : tf (((j : Nat) : Int) + 1) = ((tsum (clL T V (j + 1) 1) : Nat) : Int) := by
    have h9 := htf (j + 1) (by omega)
    rw [show n - (j + 1) = 1 by omega] at h9
    exact h9
  have htfr : ∀ i : Int, 0 ≤ i → i ≤ 5 → 0 ≤ tf i ∧ tf i ≤ 60 := fun i h1 h2 => by
    obtain ⟨k, rfl⟩ := Int.eq_ofNat_of_zero_le h1
    have h3 := htf k (by omega)
    by_cases hk : k ≤ n
    · have h4 := okT_ts hok (m := n - k) (j := k) (by omega)
      omega
    · rw [show n - k = 0 by omega] at h3
      rw [clL, tsum] at h3
      omega
  have hts := thr_ts hth hjm
  have hts2 : tsum (clL T V j 2) = (T ((j : Nat) : Int)).toNat + tsum (clL T V (j + 1) 1) := rfl
  refine w_aload_n dX8_walkFrom_0 rfl 0 rfl ?_
  refine w_get (i := 0) (T := TX8) (NF := 7) sb (by first | omega | with_reducible rfl) hs.1 rfl (fun _ h => (List.mem_cons_of_mem _ (List.mem_append_left _ (List.mem_append_left _ (List.mem_append_right _ h))))) (by decide) (List.mem_of_getElem? (i := 1) rfl) rfl dX8_walkFrom_1 ?_
  refine w_iload_n dX8_walkFrom_4 rfl 1 rfl ?_
  refine w_calli (As := [.int (zI ((j : Nat) : Int))]) (rest := []) (n := 1) (c_X0_scoreOf hc (by first | omega | with_reducible rfl) (by first | omega | with_reducible rfl) (by first | omega | with_reducible rfl)) gX8_walkFrom_X0_scoreOf rfl rfl rfl (by decide +kernel) ⟨Nat.le_of_ble_eq_true rfl, Nat.le_of_ble_eq_true rfl⟩ rfl (by first | omega | with_reducible rfl) hc.1 rfl (Nat.le_of_ble_eq_true rfl) ⟨Nat.zero_le _, Nat.zero_le _⟩ dX8_walkFrom_5 rfl (fun g_1 hp_2 => ?_)
  subst g_1
  refine w_as (st' := [.int (zI (((V ((j : Nat) : Int)).toNat : Nat) : Int))]) (sc_i (by rw [inA_in (by omega)]; omega) rfl) ?_
  refine w_istore [(6, .int (zI (((V ((j : Nat) : Int)).toNat : Nat) : Int))), (0, .ref (B + sb)), (1, .int (zI ((j : Nat) : Int))), (2, .int (zI ((a : Nat) : Int))), (3, .int (zI s)), (4, .long (zJ w))] dX8_walkFrom_8 (by decide) rfl ?_
  refine w_aload_n dX8_walkFrom_10 rfl 1 rfl ?_
  refine w_get (i := 1) (T := TX8) (NF := 7) sb (by first | omega | with_reducible rfl) hs.1 rfl (fun _ h => (List.mem_cons_of_mem _ (List.mem_append_left _ (List.mem_append_left _ (List.mem_append_right _ h))))) (by decide) (List.mem_of_getElem? (i := 2) rfl) rfl dX8_walkFrom_11 ?_
  refine w_iload_n dX8_walkFrom_14 rfl 2 rfl ?_
  refine w_iload_n dX8_walkFrom_15 rfl 3 rfl ?_
  refine w_calli (As := [.int (zI ((j : Nat) : Int)), .int (zI ((a : Nat) : Int))]) (rest := []) (n := 2) (c_X2_most hn hc (by first | omega | with_reducible rfl) (by first | omega | with_reducible rfl) hn5 (by omega) (by omega) (by first | omega | with_reducible rfl) (by first | omega | with_reducible rfl)) gX8_walkFrom_X2_most rfl rfl rfl (by decide +kernel) ⟨Nat.le_of_ble_eq_true rfl, Nat.le_of_ble_eq_true rfl⟩ rfl (by first | omega | with_reducible rfl) hn.1 rfl (Nat.le_of_ble_eq_true rfl) ⟨Nat.zero_le _, Nat.zero_le _⟩ dX8_walkFrom_16 rfl (fun g_3 hp_4 => ?_)
  subst g_3
  refine w_as (st' := [.int (zI ((min (T ((j : Nat) : Int)).toNat (R - a) : Nat) : Int))]) (sc_i (by first | omega | with_reducible rfl) rfl) ?_
  refine w_istore [(7, .int (zI ((min (T ((j : Nat) : Int)).toNat (R - a) : Nat) : Int))), (6, .int (zI (((V ((j : Nat) : Int)).toNat : Nat) : Int))), (0, .ref (B + sb)), (1, .int (zI ((j : Nat) : Int))), (2, .int (zI ((a : Nat) : Int))), (3, .int (zI s)), (4, .long (zJ w))] dX8_walkFrom_19 (by decide) rfl ?_
  refine w_aload_n dX8_walkFrom_21 rfl 2 rfl ?_
  refine w_get (i := 1) (T := TX8) (NF := 7) sb (by first | omega | with_reducible rfl) hs.1 rfl (fun _ h => (List.mem_cons_of_mem _ (List.mem_append_left _ (List.mem_append_left _ (List.mem_append_right _ h))))) (by decide) (List.mem_of_getElem? (i := 2) rfl) rfl dX8_walkFrom_22 ?_
  refine w_iload_n dX8_walkFrom_25 rfl 3 rfl ?_
  refine w_iload_n dX8_walkFrom_26 rfl 4 rfl ?_
  refine w_calli (As := [.int (zI ((j : Nat) : Int)), .int (zI ((a : Nat) : Int))]) (rest := []) (n := 2) (c_X2_fewest hn (by first | omega | with_reducible rfl) (by omega) htfr (by first | omega | with_reducible rfl) (by first | omega | with_reducible rfl)) gX8_walkFrom_X2_fewest rfl rfl rfl (by decide +kernel) ⟨Nat.le_of_ble_eq_true rfl, Nat.le_of_ble_eq_true rfl⟩ rfl (by first | omega | with_reducible rfl) hn.1 rfl (Nat.le_of_ble_eq_true rfl) ⟨Nat.zero_le _, Nat.zero_le _⟩ dX8_walkFrom_27 rfl (fun g_5 hp_6 => ?_)
  subst g_5
  refine w_as (st' := [.int (zI (((lo (clL T V (j + 1) 1) (R - a)) : Nat) : Int))]) (sc_i (by rw [ht3]; unfold lo; omega) rfl) ?_
  refine w_istore [(8, .int (zI (((lo (clL T V (j + 1) 1) (R - a)) : Nat) : Int))), (7, .int (zI ((min (T ((j : Nat) : Int)).toNat (R - a) : Nat) : Int))), (6, .int (zI (((V ((j : Nat) : Int)).toNat : Nat) : Int))), (0, .ref (B + sb)), (1, .int (zI ((j : Nat) : Int))), (2, .int (zI ((a : Nat) : Int))), (3, .int (zI s)), (4, .long (zJ w))] dX8_walkFrom_30 (by decide) rfl ?_
  refine w_sub [(0, .ref (B + sb)), (1, .int (zI ((j : Nat) : Int))), (2, .int (zI ((a : Nat) : Int))), (3, .int (zI s)), (4, .long (zJ w)), (6, .int (zI (((V ((j : Nat) : Int)).toNat : Nat) : Int))), (7, .int (zI ((min (T ((j : Nat) : Int)).toNat (R - a) : Nat) : Int))), (8, .int (zI (((lo (clL T V (j + 1) 1) (R - a)) : Nat) : Int)))] [3, 4, 5, 6, 7, 2, 1, 0] rfl ?_
  refine w_lv (lv' := [(0, .ref (B + sb)), (1, .int (zI ((j : Nat) : Int))), (2, .int (zI ((a : Nat) : Int))), (3, .int (zI s)), (4, .long (zJ w)), (6, .int (zI (((V ((j : Nat) : Int)).toNat : Nat) : Int))), (7, .int (zI ((min (T ((j : Nat) : Int)).toNat (R - a) : Nat) : Int))), (8, .int (zI ((((lo (clL T V (j + 1) 1) (R - a)) + 0) : Nat) : Int)))]) (lc_s (lc_s (lc_s (lc_s (lc_s (lc_s (lc_s (lc_i (by first | omega | with_reducible rfl) rfl)))))))) ?_
  refine w_loop2 (fun (k : Nat) (gl_7 : (Nat → va_E)) => vSum cy B gl_7 sb cb nb (gW W ((T ((j : Nat) : Int)).toNat, (V ((j : Nat) : Int)).toNat) (clL T V (j + 1) 1) (R - a) s w k) (gT Tb ((T ((j : Nat) : Int)).toNat, (V ((j : Nat) : Int)).toNat) (clL T V (j + 1) 1) (R - a) s k) le gr sver ∧ vNet cy B gl_7 nb cb tf ((R : Nat) : Int) nver G ∧ vCol cy B gl_7 cb sets n cver T X V Wy ∧ (∀ q, (q < sb ∨ sb + 3 ≤ q) → gl_7 q = g q) ∧ k ≤ nn ((T ((j : Nat) : Int)).toNat, (V ((j : Nat) : Int)).toNat) (clL T V (j + 1) 1) (R - a)) (fun (k : Nat) (gl_7 : (Nat → va_E)) => nn ((T ((j : Nat) : Int)).toNat, (V ((j : Nat) : Int)).toNat) (clL T V (j + 1) 1) (R - a) - k) (fun (k : Nat) (gl_7 : (Nat → va_E)) => gl_7) (fun (k : Nat) (gl_7 : (Nat → va_E)) => [(0, .ref (B + sb)), (1, .int (zI ((j : Nat) : Int))), (2, .int (zI ((a : Nat) : Int))), (3, .int (zI s)), (4, .long (zJ w)), (6, .int (zI (((V ((j : Nat) : Int)).toNat : Nat) : Int))), (7, .int (zI ((min (T ((j : Nat) : Int)).toNat (R - a) : Nat) : Int))), (8, .int (zI ((((lo (clL T V (j + 1) 1) (R - a)) + k) : Nat) : Int)))]) ?_ 0 g ⟨(by have h9 := hs; rw [gW_0, gT_0]; exact h9), hn, hc, hfr_0, (Nat.zero_le _)⟩
  rintro k gl_7 ⟨hs_8, hn_9, hc_10, hfr_11, hk⟩ ih_32
  have hlo : lo (clL T V (j + 1) 1) (R - a) ≤ R - a ∧ nn ((T ((j : Nat) : Int)).toNat, (V ((j : Nat) : Int)).toNat) (clL T V (j + 1) 1) (R - a) ≤ 13 := by unfold lo nn; omega
  refine w_iload dX8_walkFrom_32 7 rfl ?_
  refine w_iload dX8_walkFrom_34 6 rfl ?_
  refine w_icmp_gt 76 dX8_walkFrom_36 (by decide) (by first | omega | with_reducible rfl) (by first | omega | with_reducible rfl) (fun c_36 => ?_) (fun c_36 => ?_)
  · have hk9 : k = nn ((T ((j : Nat) : Int)).toNat, (V ((j : Nat) : Int)).toNat) (clL T V (j + 1) 1) (R - a) := by unfold lo nn at *; omega
    exact w_vret dX8_walkFrom_76 rfl ⟨(by have h9 := hs_8; rw [hk9] at h9; exact h9), hfr_11⟩
  · have hx : lo (clL T V (j + 1) 1) (R - a) + k ≤ (T ((j : Nat) : Int)).toNat := by omega
    have hxv : 0 ≤ ((((lo (clL T V (j + 1) 1) (R - a)) + k) : Nat) : Int) * (((V ((j : Nat) : Int)).toNat : Nat) : Int) ∧ ((((lo (clL T V (j + 1) 1) (R - a)) + k) : Nat) : Int) * (((V ((j : Nat) : Int)).toNat : Nat) : Int) ≤ ((((lo (clL T V (j + 1) 1) (R - a)) + k) : Nat) : Int) * 9 := ⟨Int.mul_nonneg (by omega) (by omega), Int.mul_le_mul_of_nonneg_left (by omega) (by omega)⟩
    refine w_aload_n dX8_walkFrom_39 rfl 0 rfl ?_
    refine w_iload_n dX8_walkFrom_40 rfl 1 rfl ?_
    refine w_iconst dX8_walkFrom_41 ?_
    refine w_iadd dX8_walkFrom_42 ?_
    refine w_iload_n dX8_walkFrom_43 rfl 2 rfl ?_
    refine w_iload dX8_walkFrom_44 7 rfl ?_
    refine w_iadd dX8_walkFrom_46 ?_
    refine w_iload_n dX8_walkFrom_47 rfl 3 rfl ?_
    refine w_iload dX8_walkFrom_48 7 rfl ?_
    refine w_iload dX8_walkFrom_50 5 rfl ?_
    refine w_imul dX8_walkFrom_52 ?_
    refine w_iadd dX8_walkFrom_53 ?_
    refine w_lload dX8_walkFrom_54 4 rfl ?_
    refine w_aload_n dX8_walkFrom_56 rfl 0 rfl ?_
    refine w_get (i := 0) (T := TX8) (NF := 7) sb (by first | omega | with_reducible rfl) hs_8.1 rfl (fun _ h => (List.mem_cons_of_mem _ (List.mem_append_left _ (List.mem_append_left _ (List.mem_append_right _ h))))) (by decide) (List.mem_of_getElem? (i := 1) rfl) rfl dX8_walkFrom_57 ?_
    refine w_iload_n dX8_walkFrom_60 rfl 1 rfl ?_
    refine w_iload dX8_walkFrom_61 7 rfl ?_
    refine w_calll (As := [.int (zI ((j : Nat) : Int)), .int (zI ((((lo (clL T V (j + 1) 1) (R - a)) + k) : Nat) : Int))]) (rest := [.long (zJ w), .int (zI (s + (((((lo (clL T V (j + 1) 1) (R - a)) + k) : Nat) : Int) * (((V ((j : Nat) : Int)).toNat : Nat) : Int)))), .int (zI (((a : Nat) : Int) + ((((lo (clL T V (j + 1) 1) (R - a)) + k) : Nat) : Int))), .int (zI (((j : Nat) : Int) + 1)), .ref (B + sb)]) (n := 2) (c_X0_waysOf hc_10 (by first | omega | with_reducible rfl) (by first | omega | with_reducible rfl) (by first | omega | with_reducible rfl) (by first | omega | with_reducible rfl)) gX8_walkFrom_X0_waysOf rfl rfl rfl (by decide +kernel) ⟨Nat.le_of_ble_eq_true rfl, Nat.le_of_ble_eq_true rfl⟩ rfl (by first | omega | with_reducible rfl) hc_10.1 rfl (Nat.le_of_ble_eq_true rfl) ⟨Nat.zero_le _, Nat.zero_le _⟩ dX8_walkFrom_63 rfl (fun g_12 hp_13 => ?_)
    subst g_12
    refine w_as (st' := [.long (zJ ((ch (T ((j : Nat) : Int)).toNat (lo (clL T V (j + 1) 1) (R - a) + k) : Nat) : Int)), .long (zJ w), .int (zI (s + (((((lo (clL T V (j + 1) 1) (R - a)) + k) : Nat) : Int) * (((V ((j : Nat) : Int)).toNat : Nat) : Int)))), .int (zI (((a : Nat) : Int) + ((((lo (clL T V (j + 1) 1) (R - a)) + k) : Nat) : Int))), .int (zI (((j : Nat) : Int) + 1)), .ref (B + sb)]) (sc_l (by rw [wyA_in (by omega), Int.toNat_natCast]; exact hWy _ (by omega) _ (by omega)) rfl) ?_
    refine w_lmul dX8_walkFrom_66 ?_
    refine w_as (st' := [.long (zJ (w * ((ch (T ((j : Nat) : Int)).toNat (lo (clL T V (j + 1) 1) (R - a) + k) : Nat) : Int))), .int (zI (s + (((((lo (clL T V (j + 1) 1) (R - a)) + k) : Nat) : Int) * (((V ((j : Nat) : Int)).toNat : Nat) : Int)))), .int (zI (((a + (lo (clL T V (j + 1) 1) (R - a) + k)) : Nat) : Int)), .int (zI (((j + 1) : Nat) : Int)), .ref (B + sb)]) (lc_s (lc_s (sc_i (by first | omega | with_reducible rfl) (sc_i (by first | omega | with_reducible rfl) rfl)))) ?_
    refine w_callv (As := [.int (zI (((j + 1) : Nat) : Int)), .int (zI (((a + (lo (clL T V (j + 1) 1) (R - a) + k)) : Nat) : Int)), .int (zI (s + (((((lo (clL T V (j + 1) 1) (R - a)) + k) : Nat) : Int) * (((V ((j : Nat) : Int)).toNat : Nat) : Int)))), .long (zJ (w * ((ch (T ((j : Nat) : Int)).toNat (lo (clL T V (j + 1) 1) (R - a) + k) : Nat) : Int)))]) (rest := []) (n := 4) (c_X8_comeTo_1 (j := (j + 1)) (a := (a + (lo (clL T V (j + 1) 1) (R - a) + k))) hs_8 hn_9 hc_10 (by first | omega | with_reducible rfl) (by first | omega | with_reducible rfl) (by first | omega | with_reducible rfl) (by first | omega | with_reducible rfl) (by first | omega | with_reducible rfl) hok (by first | omega | with_reducible rfl) hNF htf hWy (by first | omega | with_reducible rfl) (thr_next hth hjm (by omega) hx (by omega)) (by first | omega | with_reducible rfl)) gX8_walkFrom_X8_comeTo rfl rfl rfl (by decide +kernel) ⟨Nat.le_of_ble_eq_true rfl, Nat.le_of_ble_eq_true rfl⟩ rfl (by first | omega | with_reducible rfl) hs_8.1 rfl (Nat.le_of_ble_eq_true rfl) ⟨Nat.zero_le _, Nat.zero_le _⟩ dX8_walkFrom_67 rfl (fun g_14 hp_15 => ?_)
    obtain ⟨hs_16, hf_17⟩ := hp_15
    have hn_18 : vNet cy B g_14 nb cb tf ((R : Nat) : Int) nver G := vNet_fr hn_9 (fun q h1 h2 => hf_17 q (by omega))
    have hc_19 : vCol cy B g_14 cb sets n cver T X V Wy := vCol_fr hc_10 (fun q h1 h2 => hf_17 q (by omega))
    have hfr_20 : ∀ q, (q < sb ∨ sb + 3 ≤ q) → g_14 q = g q := fun q hq => (hf_17 q (by omega)).trans (hfr_11 q hq)
    refine w_iinc 7 [(8, .int (zI (((((lo (clL T V (j + 1) 1) (R - a)) + k) : Nat) : Int) + 1))), (0, .ref (B + sb)), (1, .int (zI ((j : Nat) : Int))), (2, .int (zI ((a : Nat) : Int))), (3, .int (zI s)), (4, .long (zJ w)), (6, .int (zI (((V ((j : Nat) : Int)).toNat : Nat) : Int))), (7, .int (zI ((min (T ((j : Nat) : Int)).toNat (R - a) : Nat) : Int)))] dX8_walkFrom_70 rfl (by decide) rfl ?_
    refine w_goto 32 dX8_walkFrom_73 (by decide) ?_
    refine w_sub [(0, .ref (B + sb)), (1, .int (zI ((j : Nat) : Int))), (2, .int (zI ((a : Nat) : Int))), (3, .int (zI s)), (4, .long (zJ w)), (6, .int (zI (((V ((j : Nat) : Int)).toNat : Nat) : Int))), (7, .int (zI ((min (T ((j : Nat) : Int)).toNat (R - a) : Nat) : Int))), (8, .int (zI (((((lo (clL T V (j + 1) 1) (R - a)) + k) : Nat) : Int) + 1)))] [1, 2, 3, 4, 5, 6, 7, 0] rfl ?_
    refine w_lv (lv' := [(0, .ref (B + sb)), (1, .int (zI ((j : Nat) : Int))), (2, .int (zI ((a : Nat) : Int))), (3, .int (zI s)), (4, .long (zJ w)), (6, .int (zI (((V ((j : Nat) : Int)).toNat : Nat) : Int))), (7, .int (zI ((min (T ((j : Nat) : Int)).toNat (R - a) : Nat) : Int))), (8, .int (zI ((((lo (clL T V (j + 1) 1) (R - a)) + (k + 1)) : Nat) : Int)))]) (lc_s (lc_s (lc_s (lc_s (lc_s (lc_s (lc_s (lc_i (by first | omega | with_reducible rfl) rfl)))))))) ?_
    exact ih_32 (k + 1) g_14 ⟨(by have h9 := hs_16; rw [Nat.sub_add_eq, gW_s, gT_s] at h9; exact h9), hn_18, hc_19, hfr_20, (by unfold lo nn at *; omega)⟩ (by unfold lo nn at *; omega)
set_option maxHeartbeats 4000000 in
set_option maxRecDepth 100000 in
theorem c_X8_comeTo_2 {l : Launch} {D : va_G} {cy : Nat → ClassId} {B N : Nat} {g : Nat → va_E} {sb : Nat} {W Tb : Int → Int} {le gr sver : Int} {nb cb : Nat} {tf : Int → Int} {nver : Int} {G : Nat → Int → Int} {sets n R : Nat} {cver : Int} {T X V : Int → Int} {Wy : Nat → Int → Int} {j a : Nat} {s w : Int} (hs : vSum cy B g sb cb nb W Tb le gr sver) (hn : vNet cy B g nb cb tf ((R : Nat) : Int) nver G) (hc : vCol cy B g cb sets n cver T X V Wy) (hSB : sb + 3 ≤ N) (hd1 : sb + 3 ≤ nb ∨ nb + 11 ≤ sb) (hd2 : sb + 3 ≤ cb ∨ cb + 10 ≤ sb) (hNB : nb + 11 ≤ N) (hCB : cb + 10 ≤ N) (hok : okT T V n) (hR : R ≤ 60) (hNF : NF T V n R G) (htf : ∀ j : Nat, j ≤ 5 → tf ((j : Nat) : Int) = ((tsum (clL T V j (n - j)) : Nat) : Int)) (hWy : ∀ j : Nat, j < n → ∀ x : Nat, x ≤ 12 → Wy j ((x : Nat) : Int) = ((ch (T ((j : Nat) : Int)).toNat x : Nat) : Int)) (hjm : j + 2 = n) (hth : thr T V n R j a) (hsr : 0 ≤ s ∧ s + 9 * ((tsum (clL T V j 2) : Nat) : Int) ≤ 540) : CTv l yX8_comeTo wsX8_comeTo (rmo 5 143) D cy B N g [.ref (B + sb), .int (zI ((j : Nat) : Int)), .int (zI ((a : Nat) : Int)), .int (zI s), .long (zJ w)] (fun g' => vSum cy B g' sb cb nb (aW W (clL T V j 2) (R - a) s w) (aT Tb (clL T V j 2) (R - a) s) le gr sver ∧ (∀ q, (q < sb ∨ sb + 3 ≤ q) → g' q = g q)) := by
  refine WW_of (cc := cX8_comeTo) (maxL := 6) (ret := none) (own := RX8) (by decide) rfl rfl (Nat.le_of_ble_eq_true rfl) rfl ?_
  intro pp ee ss mm bl me co hmn
  have hfr_0 : ∀ q, (q < sb ∨ sb + 3 ≤ q) → g q = g q := fun _ _ => rfl
  have hn5 : n ≤ 5 := hok.1
  have htR := hth.2.1
  refine w_aload_n dX8_comeTo_0 rfl 0 rfl ?_
  refine w_get (i := 0) (T := TX8) (NF := 7) sb (by first | omega | with_reducible rfl) hs.1 rfl (fun _ h => (List.mem_cons_of_mem _ (List.mem_append_left _ (List.mem_append_left _ (List.mem_append_right _ h))))) (by decide) (List.mem_of_getElem? (i := 1) rfl) rfl dX8_comeTo_1 ?_
  refine w_iload_n dX8_comeTo_4 rfl 1 rfl ?_
  refine w_calli (As := [.int (zI ((j : Nat) : Int))]) (rest := []) (n := 1) (c_X0_has hc (by first | omega | with_reducible rfl) (by first | omega | with_reducible rfl) (by first | omega | with_reducible rfl)) gX8_comeTo_X0_has rfl rfl rfl (by decide +kernel) ⟨Nat.le_of_ble_eq_true rfl, Nat.le_of_ble_eq_true rfl⟩ rfl (by first | omega | with_reducible rfl) hc.1 rfl (Nat.le_of_ble_eq_true rfl) ⟨Nat.zero_le _, Nat.zero_le _⟩ dX8_comeTo_5 rfl (fun g_1 hp_2 => ?_)
  subst g_1
  refine w_ifeqB 23 dX8_comeTo_8 (by decide) (fun c_8 => ?_) (fun c_8 => ?_)
  · exfalso; omega
  · refine w_aload_n dX8_comeTo_11 rfl 0 rfl ?_
    refine w_iload_n dX8_comeTo_12 rfl 1 rfl ?_
    refine w_iload_n dX8_comeTo_13 rfl 2 rfl ?_
    refine w_iload_n dX8_comeTo_14 rfl 3 rfl ?_
    refine w_lload dX8_comeTo_15 4 rfl ?_
    refine w_callv (As := [.int (zI ((j : Nat) : Int)), .int (zI ((a : Nat) : Int)), .int (zI s), .long (zJ w)]) (rest := []) (n := 4) (c_X8_walkFrom_2 (j := j) (a := a) hs hn hc (by first | omega | with_reducible rfl) (by first | omega | with_reducible rfl) (by first | omega | with_reducible rfl) (by first | omega | with_reducible rfl) (by first | omega | with_reducible rfl) hok (by first | omega | with_reducible rfl) hNF htf hWy (by first | omega | with_reducible rfl) hth hsr) gX8_comeTo_X8_walkFrom rfl rfl rfl (by decide +kernel) ⟨Nat.le_of_ble_eq_true rfl, Nat.le_of_ble_eq_true rfl⟩ rfl (by first | omega | with_reducible rfl) hs.1 rfl (Nat.le_of_ble_eq_true rfl) ⟨Nat.zero_le _, Nat.zero_le _⟩ dX8_comeTo_17 rfl (fun g_3 hp_4 => ?_)
    obtain ⟨hs_5, hf_6⟩ := hp_4
    have hn_7 : vNet cy B g_3 nb cb tf ((R : Nat) : Int) nver G := vNet_fr hn (fun q h1 h2 => hf_6 q (by omega))
    have hc_8 : vCol cy B g_3 cb sets n cver T X V Wy := vCol_fr hc (fun q h1 h2 => hf_6 q (by omega))
    have hfr_9 : ∀ q, (q < sb ∨ sb + 3 ≤ q) → g_3 q = g q := fun q hq => (hf_6 q (by omega)).trans (hfr_0 q hq)
    refine w_goto 30 dX8_comeTo_20 (by decide) ?_
    exact w_vret dX8_comeTo_30 rfl ⟨hs_5, hfr_9⟩
set_option maxHeartbeats 4000000 in
set_option maxRecDepth 100000 in
theorem c_X8_walkFrom_3 {l : Launch} {D : va_G} {cy : Nat → ClassId} {B N : Nat} {g : Nat → va_E} {sb : Nat} {W Tb : Int → Int} {le gr sver : Int} {nb cb : Nat} {tf : Int → Int} {nver : Int} {G : Nat → Int → Int} {sets n R : Nat} {cver : Int} {T X V : Int → Int} {Wy : Nat → Int → Int} {j a : Nat} {s w : Int} (hs : vSum cy B g sb cb nb W Tb le gr sver) (hn : vNet cy B g nb cb tf ((R : Nat) : Int) nver G) (hc : vCol cy B g cb sets n cver T X V Wy) (hSB : sb + 3 ≤ N) (hd1 : sb + 3 ≤ nb ∨ nb + 11 ≤ sb) (hd2 : sb + 3 ≤ cb ∨ cb + 10 ≤ sb) (hNB : nb + 11 ≤ N) (hCB : cb + 10 ≤ N) (hok : okT T V n) (hR : R ≤ 60) (hNF : NF T V n R G) (htf : ∀ j : Nat, j ≤ 5 → tf ((j : Nat) : Int) = ((tsum (clL T V j (n - j)) : Nat) : Int)) (hWy : ∀ j : Nat, j < n → ∀ x : Nat, x ≤ 12 → Wy j ((x : Nat) : Int) = ((ch (T ((j : Nat) : Int)).toNat x : Nat) : Int)) (hjm : j + 3 = n) (hth : thr T V n R j a) (hsr : 0 ≤ s ∧ s + 9 * ((tsum (clL T V j 3) : Nat) : Int) ≤ 540) : CTv l yX8_walkFrom wsX8_walkFrom (rmo 6 168) D cy B N g [.ref (B + sb), .int (zI ((j : Nat) : Int)), .int (zI ((a : Nat) : Int)), .int (zI s), .long (zJ w)] (fun g' => vSum cy B g' sb cb nb (aW W (clL T V j 3) (R - a) s w) (aT Tb (clL T V j 3) (R - a) s) le gr sver ∧ (∀ q, (q < sb ∨ sb + 3 ≤ q) → g' q = g q)) := by
  refine WW_of (cc := cX8_walkFrom) (maxL := 9) (ret := none) (own := RX8) (by decide) rfl rfl (Nat.le_of_ble_eq_true rfl) rfl ?_
  intro pp ee ss mm bl me co hmn
  have hfr_0 : ∀ q, (q < sb ∨ sb + 3 ≤ q) → g q = g q := fun _ _ => rfl
  have hn5 : n ≤ 5 := hok.1
  have htR := hth.2.1
  have hq1 := hok.2 ((j : Nat) : Int) (by omega) (by omega)
  have ht3 : tf (((j : Nat) : Int) + 1) = ((tsum (clL T V (j + 1) 2) : Nat) : Int) := by
    have h9 := htf (j + 1) (by omega)
    rw [show n - (j + 1) = 2 by omega] at h9
    exact h9
  have htfr : ∀ i : Int, 0 ≤ i → i ≤ 5 → 0 ≤ tf i ∧ tf i ≤ 60 := fun i h1 h2 => by
    obtain ⟨k, rfl⟩ := Int.eq_ofNat_of_zero_le h1
    have h3 := htf k (by omega)
    by_cases hk : k ≤ n
    · have h4 := okT_ts hok (m := n - k) (j := k) (by omega)
      omega
    · rw [show n - k = 0 by omega] at h3
      rw [clL, tsum] at h3
      omega
  have hts := thr_ts hth hjm
  have hts2 : tsum (clL T V j 3) = (T ((j : Nat) : Int)).toNat + tsum (clL T V (j + 1) 2) := rfl
  refine w_aload_n dX8_walkFrom_0 rfl 0 rfl ?_
  refine w_get (i := 0) (T := TX8) (NF := 7) sb (by first | omega | with_reducible rfl) hs.1 rfl (fun _ h => (List.mem_cons_of_mem _ (List.mem_append_left _ (List.mem_append_left _ (List.mem_append_right _ h))))) (by decide) (List.mem_of_getElem? (i := 1) rfl) rfl dX8_walkFrom_1 ?_
  refine w_iload_n dX8_walkFrom_4 rfl 1 rfl ?_
  refine w_calli (As := [.int (zI ((j : Nat) : Int))]) (rest := []) (n := 1) (c_X0_scoreOf hc (by first | omega | with_reducible rfl) (by first | omega | with_reducible rfl) (by first | omega | with_reducible rfl)) gX8_walkFrom_X0_scoreOf rfl rfl rfl (by decide +kernel) ⟨Nat.le_of_ble_eq_true rfl, Nat.le_of_ble_eq_true rfl⟩ rfl (by first | omega | with_reducible rfl) hc.1 rfl (Nat.le_of_ble_eq_true rfl) ⟨Nat.zero_le _, Nat.zero_le _⟩ dX8_walkFrom_5 rfl (fun g_1 hp_2 => ?_)
  subst g_1
  refine w_as (st' := [.int (zI (((V ((j : Nat) : Int)).toNat : Nat) : Int))]) (sc_i (by rw [inA_in (by omega)]; omega) rfl) ?_
  refine w_istore [(6, .int (zI (((V ((j : Nat) : Int)).toNat : Nat) : Int))), (0, .ref (B + sb)), (1, .int (zI ((j : Nat) : Int))), (2, .int (zI ((a : Nat) : Int))), (3, .int (zI s)), (4, .long (zJ w))] dX8_walkFrom_8 (by decide) rfl ?_
  refine w_aload_n dX8_walkFrom_10 rfl 1 rfl ?_
  refine w_get (i := 1) (T := TX8) (NF := 7) sb (by first | omega | with_reducible rfl) hs.1 rfl (fun _ h => (List.mem_cons_of_mem _ (List.mem_append_left _ (List.mem_append_left _ (List.mem_append_right _ h))))) (by decide) (List.mem_of_getElem? (i := 2) rfl) rfl dX8_walkFrom_11 ?_
  refine w_iload_n dX8_walkFrom_14 rfl 2 rfl ?_
  refine w_iload_n dX8_walkFrom_15 rfl 3 rfl ?_
  refine w_calli (As := [.int (zI ((j : Nat) : Int)), .int (zI ((a : Nat) : Int))]) (rest := []) (n := 2) (c_X2_most hn hc (by first | omega | with_reducible rfl) (by first | omega | with_reducible rfl) hn5 (by omega) (by omega) (by first | omega | with_reducible rfl) (by first | omega | with_reducible rfl)) gX8_walkFrom_X2_most rfl rfl rfl (by decide +kernel) ⟨Nat.le_of_ble_eq_true rfl, Nat.le_of_ble_eq_true rfl⟩ rfl (by first | omega | with_reducible rfl) hn.1 rfl (Nat.le_of_ble_eq_true rfl) ⟨Nat.zero_le _, Nat.zero_le _⟩ dX8_walkFrom_16 rfl (fun g_3 hp_4 => ?_)
  subst g_3
  refine w_as (st' := [.int (zI ((min (T ((j : Nat) : Int)).toNat (R - a) : Nat) : Int))]) (sc_i (by first | omega | with_reducible rfl) rfl) ?_
  refine w_istore [(7, .int (zI ((min (T ((j : Nat) : Int)).toNat (R - a) : Nat) : Int))), (6, .int (zI (((V ((j : Nat) : Int)).toNat : Nat) : Int))), (0, .ref (B + sb)), (1, .int (zI ((j : Nat) : Int))), (2, .int (zI ((a : Nat) : Int))), (3, .int (zI s)), (4, .long (zJ w))] dX8_walkFrom_19 (by decide) rfl ?_
  refine w_aload_n dX8_walkFrom_21 rfl 2 rfl ?_
  refine w_get (i := 1) (T := TX8) (NF := 7) sb (by first | omega | with_reducible rfl) hs.1 rfl (fun _ h => (List.mem_cons_of_mem _ (List.mem_append_left _ (List.mem_append_left _ (List.mem_append_right _ h))))) (by decide) (List.mem_of_getElem? (i := 2) rfl) rfl dX8_walkFrom_22 ?_
  refine w_iload_n dX8_walkFrom_25 rfl 3 rfl ?_
  refine w_iload_n dX8_walkFrom_26 rfl 4 rfl ?_
  refine w_calli (As := [.int (zI ((j : Nat) : Int)), .int (zI ((a : Nat) : Int))]) (rest := []) (n := 2) (c_X2_fewest hn (by first | omega | with_reducible rfl) (by omega) htfr (by first | omega | with_reducible rfl) (by first | omega | with_reducible rfl)) gX8_walkFrom_X2_fewest rfl rfl rfl (by decide +kernel) ⟨Nat.le_of_ble_eq_true rfl, Nat.le_of_ble_eq_true rfl⟩ rfl (by first | omega | with_reducible rfl) hn.1 rfl (Nat.le_of_ble_eq_true rfl) ⟨Nat.zero_le _, Nat.zero_le _⟩ dX8_walkFrom_27 rfl (fun g_5 hp_6 => ?_)
  subst g_5
  refine w_as (st' := [.int (zI (((lo (clL T V (j + 1) 2) (R - a)) : Nat) : Int))]) (sc_i (by rw [ht3]; unfold lo; omega) rfl) ?_
  refine w_istore [(8, .int (zI (((lo (clL T V (j + 1) 2) (R - a)) : Nat) : Int))), (7, .int (zI ((min (T ((j : Nat) : Int)).toNat (R - a) : Nat) : Int))), (6, .int (zI (((V ((j : Nat) : Int)).toNat : Nat) : Int))), (0, .ref (B + sb)), (1, .int (zI ((j : Nat) : Int))), (2, .int (zI ((a : Nat) : Int))), (3, .int (zI s)), (4, .long (zJ w))] dX8_walkFrom_30 (by decide) rfl ?_
  refine w_sub [(0, .ref (B + sb)), (1, .int (zI ((j : Nat) : Int))), (2, .int (zI ((a : Nat) : Int))), (3, .int (zI s)), (4, .long (zJ w)), (6, .int (zI (((V ((j : Nat) : Int)).toNat : Nat) : Int))), (7, .int (zI ((min (T ((j : Nat) : Int)).toNat (R - a) : Nat) : Int))), (8, .int (zI (((lo (clL T V (j + 1) 2) (R - a)) : Nat) : Int)))] [3, 4, 5, 6, 7, 2, 1, 0] rfl ?_
  refine w_lv (lv' := [(0, .ref (B + sb)), (1, .int (zI ((j : Nat) : Int))), (2, .int (zI ((a : Nat) : Int))), (3, .int (zI s)), (4, .long (zJ w)), (6, .int (zI (((V ((j : Nat) : Int)).toNat : Nat) : Int))), (7, .int (zI ((min (T ((j : Nat) : Int)).toNat (R - a) : Nat) : Int))), (8, .int (zI ((((lo (clL T V (j + 1) 2) (R - a)) + 0) : Nat) : Int)))]) (lc_s (lc_s (lc_s (lc_s (lc_s (lc_s (lc_s (lc_i (by first | omega | with_reducible rfl) rfl)))))))) ?_
  refine w_loop2 (fun (k : Nat) (gl_7 : (Nat → va_E)) => vSum cy B gl_7 sb cb nb (gW W ((T ((j : Nat) : Int)).toNat, (V ((j : Nat) : Int)).toNat) (clL T V (j + 1) 2) (R - a) s w k) (gT Tb ((T ((j : Nat) : Int)).toNat, (V ((j : Nat) : Int)).toNat) (clL T V (j + 1) 2) (R - a) s k) le gr sver ∧ vNet cy B gl_7 nb cb tf ((R : Nat) : Int) nver G ∧ vCol cy B gl_7 cb sets n cver T X V Wy ∧ (∀ q, (q < sb ∨ sb + 3 ≤ q) → gl_7 q = g q) ∧ k ≤ nn ((T ((j : Nat) : Int)).toNat, (V ((j : Nat) : Int)).toNat) (clL T V (j + 1) 2) (R - a)) (fun (k : Nat) (gl_7 : (Nat → va_E)) => nn ((T ((j : Nat) : Int)).toNat, (V ((j : Nat) : Int)).toNat) (clL T V (j + 1) 2) (R - a) - k) (fun (k : Nat) (gl_7 : (Nat → va_E)) => gl_7) (fun (k : Nat) (gl_7 : (Nat → va_E)) => [(0, .ref (B + sb)), (1, .int (zI ((j : Nat) : Int))), (2, .int (zI ((a : Nat) : Int))), (3, .int (zI s)), (4, .long (zJ w)), (6, .int (zI (((V ((j : Nat) : Int)).toNat : Nat) : Int))), (7, .int (zI ((min (T ((j : Nat) : Int)).toNat (R - a) : Nat) : Int))), (8, .int (zI ((((lo (clL T V (j + 1) 2) (R - a)) + k) : Nat) : Int)))]) ?_ 0 g ⟨(by have h9 := hs; rw [gW_0, gT_0]; exact h9), hn, hc, hfr_0, (Nat.zero_le _)⟩
  rintro k gl_7 ⟨hs_8, hn_9, hc_10, hfr_11, hk⟩ ih_32
  have hlo : lo (clL T V (j + 1) 2) (R - a) ≤ R - a ∧ nn ((T ((j : Nat) : Int)).toNat, (V ((j : Nat) : Int)).toNat) (clL T V (j + 1) 2) (R - a) ≤ 13 := by unfold lo nn; omega
  refine w_iload dX8_walkFrom_32 7 rfl ?_
  refine w_iload dX8_walkFrom_34 6 rfl ?_
  refine w_icmp_gt 76 dX8_walkFrom_36 (by decide) (by first | omega | with_reducible rfl) (by first | omega | with_reducible rfl) (fun c_36 => ?_) (fun c_36 => ?_)
  · have hk9 : k = nn ((T ((j : Nat) : Int)).toNat, (V ((j : Nat) : Int)).toNat) (clL T V (j + 1) 2) (R - a) := by unfold lo nn at *; omega
    exact w_vret dX8_walkFrom_76 rfl ⟨(by have h9 := hs_8; rw [hk9] at h9; exact h9), hfr_11⟩
  · have hx : lo (clL T V (j + 1) 2) (R - a) + k ≤ (T ((j : Nat) : Int)).toNat := by omega
    have hxv : 0 ≤ ((((lo (clL T V (j + 1) 2) (R - a)) + k) : Nat) : Int) * (((V ((j : Nat) : Int)).toNat : Nat) : Int) ∧ ((((lo (clL T V (j + 1) 2) (R - a)) + k) : Nat) : Int) * (((V ((j : Nat) : Int)).toNat : Nat) : Int) ≤ ((((lo (clL T V (j + 1) 2) (R - a)) + k) : Nat) : Int) * 9 := ⟨Int.mul_nonneg (by omega) (by omega), Int.mul_le_mul_of_nonneg_left (by omega) (by omega)⟩
    refine w_aload_n dX8_walkFrom_39 rfl 0 rfl ?_
    refine w_iload_n dX8_walkFrom_40 rfl 1 rfl ?_
    refine w_iconst dX8_walkFrom_41 ?_
    refine w_iadd dX8_walkFrom_42 ?_
    refine w_iload_n dX8_walkFrom_43 rfl 2 rfl ?_
    refine w_iload dX8_walkFrom_44 7 rfl ?_
    refine w_iadd dX8_walkFrom_46 ?_
    refine w_iload_n dX8_walkFrom_47 rfl 3 rfl ?_
    refine w_iload dX8_walkFrom_48 7 rfl ?_
    refine w_iload dX8_walkFrom_50 5 rfl ?_
    refine w_imul dX8_walkFrom_52 ?_
    refine w_iadd dX8_walkFrom_53 ?_
    refine w_lload dX8_walkFrom_54 4 rfl ?_
    refine w_aload_n dX8_walkFrom_56 rfl 0 rfl ?_
    refine w_get (i := 0) (T := TX8) (NF := 7) sb (by first | omega | with_reducible rfl) hs_8.1 rfl (fun _ h => (List.mem_cons_of_mem _ (List.mem_append_left _ (List.mem_append_left _ (List.mem_append_right _ h))))) (by decide) (List.mem_of_getElem? (i := 1) rfl) rfl dX8_walkFrom_57 ?_
    refine w_iload_n dX8_walkFrom_60 rfl 1 rfl ?_
    refine w_iload dX8_walkFrom_61 7 rfl ?_
    refine w_calll (As := [.int (zI ((j : Nat) : Int)), .int (zI ((((lo (clL T V (j + 1) 2) (R - a)) + k) : Nat) : Int))]) (rest := [.long (zJ w), .int (zI (s + (((((lo (clL T V (j + 1) 2) (R - a)) + k) : Nat) : Int) * (((V ((j : Nat) : Int)).toNat : Nat) : Int)))), .int (zI (((a : Nat) : Int) + ((((lo (clL T V (j + 1) 2) (R - a)) + k) : Nat) : Int))), .int (zI (((j : Nat) : Int) + 1)), .ref (B + sb)]) (n := 2) (c_X0_waysOf hc_10 (by first | omega | with_reducible rfl) (by first | omega | with_reducible rfl) (by first | omega | with_reducible rfl) (by first | omega | with_reducible rfl)) gX8_walkFrom_X0_waysOf rfl rfl rfl (by decide +kernel) ⟨Nat.le_of_ble_eq_true rfl, Nat.le_of_ble_eq_true rfl⟩ rfl (by first | omega | with_reducible rfl) hc_10.1 rfl (Nat.le_of_ble_eq_true rfl) ⟨Nat.zero_le _, Nat.zero_le _⟩ dX8_walkFrom_63 rfl (fun g_12 hp_13 => ?_)
    subst g_12
    refine w_as (st' := [.long (zJ ((ch (T ((j : Nat) : Int)).toNat (lo (clL T V (j + 1) 2) (R - a) + k) : Nat) : Int)), .long (zJ w), .int (zI (s + (((((lo (clL T V (j + 1) 2) (R - a)) + k) : Nat) : Int) * (((V ((j : Nat) : Int)).toNat : Nat) : Int)))), .int (zI (((a : Nat) : Int) + ((((lo (clL T V (j + 1) 2) (R - a)) + k) : Nat) : Int))), .int (zI (((j : Nat) : Int) + 1)), .ref (B + sb)]) (sc_l (by rw [wyA_in (by omega), Int.toNat_natCast]; exact hWy _ (by omega) _ (by omega)) rfl) ?_
    refine w_lmul dX8_walkFrom_66 ?_
    refine w_as (st' := [.long (zJ (w * ((ch (T ((j : Nat) : Int)).toNat (lo (clL T V (j + 1) 2) (R - a) + k) : Nat) : Int))), .int (zI (s + (((((lo (clL T V (j + 1) 2) (R - a)) + k) : Nat) : Int) * (((V ((j : Nat) : Int)).toNat : Nat) : Int)))), .int (zI (((a + (lo (clL T V (j + 1) 2) (R - a) + k)) : Nat) : Int)), .int (zI (((j + 1) : Nat) : Int)), .ref (B + sb)]) (lc_s (lc_s (sc_i (by first | omega | with_reducible rfl) (sc_i (by first | omega | with_reducible rfl) rfl)))) ?_
    refine w_callv (As := [.int (zI (((j + 1) : Nat) : Int)), .int (zI (((a + (lo (clL T V (j + 1) 2) (R - a) + k)) : Nat) : Int)), .int (zI (s + (((((lo (clL T V (j + 1) 2) (R - a)) + k) : Nat) : Int) * (((V ((j : Nat) : Int)).toNat : Nat) : Int)))), .long (zJ (w * ((ch (T ((j : Nat) : Int)).toNat (lo (clL T V (j + 1) 2) (R - a) + k) : Nat) : Int)))]) (rest := []) (n := 4) (c_X8_comeTo_2 (j := (j + 1)) (a := (a + (lo (clL T V (j + 1) 2) (R - a) + k))) hs_8 hn_9 hc_10 (by first | omega | with_reducible rfl) (by first | omega | with_reducible rfl) (by first | omega | with_reducible rfl) (by first | omega | with_reducible rfl) (by first | omega | with_reducible rfl) hok (by first | omega | with_reducible rfl) hNF htf hWy (by first | omega | with_reducible rfl) (thr_next hth hjm (by omega) hx (by omega)) (by first | omega | with_reducible rfl)) gX8_walkFrom_X8_comeTo rfl rfl rfl (by decide +kernel) ⟨Nat.le_of_ble_eq_true rfl, Nat.le_of_ble_eq_true rfl⟩ rfl (by first | omega | with_reducible rfl) hs_8.1 rfl (Nat.le_of_ble_eq_true rfl) ⟨Nat.zero_le _, Nat.zero_le _⟩ dX8_walkFrom_67 rfl (fun g_14 hp_15 => ?_)
    obtain ⟨hs_16, hf_17⟩ := hp_15
    have hn_18 : vNet cy B g_14 nb cb tf ((R : Nat) : Int) nver G := vNet_fr hn_9 (fun q h1 h2 => hf_17 q (by omega))
    have hc_19 : vCol cy B g_14 cb sets n cver T X V Wy := vCol_fr hc_10 (fun q h1 h2 => hf_17 q (by omega))
    have hfr_20 : ∀ q, (q < sb ∨ sb + 3 ≤ q) → g_14 q = g q := fun q hq => (hf_17 q (by omega)).trans (hfr_11 q hq)
    refine w_iinc 7 [(8, .int (zI (((((lo (clL T V (j + 1) 2) (R - a)) + k) : Nat) : Int) + 1))), (0, .ref (B + sb)), (1, .int (zI ((j : Nat) : Int))), (2, .int (zI ((a : Nat) : Int))), (3, .int (zI s)), (4, .long (zJ w)), (6, .int (zI (((V ((j : Nat) : Int)).toNat : Nat) : Int))), (7, .int (zI ((min (T ((j : Nat) : Int)).toNat (R - a) : Nat) : Int)))] dX8_walkFrom_70 rfl (by decide) rfl ?_
    refine w_goto 32 dX8_walkFrom_73 (by decide) ?_
    refine w_sub [(0, .ref (B + sb)), (1, .int (zI ((j : Nat) : Int))), (2, .int (zI ((a : Nat) : Int))), (3, .int (zI s)), (4, .long (zJ w)), (6, .int (zI (((V ((j : Nat) : Int)).toNat : Nat) : Int))), (7, .int (zI ((min (T ((j : Nat) : Int)).toNat (R - a) : Nat) : Int))), (8, .int (zI (((((lo (clL T V (j + 1) 2) (R - a)) + k) : Nat) : Int) + 1)))] [1, 2, 3, 4, 5, 6, 7, 0] rfl ?_
    refine w_lv (lv' := [(0, .ref (B + sb)), (1, .int (zI ((j : Nat) : Int))), (2, .int (zI ((a : Nat) : Int))), (3, .int (zI s)), (4, .long (zJ w)), (6, .int (zI (((V ((j : Nat) : Int)).toNat : Nat) : Int))), (7, .int (zI ((min (T ((j : Nat) : Int)).toNat (R - a) : Nat) : Int))), (8, .int (zI ((((lo (clL T V (j + 1) 2) (R - a)) + (k + 1)) : Nat) : Int)))]) (lc_s (lc_s (lc_s (lc_s (lc_s (lc_s (lc_s (lc_i (by first | omega | with_reducible rfl) rfl)))))))) ?_
    exact ih_32 (k + 1) g_14 ⟨(by have h9 := hs_16; rw [Nat.sub_add_eq, gW_s, gT_s] at h9; exact h9), hn_18, hc_19, hfr_20, (by unfold lo nn at *; omega)⟩ (by unfold lo nn at *; omega)
set_option maxHeartbeats 4000000 in
set_option maxRecDepth 100000 in
theorem c_X8_comeTo_3 {l : Launch} {D : va_G} {cy : Nat → ClassId} {B N : Nat} {g : Nat → va_E} {sb : Nat} {W Tb : Int → Int} {le gr sver : Int} {nb cb : Nat} {tf : Int → Int} {nver : Int} {G : Nat → Int → Int} {sets n R : Nat} {cver : Int} {T X V : Int → Int} {Wy : Nat → Int → Int} {j a : Nat} {s w : Int} (hs : vSum cy B g sb cb nb W Tb le gr sver) (hn : vNet cy B g nb cb tf ((R : Nat) : Int) nver G) (hc : vCol cy B g cb sets n cver T X V Wy) (hSB : sb + 3 ≤ N) (hd1 : sb + 3 ≤ nb ∨ nb + 11 ≤ sb) (hd2 : sb + 3 ≤ cb ∨ cb + 10 ≤ sb) (hNB : nb + 11 ≤ N) (hCB : cb + 10 ≤ N) (hok : okT T V n) (hR : R ≤ 60) (hNF : NF T V n R G) (htf : ∀ j : Nat, j ≤ 5 → tf ((j : Nat) : Int) = ((tsum (clL T V j (n - j)) : Nat) : Int)) (hWy : ∀ j : Nat, j < n → ∀ x : Nat, x ≤ 12 → Wy j ((x : Nat) : Int) = ((ch (T ((j : Nat) : Int)).toNat x : Nat) : Int)) (hjm : j + 3 = n) (hth : thr T V n R j a) (hsr : 0 ≤ s ∧ s + 9 * ((tsum (clL T V j 3) : Nat) : Int) ≤ 540) : CTv l yX8_comeTo wsX8_comeTo (rmo 7 196) D cy B N g [.ref (B + sb), .int (zI ((j : Nat) : Int)), .int (zI ((a : Nat) : Int)), .int (zI s), .long (zJ w)] (fun g' => vSum cy B g' sb cb nb (aW W (clL T V j 3) (R - a) s w) (aT Tb (clL T V j 3) (R - a) s) le gr sver ∧ (∀ q, (q < sb ∨ sb + 3 ≤ q) → g' q = g q)) := by
  refine WW_of (cc := cX8_comeTo) (maxL := 6) (ret := none) (own := RX8) (by decide) rfl rfl (Nat.le_of_ble_eq_true rfl) rfl ?_
  intro pp ee ss mm bl me co hmn
  have hfr_0 : ∀ q, (q < sb ∨ sb + 3 ≤ q) → g q = g q := fun _ _ => rfl
  have hn5 : n ≤ 5 := hok.1
  have htR := hth.2.1
  refine w_aload_n dX8_comeTo_0 rfl 0 rfl ?_
  refine w_get (i := 0) (T := TX8) (NF := 7) sb (by first | omega | with_reducible rfl) hs.1 rfl (fun _ h => (List.mem_cons_of_mem _ (List.mem_append_left _ (List.mem_append_left _ (List.mem_append_right _ h))))) (by decide) (List.mem_of_getElem? (i := 1) rfl) rfl dX8_comeTo_1 ?_
  refine w_iload_n dX8_comeTo_4 rfl 1 rfl ?_
  refine w_calli (As := [.int (zI ((j : Nat) : Int))]) (rest := []) (n := 1) (c_X0_has hc (by first | omega | with_reducible rfl) (by first | omega | with_reducible rfl) (by first | omega | with_reducible rfl)) gX8_comeTo_X0_has rfl rfl rfl (by decide +kernel) ⟨Nat.le_of_ble_eq_true rfl, Nat.le_of_ble_eq_true rfl⟩ rfl (by first | omega | with_reducible rfl) hc.1 rfl (Nat.le_of_ble_eq_true rfl) ⟨Nat.zero_le _, Nat.zero_le _⟩ dX8_comeTo_5 rfl (fun g_1 hp_2 => ?_)
  subst g_1
  refine w_ifeqB 23 dX8_comeTo_8 (by decide) (fun c_8 => ?_) (fun c_8 => ?_)
  · exfalso; omega
  · refine w_aload_n dX8_comeTo_11 rfl 0 rfl ?_
    refine w_iload_n dX8_comeTo_12 rfl 1 rfl ?_
    refine w_iload_n dX8_comeTo_13 rfl 2 rfl ?_
    refine w_iload_n dX8_comeTo_14 rfl 3 rfl ?_
    refine w_lload dX8_comeTo_15 4 rfl ?_
    refine w_callv (As := [.int (zI ((j : Nat) : Int)), .int (zI ((a : Nat) : Int)), .int (zI s), .long (zJ w)]) (rest := []) (n := 4) (c_X8_walkFrom_3 (j := j) (a := a) hs hn hc (by first | omega | with_reducible rfl) (by first | omega | with_reducible rfl) (by first | omega | with_reducible rfl) (by first | omega | with_reducible rfl) (by first | omega | with_reducible rfl) hok (by first | omega | with_reducible rfl) hNF htf hWy (by first | omega | with_reducible rfl) hth hsr) gX8_comeTo_X8_walkFrom rfl rfl rfl (by decide +kernel) ⟨Nat.le_of_ble_eq_true rfl, Nat.le_of_ble_eq_true rfl⟩ rfl (by first | omega | with_reducible rfl) hs.1 rfl (Nat.le_of_ble_eq_true rfl) ⟨Nat.zero_le _, Nat.zero_le _⟩ dX8_comeTo_17 rfl (fun g_3 hp_4 => ?_)
    obtain ⟨hs_5, hf_6⟩ := hp_4
    have hn_7 : vNet cy B g_3 nb cb tf ((R : Nat) : Int) nver G := vNet_fr hn (fun q h1 h2 => hf_6 q (by omega))
    have hc_8 : vCol cy B g_3 cb sets n cver T X V Wy := vCol_fr hc (fun q h1 h2 => hf_6 q (by omega))
    have hfr_9 : ∀ q, (q < sb ∨ sb + 3 ≤ q) → g_3 q = g q := fun q hq => (hf_6 q (by omega)).trans (hfr_0 q hq)
    refine w_goto 30 dX8_comeTo_20 (by decide) ?_
    exact w_vret dX8_comeTo_30 rfl ⟨hs_5, hfr_9⟩
set_option maxHeartbeats 4000000 in
set_option maxRecDepth 100000 in
theorem c_X8_walkFrom_4 {l : Launch} {D : va_G} {cy : Nat → ClassId} {B N : Nat} {g : Nat → va_E} {sb : Nat} {W Tb : Int → Int} {le gr sver : Int} {nb cb : Nat} {tf : Int → Int} {nver : Int} {G : Nat → Int → Int} {sets n R : Nat} {cver : Int} {T X V : Int → Int} {Wy : Nat → Int → Int} {j a : Nat} {s w : Int} (hs : vSum cy B g sb cb nb W Tb le gr sver) (hn : vNet cy B g nb cb tf ((R : Nat) : Int) nver G) (hc : vCol cy B g cb sets n cver T X V Wy) (hSB : sb + 3 ≤ N) (hd1 : sb + 3 ≤ nb ∨ nb + 11 ≤ sb) (hd2 : sb + 3 ≤ cb ∨ cb + 10 ≤ sb) (hNB : nb + 11 ≤ N) (hCB : cb + 10 ≤ N) (hok : okT T V n) (hR : R ≤ 60) (hNF : NF T V n R G) (htf : ∀ j : Nat, j ≤ 5 → tf ((j : Nat) : Int) = ((tsum (clL T V j (n - j)) : Nat) : Int)) (hWy : ∀ j : Nat, j < n → ∀ x : Nat, x ≤ 12 → Wy j ((x : Nat) : Int) = ((ch (T ((j : Nat) : Int)).toNat x : Nat) : Int)) (hjm : j + 4 = n) (hth : thr T V n R j a) (hsr : 0 ≤ s ∧ s + 9 * ((tsum (clL T V j 4) : Nat) : Int) ≤ 540) : CTv l yX8_walkFrom wsX8_walkFrom (rmo 8 221) D cy B N g [.ref (B + sb), .int (zI ((j : Nat) : Int)), .int (zI ((a : Nat) : Int)), .int (zI s), .long (zJ w)] (fun g' => vSum cy B g' sb cb nb (aW W (clL T V j 4) (R - a) s w) (aT Tb (clL T V j 4) (R - a) s) le gr sver ∧ (∀ q, (q < sb ∨ sb + 3 ≤ q) → g' q = g q)) := by
  refine WW_of (cc := cX8_walkFrom) (maxL := 9) (ret := none) (own := RX8) (by decide) rfl rfl (Nat.le_of_ble_eq_true rfl) rfl ?_
  intro pp ee ss mm bl me co hmn
  have hfr_0 : ∀ q, (q < sb ∨ sb + 3 ≤ q) → g q = g q := fun _ _ => rfl
  have hn5 : n ≤ 5 := hok.1
  have htR := hth.2.1
  have hq1 := hok.2 ((j : Nat) : Int) (by omega) (by omega)
  have ht3 : tf (((j : Nat) : Int) + 1) = ((tsum (clL T V (j + 1) 3) : Nat) : Int) := by
    have h9 := htf (j + 1) (by omega)
    rw [show n - (j + 1) = 3 by omega] at h9
    exact h9
  have htfr : ∀ i : Int, 0 ≤ i → i ≤ 5 → 0 ≤ tf i ∧ tf i ≤ 60 := fun i h1 h2 => by
    obtain ⟨k, rfl⟩ := Int.eq_ofNat_of_zero_le h1
    have h3 := htf k (by omega)
    by_cases hk : k ≤ n
    · have h4 := okT_ts hok (m := n - k) (j := k) (by omega)
      omega
    · rw [show n - k = 0 by omega] at h3
      rw [clL, tsum] at h3
      omega
  have hts := thr_ts hth hjm
  have hts2 : tsum (clL T V j 4) = (T ((j : Nat) : Int)).toNat + tsum (clL T V (j + 1) 3) := rfl
  refine w_aload_n dX8_walkFrom_0 rfl 0 rfl ?_
  refine w_get (i := 0) (T := TX8) (NF := 7) sb (by first | omega | with_reducible rfl) hs.1 rfl (fun _ h => (List.mem_cons_of_mem _ (List.mem_append_left _ (List.mem_append_left _ (List.mem_append_right _ h))))) (by decide) (List.mem_of_getElem? (i := 1) rfl) rfl dX8_walkFrom_1 ?_
  refine w_iload_n dX8_walkFrom_4 rfl 1 rfl ?_
  refine w_calli (As := [.int (zI ((j : Nat) : Int))]) (rest := []) (n := 1) (c_X0_scoreOf hc (by first | omega | with_reducible rfl) (by first | omega | with_reducible rfl) (by first | omega | with_reducible rfl)) gX8_walkFrom_X0_scoreOf rfl rfl rfl (by decide +kernel) ⟨Nat.le_of_ble_eq_true rfl, Nat.le_of_ble_eq_true rfl⟩ rfl (by first | omega | with_reducible rfl) hc.1 rfl (Nat.le_of_ble_eq_true rfl) ⟨Nat.zero_le _, Nat.zero_le _⟩ dX8_walkFrom_5 rfl (fun g_1 hp_2 => ?_)
  subst g_1
  refine w_as (st' := [.int (zI (((V ((j : Nat) : Int)).toNat : Nat) : Int))]) (sc_i (by rw [inA_in (by omega)]; omega) rfl) ?_
  refine w_istore [(6, .int (zI (((V ((j : Nat) : Int)).toNat : Nat) : Int))), (0, .ref (B + sb)), (1, .int (zI ((j : Nat) : Int))), (2, .int (zI ((a : Nat) : Int))), (3, .int (zI s)), (4, .long (zJ w))] dX8_walkFrom_8 (by decide) rfl ?_
  refine w_aload_n dX8_walkFrom_10 rfl 1 rfl ?_
  refine w_get (i := 1) (T := TX8) (NF := 7) sb (by first | omega | with_reducible rfl) hs.1 rfl (fun _ h => (List.mem_cons_of_mem _ (List.mem_append_left _ (List.mem_append_left _ (List.mem_append_right _ h))))) (by decide) (List.mem_of_getElem? (i := 2) rfl) rfl dX8_walkFrom_11 ?_
  refine w_iload_n dX8_walkFrom_14 rfl 2 rfl ?_
  refine w_iload_n dX8_walkFrom_15 rfl 3 rfl ?_
  refine w_calli (As := [.int (zI ((j : Nat) : Int)), .int (zI ((a : Nat) : Int))]) (rest := []) (n := 2) (c_X2_most hn hc (by first | omega | with_reducible rfl) (by first | omega | with_reducible rfl) hn5 (by omega) (by omega) (by first | omega | with_reducible rfl) (by first | omega | with_reducible rfl)) gX8_walkFrom_X2_most rfl rfl rfl (by decide +kernel) ⟨Nat.le_of_ble_eq_true rfl, Nat.le_of_ble_eq_true rfl⟩ rfl (by first | omega | with_reducible rfl) hn.1 rfl (Nat.le_of_ble_eq_true rfl) ⟨Nat.zero_le _, Nat.zero_le _⟩ dX8_walkFrom_16 rfl (fun g_3 hp_4 => ?_)
  subst g_3
  refine w_as (st' := [.int (zI ((min (T ((j : Nat) : Int)).toNat (R - a) : Nat) : Int))]) (sc_i (by first | omega | with_reducible rfl) rfl) ?_
  refine w_istore [(7, .int (zI ((min (T ((j : Nat) : Int)).toNat (R - a) : Nat) : Int))), (6, .int (zI (((V ((j : Nat) : Int)).toNat : Nat) : Int))), (0, .ref (B + sb)), (1, .int (zI ((j : Nat) : Int))), (2, .int (zI ((a : Nat) : Int))), (3, .int (zI s)), (4, .long (zJ w))] dX8_walkFrom_19 (by decide) rfl ?_
  refine w_aload_n dX8_walkFrom_21 rfl 2 rfl ?_
  refine w_get (i := 1) (T := TX8) (NF := 7) sb (by first | omega | with_reducible rfl) hs.1 rfl (fun _ h => (List.mem_cons_of_mem _ (List.mem_append_left _ (List.mem_append_left _ (List.mem_append_right _ h))))) (by decide) (List.mem_of_getElem? (i := 2) rfl) rfl dX8_walkFrom_22 ?_
  refine w_iload_n dX8_walkFrom_25 rfl 3 rfl ?_
  refine w_iload_n dX8_walkFrom_26 rfl 4 rfl ?_
  refine w_calli (As := [.int (zI ((j : Nat) : Int)), .int (zI ((a : Nat) : Int))]) (rest := []) (n := 2) (c_X2_fewest hn (by first | omega | with_reducible rfl) (by omega) htfr (by first | omega | with_reducible rfl) (by first | omega | with_reducible rfl)) gX8_walkFrom_X2_fewest rfl rfl rfl (by decide +kernel) ⟨Nat.le_of_ble_eq_true rfl, Nat.le_of_ble_eq_true rfl⟩ rfl (by first | omega | with_reducible rfl) hn.1 rfl (Nat.le_of_ble_eq_true rfl) ⟨Nat.zero_le _, Nat.zero_le _⟩ dX8_walkFrom_27 rfl (fun g_5 hp_6 => ?_)
  subst g_5
  refine w_as (st' := [.int (zI (((lo (clL T V (j + 1) 3) (R - a)) : Nat) : Int))]) (sc_i (by rw [ht3]; unfold lo; omega) rfl) ?_
  refine w_istore [(8, .int (zI (((lo (clL T V (j + 1) 3) (R - a)) : Nat) : Int))), (7, .int (zI ((min (T ((j : Nat) : Int)).toNat (R - a) : Nat) : Int))), (6, .int (zI (((V ((j : Nat) : Int)).toNat : Nat) : Int))), (0, .ref (B + sb)), (1, .int (zI ((j : Nat) : Int))), (2, .int (zI ((a : Nat) : Int))), (3, .int (zI s)), (4, .long (zJ w))] dX8_walkFrom_30 (by decide) rfl ?_
  refine w_sub [(0, .ref (B + sb)), (1, .int (zI ((j : Nat) : Int))), (2, .int (zI ((a : Nat) : Int))), (3, .int (zI s)), (4, .long (zJ w)), (6, .int (zI (((V ((j : Nat) : Int)).toNat : Nat) : Int))), (7, .int (zI ((min (T ((j : Nat) : Int)).toNat (R - a) : Nat) : Int))), (8, .int (zI (((lo (clL T V (j + 1) 3) (R - a)) : Nat) : Int)))] [3, 4, 5, 6, 7, 2, 1, 0] rfl ?_
  refine w_lv (lv' := [(0, .ref (B + sb)), (1, .int (zI ((j : Nat) : Int))), (2, .int (zI ((a : Nat) : Int))), (3, .int (zI s)), (4, .long (zJ w)), (6, .int (zI (((V ((j : Nat) : Int)).toNat : Nat) : Int))), (7, .int (zI ((min (T ((j : Nat) : Int)).toNat (R - a) : Nat) : Int))), (8, .int (zI ((((lo (clL T V (j + 1) 3) (R - a)) + 0) : Nat) : Int)))]) (lc_s (lc_s (lc_s (lc_s (lc_s (lc_s (lc_s (lc_i (by first | omega | with_reducible rfl) rfl)))))))) ?_
  refine w_loop2 (fun (k : Nat) (gl_7 : (Nat → va_E)) => vSum cy B gl_7 sb cb nb (gW W ((T ((j : Nat) : Int)).toNat, (V ((j : Nat) : Int)).toNat) (clL T V (j + 1) 3) (R - a) s w k) (gT Tb ((T ((j : Nat) : Int)).toNat, (V ((j : Nat) : Int)).toNat) (clL T V (j + 1) 3) (R - a) s k) le gr sver ∧ vNet cy B gl_7 nb cb tf ((R : Nat) : Int) nver G ∧ vCol cy B gl_7 cb sets n cver T X V Wy ∧ (∀ q, (q < sb ∨ sb + 3 ≤ q) → gl_7 q = g q) ∧ k ≤ nn ((T ((j : Nat) : Int)).toNat, (V ((j : Nat) : Int)).toNat) (clL T V (j + 1) 3) (R - a)) (fun (k : Nat) (gl_7 : (Nat → va_E)) => nn ((T ((j : Nat) : Int)).toNat, (V ((j : Nat) : Int)).toNat) (clL T V (j + 1) 3) (R - a) - k) (fun (k : Nat) (gl_7 : (Nat → va_E)) => gl_7) (fun (k : Nat) (gl_7 : (Nat → va_E)) => [(0, .ref (B + sb)), (1, .int (zI ((j : Nat) : Int))), (2, .int (zI ((a : Nat) : Int))), (3, .int (zI s)), (4, .long (zJ w)), (6, .int (zI (((V ((j : Nat) : Int)).toNat : Nat) : Int))), (7, .int (zI ((min (T ((j : Nat) : Int)).toNat (R - a) : Nat) : Int))), (8, .int (zI ((((lo (clL T V (j + 1) 3) (R - a)) + k) : Nat) : Int)))]) ?_ 0 g ⟨(by have h9 := hs; rw [gW_0, gT_0]; exact h9), hn, hc, hfr_0, (Nat.zero_le _)⟩
  rintro k gl_7 ⟨hs_8, hn_9, hc_10, hfr_11, hk⟩ ih_32
  have hlo : lo (clL T V (j + 1) 3) (R - a) ≤ R - a ∧ nn ((T ((j : Nat) : Int)).toNat, (V ((j : Nat) : Int)).toNat) (clL T V (j + 1) 3) (R - a) ≤ 13 := by unfold lo nn; omega
  refine w_iload dX8_walkFrom_32 7 rfl ?_
  refine w_iload dX8_walkFrom_34 6 rfl ?_
  refine w_icmp_gt 76 dX8_walkFrom_36 (by decide) (by first | omega | with_reducible rfl) (by first | omega | with_reducible rfl) (fun c_36 => ?_) (fun c_36 => ?_)
  · have hk9 : k = nn ((T ((j : Nat) : Int)).toNat, (V ((j : Nat) : Int)).toNat) (clL T V (j + 1) 3) (R - a) := by unfold lo nn at *; omega
    exact w_vret dX8_walkFrom_76 rfl ⟨(by have h9 := hs_8; rw [hk9] at h9; exact h9), hfr_11⟩
  · have hx : lo (clL T V (j + 1) 3) (R - a) + k ≤ (T ((j : Nat) : Int)).toNat := by omega
    have hxv : 0 ≤ ((((lo (clL T V (j + 1) 3) (R - a)) + k) : Nat) : Int) * (((V ((j : Nat) : Int)).toNat : Nat) : Int) ∧ ((((lo (clL T V (j + 1) 3) (R - a)) + k) : Nat) : Int) * (((V ((j : Nat) : Int)).toNat : Nat) : Int) ≤ ((((lo (clL T V (j + 1) 3) (R - a)) + k) : Nat) : Int) * 9 := ⟨Int.mul_nonneg (by omega) (by omega), Int.mul_le_mul_of_nonneg_left (by omega) (by omega)⟩
    refine w_aload_n dX8_walkFrom_39 rfl 0 rfl ?_
    refine w_iload_n dX8_walkFrom_40 rfl 1 rfl ?_
    refine w_iconst dX8_walkFrom_41 ?_
    refine w_iadd dX8_walkFrom_42 ?_
    refine w_iload_n dX8_walkFrom_43 rfl 2 rfl ?_
    refine w_iload dX8_walkFrom_44 7 rfl ?_
    refine w_iadd dX8_walkFrom_46 ?_
    refine w_iload_n dX8_walkFrom_47 rfl 3 rfl ?_
    refine w_iload dX8_walkFrom_48 7 rfl ?_
    refine w_iload dX8_walkFrom_50 5 rfl ?_
    refine w_imul dX8_walkFrom_52 ?_
    refine w_iadd dX8_walkFrom_53 ?_
    refine w_lload dX8_walkFrom_54 4 rfl ?_
    refine w_aload_n dX8_walkFrom_56 rfl 0 rfl ?_
    refine w_get (i := 0) (T := TX8) (NF := 7) sb (by first | omega | with_reducible rfl) hs_8.1 rfl (fun _ h => (List.mem_cons_of_mem _ (List.mem_append_left _ (List.mem_append_left _ (List.mem_append_right _ h))))) (by decide) (List.mem_of_getElem? (i := 1) rfl) rfl dX8_walkFrom_57 ?_
    refine w_iload_n dX8_walkFrom_60 rfl 1 rfl ?_
    refine w_iload dX8_walkFrom_61 7 rfl ?_
    refine w_calll (As := [.int (zI ((j : Nat) : Int)), .int (zI ((((lo (clL T V (j + 1) 3) (R - a)) + k) : Nat) : Int))]) (rest := [.long (zJ w), .int (zI (s + (((((lo (clL T V (j + 1) 3) (R - a)) + k) : Nat) : Int) * (((V ((j : Nat) : Int)).toNat : Nat) : Int)))), .int (zI (((a : Nat) : Int) + ((((lo (clL T V (j + 1) 3) (R - a)) + k) : Nat) : Int))), .int (zI (((j : Nat) : Int) + 1)), .ref (B + sb)]) (n := 2) (c_X0_waysOf hc_10 (by first | omega | with_reducible rfl) (by first | omega | with_reducible rfl) (by first | omega | with_reducible rfl) (by first | omega | with_reducible rfl)) gX8_walkFrom_X0_waysOf rfl rfl rfl (by decide +kernel) ⟨Nat.le_of_ble_eq_true rfl, Nat.le_of_ble_eq_true rfl⟩ rfl (by first | omega | with_reducible rfl) hc_10.1 rfl (Nat.le_of_ble_eq_true rfl) ⟨Nat.zero_le _, Nat.zero_le _⟩ dX8_walkFrom_63 rfl (fun g_12 hp_13 => ?_)
    subst g_12
    refine w_as (st' := [.long (zJ ((ch (T ((j : Nat) : Int)).toNat (lo (clL T V (j + 1) 3) (R - a) + k) : Nat) : Int)), .long (zJ w), .int (zI (s + (((((lo (clL T V (j + 1) 3) (R - a)) + k) : Nat) : Int) * (((V ((j : Nat) : Int)).toNat : Nat) : Int)))), .int (zI (((a : Nat) : Int) + ((((lo (clL T V (j + 1) 3) (R - a)) + k) : Nat) : Int))), .int (zI (((j : Nat) : Int) + 1)), .ref (B + sb)]) (sc_l (by rw [wyA_in (by omega), Int.toNat_natCast]; exact hWy _ (by omega) _ (by omega)) rfl) ?_
    refine w_lmul dX8_walkFrom_66 ?_
    refine w_as (st' := [.long (zJ (w * ((ch (T ((j : Nat) : Int)).toNat (lo (clL T V (j + 1) 3) (R - a) + k) : Nat) : Int))), .int (zI (s + (((((lo (clL T V (j + 1) 3) (R - a)) + k) : Nat) : Int) * (((V ((j : Nat) : Int)).toNat : Nat) : Int)))), .int (zI (((a + (lo (clL T V (j + 1) 3) (R - a) + k)) : Nat) : Int)), .int (zI (((j + 1) : Nat) : Int)), .ref (B + sb)]) (lc_s (lc_s (sc_i (by first | omega | with_reducible rfl) (sc_i (by first | omega | with_reducible rfl) rfl)))) ?_
    refine w_callv (As := [.int (zI (((j + 1) : Nat) : Int)), .int (zI (((a + (lo (clL T V (j + 1) 3) (R - a) + k)) : Nat) : Int)), .int (zI (s + (((((lo (clL T V (j + 1) 3) (R - a)) + k) : Nat) : Int) * (((V ((j : Nat) : Int)).toNat : Nat) : Int)))), .long (zJ (w * ((ch (T ((j : Nat) : Int)).toNat (lo (clL T V (j + 1) 3) (R - a) + k) : Nat) : Int)))]) (rest := []) (n := 4) (c_X8_comeTo_3 (j := (j + 1)) (a := (a + (lo (clL T V (j + 1) 3) (R - a) + k))) hs_8 hn_9 hc_10 (by first | omega | with_reducible rfl) (by first | omega | with_reducible rfl) (by first | omega | with_reducible rfl) (by first | omega | with_reducible rfl) (by first | omega | with_reducible rfl) hok (by first | omega | with_reducible rfl) hNF htf hWy (by first | omega | with_reducible rfl) (thr_next hth hjm (by omega) hx (by omega)) (by first | omega | with_reducible rfl)) gX8_walkFrom_X8_comeTo rfl rfl rfl (by decide +kernel) ⟨Nat.le_of_ble_eq_true rfl, Nat.le_of_ble_eq_true rfl⟩ rfl (by first | omega | with_reducible rfl) hs_8.1 rfl (Nat.le_of_ble_eq_true rfl) ⟨Nat.zero_le _, Nat.zero_le _⟩ dX8_walkFrom_67 rfl (fun g_14 hp_15 => ?_)
    obtain ⟨hs_16, hf_17⟩ := hp_15
    have hn_18 : vNet cy B g_14 nb cb tf ((R : Nat) : Int) nver G := vNet_fr hn_9 (fun q h1 h2 => hf_17 q (by omega))
    have hc_19 : vCol cy B g_14 cb sets n cver T X V Wy := vCol_fr hc_10 (fun q h1 h2 => hf_17 q (by omega))
    have hfr_20 : ∀ q, (q < sb ∨ sb + 3 ≤ q) → g_14 q = g q := fun q hq => (hf_17 q (by omega)).trans (hfr_11 q hq)
    refine w_iinc 7 [(8, .int (zI (((((lo (clL T V (j + 1) 3) (R - a)) + k) : Nat) : Int) + 1))), (0, .ref (B + sb)), (1, .int (zI ((j : Nat) : Int))), (2, .int (zI ((a : Nat) : Int))), (3, .int (zI s)), (4, .long (zJ w)), (6, .int (zI (((V ((j : Nat) : Int)).toNat : Nat) : Int))), (7, .int (zI ((min (T ((j : Nat) : Int)).toNat (R - a) : Nat) : Int)))] dX8_walkFrom_70 rfl (by decide) rfl ?_
    refine w_goto 32 dX8_walkFrom_73 (by decide) ?_
    refine w_sub [(0, .ref (B + sb)), (1, .int (zI ((j : Nat) : Int))), (2, .int (zI ((a : Nat) : Int))), (3, .int (zI s)), (4, .long (zJ w)), (6, .int (zI (((V ((j : Nat) : Int)).toNat : Nat) : Int))), (7, .int (zI ((min (T ((j : Nat) : Int)).toNat (R - a) : Nat) : Int))), (8, .int (zI (((((lo (clL T V (j + 1) 3) (R - a)) + k) : Nat) : Int) + 1)))] [1, 2, 3, 4, 5, 6, 7, 0] rfl ?_
    refine w_lv (lv' := [(0, .ref (B + sb)), (1, .int (zI ((j : Nat) : Int))), (2, .int (zI ((a : Nat) : Int))), (3, .int (zI s)), (4, .long (zJ w)), (6, .int (zI (((V ((j : Nat) : Int)).toNat : Nat) : Int))), (7, .int (zI ((min (T ((j : Nat) : Int)).toNat (R - a) : Nat) : Int))), (8, .int (zI ((((lo (clL T V (j + 1) 3) (R - a)) + (k + 1)) : Nat) : Int)))]) (lc_s (lc_s (lc_s (lc_s (lc_s (lc_s (lc_s (lc_i (by first | omega | with_reducible rfl) rfl)))))))) ?_
    exact ih_32 (k + 1) g_14 ⟨(by have h9 := hs_16; rw [Nat.sub_add_eq, gW_s, gT_s] at h9; exact h9), hn_18, hc_19, hfr_20, (by unfold lo nn at *; omega)⟩ (by unfold lo nn at *; omega)
set_option maxHeartbeats 4000000 in
set_option maxRecDepth 100000 in
theorem c_X8_comeTo_4 {l : Launch} {D : va_G} {cy : Nat → ClassId} {B N : Nat} {g : Nat → va_E} {sb : Nat} {W Tb : Int → Int} {le gr sver : Int} {nb cb : Nat} {tf : Int → Int} {nver : Int} {G : Nat → Int → Int} {sets n R : Nat} {cver : Int} {T X V : Int → Int} {Wy : Nat → Int → Int} {j a : Nat} {s w : Int} (hs : vSum cy B g sb cb nb W Tb le gr sver) (hn : vNet cy B g nb cb tf ((R : Nat) : Int) nver G) (hc : vCol cy B g cb sets n cver T X V Wy) (hSB : sb + 3 ≤ N) (hd1 : sb + 3 ≤ nb ∨ nb + 11 ≤ sb) (hd2 : sb + 3 ≤ cb ∨ cb + 10 ≤ sb) (hNB : nb + 11 ≤ N) (hCB : cb + 10 ≤ N) (hok : okT T V n) (hR : R ≤ 60) (hNF : NF T V n R G) (htf : ∀ j : Nat, j ≤ 5 → tf ((j : Nat) : Int) = ((tsum (clL T V j (n - j)) : Nat) : Int)) (hWy : ∀ j : Nat, j < n → ∀ x : Nat, x ≤ 12 → Wy j ((x : Nat) : Int) = ((ch (T ((j : Nat) : Int)).toNat x : Nat) : Int)) (hjm : j + 4 = n) (hth : thr T V n R j a) (hsr : 0 ≤ s ∧ s + 9 * ((tsum (clL T V j 4) : Nat) : Int) ≤ 540) : CTv l yX8_comeTo wsX8_comeTo (rmo 9 249) D cy B N g [.ref (B + sb), .int (zI ((j : Nat) : Int)), .int (zI ((a : Nat) : Int)), .int (zI s), .long (zJ w)] (fun g' => vSum cy B g' sb cb nb (aW W (clL T V j 4) (R - a) s w) (aT Tb (clL T V j 4) (R - a) s) le gr sver ∧ (∀ q, (q < sb ∨ sb + 3 ≤ q) → g' q = g q)) := by
  refine WW_of (cc := cX8_comeTo) (maxL := 6) (ret := none) (own := RX8) (by decide) rfl rfl (Nat.le_of_ble_eq_true rfl) rfl ?_
  intro pp ee ss mm bl me co hmn
  have hfr_0 : ∀ q, (q < sb ∨ sb + 3 ≤ q) → g q = g q := fun _ _ => rfl
  have hn5 : n ≤ 5 := hok.1
  have htR := hth.2.1
  refine w_aload_n dX8_comeTo_0 rfl 0 rfl ?_
  refine w_get (i := 0) (T := TX8) (NF := 7) sb (by first | omega | with_reducible rfl) hs.1 rfl (fun _ h => (List.mem_cons_of_mem _ (List.mem_append_left _ (List.mem_append_left _ (List.mem_append_right _ h))))) (by decide) (List.mem_of_getElem? (i := 1) rfl) rfl dX8_comeTo_1 ?_
  refine w_iload_n dX8_comeTo_4 rfl 1 rfl ?_
  refine w_calli (As := [.int (zI ((j : Nat) : Int))]) (rest := []) (n := 1) (c_X0_has hc (by first | omega | with_reducible rfl) (by first | omega | with_reducible rfl) (by first | omega | with_reducible rfl)) gX8_comeTo_X0_has rfl rfl rfl (by decide +kernel) ⟨Nat.le_of_ble_eq_true rfl, Nat.le_of_ble_eq_true rfl⟩ rfl (by first | omega | with_reducible rfl) hc.1 rfl (Nat.le_of_ble_eq_true rfl) ⟨Nat.zero_le _, Nat.zero_le _⟩ dX8_comeTo_5 rfl (fun g_1 hp_2 => ?_)
  subst g_1
  refine w_ifeqB 23 dX8_comeTo_8 (by decide) (fun c_8 => ?_) (fun c_8 => ?_)
  · exfalso; omega
  · refine w_aload_n dX8_comeTo_11 rfl 0 rfl ?_
    refine w_iload_n dX8_comeTo_12 rfl 1 rfl ?_
    refine w_iload_n dX8_comeTo_13 rfl 2 rfl ?_
    refine w_iload_n dX8_comeTo_14 rfl 3 rfl ?_
    refine w_lload dX8_comeTo_15 4 rfl ?_
    refine w_callv (As := [.int (zI ((j : Nat) : Int)), .int (zI ((a : Nat) : Int)), .int (zI s), .long (zJ w)]) (rest := []) (n := 4) (c_X8_walkFrom_4 (j := j) (a := a) hs hn hc (by first | omega | with_reducible rfl) (by first | omega | with_reducible rfl) (by first | omega | with_reducible rfl) (by first | omega | with_reducible rfl) (by first | omega | with_reducible rfl) hok (by first | omega | with_reducible rfl) hNF htf hWy (by first | omega | with_reducible rfl) hth hsr) gX8_comeTo_X8_walkFrom rfl rfl rfl (by decide +kernel) ⟨Nat.le_of_ble_eq_true rfl, Nat.le_of_ble_eq_true rfl⟩ rfl (by first | omega | with_reducible rfl) hs.1 rfl (Nat.le_of_ble_eq_true rfl) ⟨Nat.zero_le _, Nat.zero_le _⟩ dX8_comeTo_17 rfl (fun g_3 hp_4 => ?_)
    obtain ⟨hs_5, hf_6⟩ := hp_4
    have hn_7 : vNet cy B g_3 nb cb tf ((R : Nat) : Int) nver G := vNet_fr hn (fun q h1 h2 => hf_6 q (by omega))
    have hc_8 : vCol cy B g_3 cb sets n cver T X V Wy := vCol_fr hc (fun q h1 h2 => hf_6 q (by omega))
    have hfr_9 : ∀ q, (q < sb ∨ sb + 3 ≤ q) → g_3 q = g q := fun q hq => (hf_6 q (by omega)).trans (hfr_0 q hq)
    refine w_goto 30 dX8_comeTo_20 (by decide) ?_
    exact w_vret dX8_comeTo_30 rfl ⟨hs_5, hfr_9⟩
set_option maxHeartbeats 4000000 in
set_option maxRecDepth 100000 in
theorem c_X8_walkFrom_5 {l : Launch} {D : va_G} {cy : Nat → ClassId} {B N : Nat} {g : Nat → va_E} {sb : Nat} {W Tb : Int → Int} {le gr sver : Int} {nb cb : Nat} {tf : Int → Int} {nver : Int} {G : Nat → Int → Int} {sets n R : Nat} {cver : Int} {T X V : Int → Int} {Wy : Nat → Int → Int} {j a : Nat} {s w : Int} (hs : vSum cy B g sb cb nb W Tb le gr sver) (hn : vNet cy B g nb cb tf ((R : Nat) : Int) nver G) (hc : vCol cy B g cb sets n cver T X V Wy) (hSB : sb + 3 ≤ N) (hd1 : sb + 3 ≤ nb ∨ nb + 11 ≤ sb) (hd2 : sb + 3 ≤ cb ∨ cb + 10 ≤ sb) (hNB : nb + 11 ≤ N) (hCB : cb + 10 ≤ N) (hok : okT T V n) (hR : R ≤ 60) (hNF : NF T V n R G) (htf : ∀ j : Nat, j ≤ 5 → tf ((j : Nat) : Int) = ((tsum (clL T V j (n - j)) : Nat) : Int)) (hWy : ∀ j : Nat, j < n → ∀ x : Nat, x ≤ 12 → Wy j ((x : Nat) : Int) = ((ch (T ((j : Nat) : Int)).toNat x : Nat) : Int)) (hjm : j + 5 = n) (hth : thr T V n R j a) (hsr : 0 ≤ s ∧ s + 9 * ((tsum (clL T V j 5) : Nat) : Int) ≤ 540) : CTv l yX8_walkFrom wsX8_walkFrom (rmo 10 274) D cy B N g [.ref (B + sb), .int (zI ((j : Nat) : Int)), .int (zI ((a : Nat) : Int)), .int (zI s), .long (zJ w)] (fun g' => vSum cy B g' sb cb nb (aW W (clL T V j 5) (R - a) s w) (aT Tb (clL T V j 5) (R - a) s) le gr sver ∧ (∀ q, (q < sb ∨ sb + 3 ≤ q) → g' q = g q)) := by
  refine WW_of (cc := cX8_walkFrom) (maxL := 9) (ret := none) (own := RX8) (by decide) rfl rfl (Nat.le_of_ble_eq_true rfl) rfl ?_
  intro pp ee ss mm bl me co hmn
  have hfr_0 : ∀ q, (q < sb ∨ sb + 3 ≤ q) → g q = g q := fun _ _ => rfl
  have hn5 : n ≤ 5 := hok.1
  have htR := hth.2.1
  have hq1 := hok.2 ((j : Nat) : Int) (by omega) (by omega)
  have ht3 : tf (((j : Nat) : Int) + 1) = ((tsum (clL T V (j + 1) 4) : Nat) : Int) := by
    have h9 := htf (j + 1) (by omega)
    rw [show n - (j + 1) = 4 by omega] at h9
    exact h9
  have htfr : ∀ i : Int, 0 ≤ i → i ≤ 5 → 0 ≤ tf i ∧ tf i ≤ 60 := fun i h1 h2 => by
    obtain ⟨k, rfl⟩ := Int.eq_ofNat_of_zero_le h1
    have h3 := htf k (by omega)
    by_cases hk : k ≤ n
    · have h4 := okT_ts hok (m := n - k) (j := k) (by omega)
      omega
    · rw [show n - k = 0 by omega] at h3
      rw [clL, tsum] at h3
      omega
  have hts := thr_ts hth hjm
  have hts2 : tsum (clL T V j 5) = (T ((j : Nat) : Int)).toNat + tsum (clL T V (j + 1) 4) := rfl
  refine w_aload_n dX8_walkFrom_0 rfl 0 rfl ?_
  refine w_get (i := 0) (T := TX8) (NF := 7) sb (by first | omega | with_reducible rfl) hs.1 rfl (fun _ h => (List.mem_cons_of_mem _ (List.mem_append_left _ (List.mem_append_left _ (List.mem_append_right _ h))))) (by decide) (List.mem_of_getElem? (i := 1) rfl) rfl dX8_walkFrom_1 ?_
  refine w_iload_n dX8_walkFrom_4 rfl 1 rfl ?_
  refine w_calli (As := [.int (zI ((j : Nat) : Int))]) (rest := []) (n := 1) (c_X0_scoreOf hc (by first | omega | with_reducible rfl) (by first | omega | with_reducible rfl) (by first | omega | with_reducible rfl)) gX8_walkFrom_X0_scoreOf rfl rfl rfl (by decide +kernel) ⟨Nat.le_of_ble_eq_true rfl, Nat.le_of_ble_eq_true rfl⟩ rfl (by first | omega | with_reducible rfl) hc.1 rfl (Nat.le_of_ble_eq_true rfl) ⟨Nat.zero_le _, Nat.zero_le _⟩ dX8_walkFrom_5 rfl (fun g_1 hp_2 => ?_)
  subst g_1
  refine w_as (st' := [.int (zI (((V ((j : Nat) : Int)).toNat : Nat) : Int))]) (sc_i (by rw [inA_in (by omega)]; omega) rfl) ?_
  refine w_istore [(6, .int (zI (((V ((j : Nat) : Int)).toNat : Nat) : Int))), (0, .ref (B + sb)), (1, .int (zI ((j : Nat) : Int))), (2, .int (zI ((a : Nat) : Int))), (3, .int (zI s)), (4, .long (zJ w))] dX8_walkFrom_8 (by decide) rfl ?_
  refine w_aload_n dX8_walkFrom_10 rfl 1 rfl ?_
  refine w_get (i := 1) (T := TX8) (NF := 7) sb (by first | omega | with_reducible rfl) hs.1 rfl (fun _ h => (List.mem_cons_of_mem _ (List.mem_append_left _ (List.mem_append_left _ (List.mem_append_right _ h))))) (by decide) (List.mem_of_getElem? (i := 2) rfl) rfl dX8_walkFrom_11 ?_
  refine w_iload_n dX8_walkFrom_14 rfl 2 rfl ?_
  refine w_iload_n dX8_walkFrom_15 rfl 3 rfl ?_
  refine w_calli (As := [.int (zI ((j : Nat) : Int)), .int (zI ((a : Nat) : Int))]) (rest := []) (n := 2) (c_X2_most hn hc (by first | omega | with_reducible rfl) (by first | omega | with_reducible rfl) hn5 (by omega) (by omega) (by first | omega | with_reducible rfl) (by first | omega | with_reducible rfl)) gX8_walkFrom_X2_most rfl rfl rfl (by decide +kernel) ⟨Nat.le_of_ble_eq_true rfl, Nat.le_of_ble_eq_true rfl⟩ rfl (by first | omega | with_reducible rfl) hn.1 rfl (Nat.le_of_ble_eq_true rfl) ⟨Nat.zero_le _, Nat.zero_le _⟩ dX8_walkFrom_16 rfl (fun g_3 hp_4 => ?_)
  subst g_3
  refine w_as (st' := [.int (zI ((min (T ((j : Nat) : Int)).toNat (R - a) : Nat) : Int))]) (sc_i (by first | omega | with_reducible rfl) rfl) ?_
  refine w_istore [(7, .int (zI ((min (T ((j : Nat) : Int)).toNat (R - a) : Nat) : Int))), (6, .int (zI (((V ((j : Nat) : Int)).toNat : Nat) : Int))), (0, .ref (B + sb)), (1, .int (zI ((j : Nat) : Int))), (2, .int (zI ((a : Nat) : Int))), (3, .int (zI s)), (4, .long (zJ w))] dX8_walkFrom_19 (by decide) rfl ?_
  refine w_aload_n dX8_walkFrom_21 rfl 2 rfl ?_
  refine w_get (i := 1) (T := TX8) (NF := 7) sb (by first | omega | with_reducible rfl) hs.1 rfl (fun _ h => (List.mem_cons_of_mem _ (List.mem_append_left _ (List.mem_append_left _ (List.mem_append_right _ h))))) (by decide) (List.mem_of_getElem? (i := 2) rfl) rfl dX8_walkFrom_22 ?_
  refine w_iload_n dX8_walkFrom_25 rfl 3 rfl ?_
  refine w_iload_n dX8_walkFrom_26 rfl 4 rfl ?_
  refine w_calli (As := [.int (zI ((j : Nat) : Int)), .int (zI ((a : Nat) : Int))]) (rest := []) (n := 2) (c_X2_fewest hn (by first | omega | with_reducible rfl) (by omega) htfr (by first | omega | with_reducible rfl) (by first | omega | with_reducible rfl)) gX8_walkFrom_X2_fewest rfl rfl rfl (by decide +kernel) ⟨Nat.le_of_ble_eq_true rfl, Nat.le_of_ble_eq_true rfl⟩ rfl (by first | omega | with_reducible rfl) hn.1 rfl (Nat.le_of_ble_eq_true rfl) ⟨Nat.zero_le _, Nat.zero_le _⟩ dX8_walkFrom_27 rfl (fun g_5 hp_6 => ?_)
  subst g_5
  refine w_as (st' := [.int (zI (((lo (clL T V (j + 1) 4) (R - a)) : Nat) : Int))]) (sc_i (by rw [ht3]; unfold lo; omega) rfl) ?_
  refine w_istore [(8, .int (zI (((lo (clL T V (j + 1) 4) (R - a)) : Nat) : Int))), (7, .int (zI ((min (T ((j : Nat) : Int)).toNat (R - a) : Nat) : Int))), (6, .int (zI (((V ((j : Nat) : Int)).toNat : Nat) : Int))), (0, .ref (B + sb)), (1, .int (zI ((j : Nat) : Int))), (2, .int (zI ((a : Nat) : Int))), (3, .int (zI s)), (4, .long (zJ w))] dX8_walkFrom_30 (by decide) rfl ?_
  refine w_sub [(0, .ref (B + sb)), (1, .int (zI ((j : Nat) : Int))), (2, .int (zI ((a : Nat) : Int))), (3, .int (zI s)), (4, .long (zJ w)), (6, .int (zI (((V ((j : Nat) : Int)).toNat : Nat) : Int))), (7, .int (zI ((min (T ((j : Nat) : Int)).toNat (R - a) : Nat) : Int))), (8, .int (zI (((lo (clL T V (j + 1) 4) (R - a)) : Nat) : Int)))] [3, 4, 5, 6, 7, 2, 1, 0] rfl ?_
  refine w_lv (lv' := [(0, .ref (B + sb)), (1, .int (zI ((j : Nat) : Int))), (2, .int (zI ((a : Nat) : Int))), (3, .int (zI s)), (4, .long (zJ w)), (6, .int (zI (((V ((j : Nat) : Int)).toNat : Nat) : Int))), (7, .int (zI ((min (T ((j : Nat) : Int)).toNat (R - a) : Nat) : Int))), (8, .int (zI ((((lo (clL T V (j + 1) 4) (R - a)) + 0) : Nat) : Int)))]) (lc_s (lc_s (lc_s (lc_s (lc_s (lc_s (lc_s (lc_i (by first | omega | with_reducible rfl) rfl)))))))) ?_
  refine w_loop2 (fun (k : Nat) (gl_7 : (Nat → va_E)) => vSum cy B gl_7 sb cb nb (gW W ((T ((j : Nat) : Int)).toNat, (V ((j : Nat) : Int)).toNat) (clL T V (j + 1) 4) (R - a) s w k) (gT Tb ((T ((j : Nat) : Int)).toNat, (V ((j : Nat) : Int)).toNat) (clL T V (j + 1) 4) (R - a) s k) le gr sver ∧ vNet cy B gl_7 nb cb tf ((R : Nat) : Int) nver G ∧ vCol cy B gl_7 cb sets n cver T X V Wy ∧ (∀ q, (q < sb ∨ sb + 3 ≤ q) → gl_7 q = g q) ∧ k ≤ nn ((T ((j : Nat) : Int)).toNat, (V ((j : Nat) : Int)).toNat) (clL T V (j + 1) 4) (R - a)) (fun (k : Nat) (gl_7 : (Nat → va_E)) => nn ((T ((j : Nat) : Int)).toNat, (V ((j : Nat) : Int)).toNat) (clL T V (j + 1) 4) (R - a) - k) (fun (k : Nat) (gl_7 : (Nat → va_E)) => gl_7) (fun (k : Nat) (gl_7 : (Nat → va_E)) => [(0, .ref (B + sb)), (1, .int (zI ((j : Nat) : Int))), (2, .int (zI ((a : Nat) : Int))), (3, .int (zI s)), (4, .long (zJ w)), (6, .int (zI (((V ((j : Nat) : Int)).toNat : Nat) : Int))), (7, .int (zI ((min (T ((j : Nat) : Int)).toNat (R - a) : Nat) : Int))), (8, .int (zI ((((lo (clL T V (j + 1) 4) (R - a)) + k) : Nat) : Int)))]) ?_ 0 g ⟨(by have h9 := hs; rw [gW_0, gT_0]; exact h9), hn, hc, hfr_0, (Nat.zero_le _)⟩
  rintro k gl_7 ⟨hs_8, hn_9, hc_10, hfr_11, hk⟩ ih_32
  have hlo : lo (clL T V (j + 1) 4) (R - a) ≤ R - a ∧ nn ((T ((j : Nat) : Int)).toNat, (V ((j : Nat) : Int)).toNat) (clL T V (j + 1) 4) (R - a) ≤ 13 := by unfold lo nn; omega
  refine w_iload dX8_walkFrom_32 7 rfl ?_
  refine w_iload dX8_walkFrom_34 6 rfl ?_
  refine w_icmp_gt 76 dX8_walkFrom_36 (by decide) (by first | omega | with_reducible rfl) (by first | omega | with_reducible rfl) (fun c_36 => ?_) (fun c_36 => ?_)
  · have hk9 : k = nn ((T ((j : Nat) : Int)).toNat, (V ((j : Nat) : Int)).toNat) (clL T V (j + 1) 4) (R - a) := by unfold lo nn at *; omega
    exact w_vret dX8_walkFrom_76 rfl ⟨(by have h9 := hs_8; rw [hk9] at h9; exact h9), hfr_11⟩
  · have hx : lo (clL T V (j + 1) 4) (R - a) + k ≤ (T ((j : Nat) : Int)).toNat := by omega
    have hxv : 0 ≤ ((((lo (clL T V (j + 1) 4) (R - a)) + k) : Nat) : Int) * (((V ((j : Nat) : Int)).toNat : Nat) : Int) ∧ ((((lo (clL T V (j + 1) 4) (R - a)) + k) : Nat) : Int) * (((V ((j : Nat) : Int)).toNat : Nat) : Int) ≤ ((((lo (clL T V (j + 1) 4) (R - a)) + k) : Nat) : Int) * 9 := ⟨Int.mul_nonneg (by omega) (by omega), Int.mul_le_mul_of_nonneg_left (by omega) (by omega)⟩
    refine w_aload_n dX8_walkFrom_39 rfl 0 rfl ?_
    refine w_iload_n dX8_walkFrom_40 rfl 1 rfl ?_
    refine w_iconst dX8_walkFrom_41 ?_
    refine w_iadd dX8_walkFrom_42 ?_
    refine w_iload_n dX8_walkFrom_43 rfl 2 rfl ?_
    refine w_iload dX8_walkFrom_44 7 rfl ?_
    refine w_iadd dX8_walkFrom_46 ?_
    refine w_iload_n dX8_walkFrom_47 rfl 3 rfl ?_
    refine w_iload dX8_walkFrom_48 7 rfl ?_
    refine w_iload dX8_walkFrom_50 5 rfl ?_
    refine w_imul dX8_walkFrom_52 ?_
    refine w_iadd dX8_walkFrom_53 ?_
    refine w_lload dX8_walkFrom_54 4 rfl ?_
    refine w_aload_n dX8_walkFrom_56 rfl 0 rfl ?_
    refine w_get (i := 0) (T := TX8) (NF := 7) sb (by first | omega | with_reducible rfl) hs_8.1 rfl (fun _ h => (List.mem_cons_of_mem _ (List.mem_append_left _ (List.mem_append_left _ (List.mem_append_right _ h))))) (by decide) (List.mem_of_getElem? (i := 1) rfl) rfl dX8_walkFrom_57 ?_
    refine w_iload_n dX8_walkFrom_60 rfl 1 rfl ?_
    refine w_iload dX8_walkFrom_61 7 rfl ?_
    refine w_calll (As := [.int (zI ((j : Nat) : Int)), .int (zI ((((lo (clL T V (j + 1) 4) (R - a)) + k) : Nat) : Int))]) (rest := [.long (zJ w), .int (zI (s + (((((lo (clL T V (j + 1) 4) (R - a)) + k) : Nat) : Int) * (((V ((j : Nat) : Int)).toNat : Nat) : Int)))), .int (zI (((a : Nat) : Int) + ((((lo (clL T V (j + 1) 4) (R - a)) + k) : Nat) : Int))), .int (zI (((j : Nat) : Int) + 1)), .ref (B + sb)]) (n := 2) (c_X0_waysOf hc_10 (by first | omega | with_reducible rfl) (by first | omega | with_reducible rfl) (by first | omega | with_reducible rfl) (by first | omega | with_reducible rfl)) gX8_walkFrom_X0_waysOf rfl rfl rfl (by decide +kernel) ⟨Nat.le_of_ble_eq_true rfl, Nat.le_of_ble_eq_true rfl⟩ rfl (by first | omega | with_reducible rfl) hc_10.1 rfl (Nat.le_of_ble_eq_true rfl) ⟨Nat.zero_le _, Nat.zero_le _⟩ dX8_walkFrom_63 rfl (fun g_12 hp_13 => ?_)
    subst g_12
    refine w_as (st' := [.long (zJ ((ch (T ((j : Nat) : Int)).toNat (lo (clL T V (j + 1) 4) (R - a) + k) : Nat) : Int)), .long (zJ w), .int (zI (s + (((((lo (clL T V (j + 1) 4) (R - a)) + k) : Nat) : Int) * (((V ((j : Nat) : Int)).toNat : Nat) : Int)))), .int (zI (((a : Nat) : Int) + ((((lo (clL T V (j + 1) 4) (R - a)) + k) : Nat) : Int))), .int (zI (((j : Nat) : Int) + 1)), .ref (B + sb)]) (sc_l (by rw [wyA_in (by omega), Int.toNat_natCast]; exact hWy _ (by omega) _ (by omega)) rfl) ?_
    refine w_lmul dX8_walkFrom_66 ?_
    refine w_as (st' := [.long (zJ (w * ((ch (T ((j : Nat) : Int)).toNat (lo (clL T V (j + 1) 4) (R - a) + k) : Nat) : Int))), .int (zI (s + (((((lo (clL T V (j + 1) 4) (R - a)) + k) : Nat) : Int) * (((V ((j : Nat) : Int)).toNat : Nat) : Int)))), .int (zI (((a + (lo (clL T V (j + 1) 4) (R - a) + k)) : Nat) : Int)), .int (zI (((j + 1) : Nat) : Int)), .ref (B + sb)]) (lc_s (lc_s (sc_i (by first | omega | with_reducible rfl) (sc_i (by first | omega | with_reducible rfl) rfl)))) ?_
    refine w_callv (As := [.int (zI (((j + 1) : Nat) : Int)), .int (zI (((a + (lo (clL T V (j + 1) 4) (R - a) + k)) : Nat) : Int)), .int (zI (s + (((((lo (clL T V (j + 1) 4) (R - a)) + k) : Nat) : Int) * (((V ((j : Nat) : Int)).toNat : Nat) : Int)))), .long (zJ (w * ((ch (T ((j : Nat) : Int)).toNat (lo (clL T V (j + 1) 4) (R - a) + k) : Nat) : Int)))]) (rest := []) (n := 4) (c_X8_comeTo_4 (j := (j + 1)) (a := (a + (lo (clL T V (j + 1) 4) (R - a) + k))) hs_8 hn_9 hc_10 (by first | omega | with_reducible rfl) (by first | omega | with_reducible rfl) (by first | omega | with_reducible rfl) (by first | omega | with_reducible rfl) (by first | omega | with_reducible rfl) hok (by first | omega | with_reducible rfl) hNF htf hWy (by first | omega | with_reducible rfl) (thr_next hth hjm (by omega) hx (by omega)) (by first | omega | with_reducible rfl)) gX8_walkFrom_X8_comeTo rfl rfl rfl (by decide +kernel) ⟨Nat.le_of_ble_eq_true rfl, Nat.le_of_ble_eq_true rfl⟩ rfl (by first | omega | with_reducible rfl) hs_8.1 rfl (Nat.le_of_ble_eq_true rfl) ⟨Nat.zero_le _, Nat.zero_le _⟩ dX8_walkFrom_67 rfl (fun g_14 hp_15 => ?_)
    obtain ⟨hs_16, hf_17⟩ := hp_15
    have hn_18 : vNet cy B g_14 nb cb tf ((R : Nat) : Int) nver G := vNet_fr hn_9 (fun q h1 h2 => hf_17 q (by omega))
    have hc_19 : vCol cy B g_14 cb sets n cver T X V Wy := vCol_fr hc_10 (fun q h1 h2 => hf_17 q (by omega))
    have hfr_20 : ∀ q, (q < sb ∨ sb + 3 ≤ q) → g_14 q = g q := fun q hq => (hf_17 q (by omega)).trans (hfr_11 q hq)
    refine w_iinc 7 [(8, .int (zI (((((lo (clL T V (j + 1) 4) (R - a)) + k) : Nat) : Int) + 1))), (0, .ref (B + sb)), (1, .int (zI ((j : Nat) : Int))), (2, .int (zI ((a : Nat) : Int))), (3, .int (zI s)), (4, .long (zJ w)), (6, .int (zI (((V ((j : Nat) : Int)).toNat : Nat) : Int))), (7, .int (zI ((min (T ((j : Nat) : Int)).toNat (R - a) : Nat) : Int)))] dX8_walkFrom_70 rfl (by decide) rfl ?_
    refine w_goto 32 dX8_walkFrom_73 (by decide) ?_
    refine w_sub [(0, .ref (B + sb)), (1, .int (zI ((j : Nat) : Int))), (2, .int (zI ((a : Nat) : Int))), (3, .int (zI s)), (4, .long (zJ w)), (6, .int (zI (((V ((j : Nat) : Int)).toNat : Nat) : Int))), (7, .int (zI ((min (T ((j : Nat) : Int)).toNat (R - a) : Nat) : Int))), (8, .int (zI (((((lo (clL T V (j + 1) 4) (R - a)) + k) : Nat) : Int) + 1)))] [1, 2, 3, 4, 5, 6, 7, 0] rfl ?_
    refine w_lv (lv' := [(0, .ref (B + sb)), (1, .int (zI ((j : Nat) : Int))), (2, .int (zI ((a : Nat) : Int))), (3, .int (zI s)), (4, .long (zJ w)), (6, .int (zI (((V ((j : Nat) : Int)).toNat : Nat) : Int))), (7, .int (zI ((min (T ((j : Nat) : Int)).toNat (R - a) : Nat) : Int))), (8, .int (zI ((((lo (clL T V (j + 1) 4) (R - a)) + (k + 1)) : Nat) : Int)))]) (lc_s (lc_s (lc_s (lc_s (lc_s (lc_s (lc_s (lc_i (by first | omega | with_reducible rfl) rfl)))))))) ?_
    exact ih_32 (k + 1) g_14 ⟨(by have h9 := hs_16; rw [Nat.sub_add_eq, gW_s, gT_s] at h9; exact h9), hn_18, hc_19, hfr_20, (by unfold lo nn at *; omega)⟩ (by unfold lo nn at *; omega)
