/-! ===== MarginTables: what is asked of a stratum ===== -/
def vTop (cy : Nat → ClassId) (B : Nat) (g : Nat → va_E) (b : Nat) (la : Nat) : Prop := g b = .inr (10, [.ref (B + 16), .ref (B + 18), .ref (B + 50), .ref (B + 59), .ref (B + 62), .int (zI ((la : Nat) : Int))])
theorem vTop_fr {cy : Nat → ClassId} {B : Nat} {g g' : Nat → va_E} {b : Nat} {la : Nat} (h : vTop cy B g b la) (hq : ∀ q, b ≤ q → q < b + 1 → g' q = g q) : vTop cy B g' b la := (hq _ (by omega) (by omega)).trans h
def vSA (cy : Nat → ClassId) (B : Nat) (g : Nat → va_E) (b : Nat)  : Prop := g b = cR (cy 4) B 3 (b + 1) 26
theorem vSA_fr {cy : Nat → ClassId} {B : Nat} {g g' : Nat → va_E} {b : Nat}  (h : vSA cy B g b ) (hq : ∀ q, b ≤ q → q < b + 1 → g' q = g q) : vSA cy B g' b  := (hq _ (by omega) (by omega)).trans h
set_option maxHeartbeats 4000000 in
set_option maxRecDepth 100000 in
theorem c_X10_find {l : Launch} {D : va_G} {cy : Nat → ClassId} {B N : Nat} {g : Nat → va_E} {la : Nat} {s : Int} (ht0 : vTop cy B g 0 la) (hsa : vSA cy B g 62 ) (hN : 141 ≤ N) (hla : la ≤ 3) (h_s : -2147483648 ≤ s ∧ s < 2147483648) : CTq l yX10_find wsX10_find (rmo 0 0) D cy B N g [.ref (B + 0), .int (zI s)] (if 0 ≤ s ∧ s < la then some (B + (63 + 26 * s.toNat)) else none) (fun g' => g' = g) := by
  refine WW_of (cc := cX10_find) (maxL := 2) (ret := (some (.object "MarginTables$Stratum"))) (own := RX10) (by decide) rfl rfl (Nat.le_of_ble_eq_true rfl) rfl ?_
  intro pp ee ss mm bl me co hmn
  refine w_iload_n dX10_find_0 rfl 1 rfl ?_
  refine w_if_lt 30 dX10_find_1 (by decide) (by first | omega | with_reducible rfl) (fun c_1 => ?_) (fun c_1 => ?_)
  · refine w_null dX10_find_30 ?_
    exact w_aret (E' := none) dX10_find_31 rfl (by first | (rw [if_neg (by omega)]) | (rw [if_pos (by omega), show s.toNat = jn by omega])) rfl
  · refine w_iload_n dX10_find_4 rfl 1 rfl ?_
    refine w_aload_n dX10_find_5 rfl 0 rfl ?_
    refine w_get (i := 5) (T := TX10) (NF := 6) 0 (by first | omega | with_reducible rfl) ht0 rfl (fun _ h => (List.mem_cons_of_mem _ (List.mem_append_right _ h))) (by decide) (List.mem_of_getElem? (i := 1) rfl) rfl dX10_find_6 ?_
    refine w_icmp_ge 30 dX10_find_9 (by decide) (by first | omega | with_reducible rfl) (by first | omega | with_reducible rfl) (fun c_9 => ?_) (fun c_9 => ?_)
    · refine w_null dX10_find_30 ?_
      exact w_aret (E' := none) dX10_find_31 rfl (by first | (rw [if_neg (by omega)]) | (rw [if_pos (by omega), show s.toNat = jn by omega])) rfl
    · refine w_iload_n dX10_find_12 rfl 1 rfl ?_
      refine w_aload_n dX10_find_13 rfl 0 rfl ?_
      refine w_get (i := 4) (T := TX10) (NF := 6) 0 (by first | omega | with_reducible rfl) ht0 rfl (fun _ h => (List.mem_cons_of_mem _ (List.mem_append_right _ h))) (by decide) (List.mem_of_getElem? (i := 2) rfl) rfl dX10_find_14 ?_
      refine w_alen 62 4 (by first | omega | with_reducible rfl) hsa rfl dX10_find_17 ?_
      refine w_icmp_ge 30 dX10_find_18 (by decide) (by first | omega | with_reducible rfl) (by first | omega | with_reducible rfl) (fun c_18 => ?_) (fun c_18 => ?_)
      · exfalso; omega
      · obtain ⟨jn, hjn⟩ := Int.eq_ofNat_of_zero_le (show 0 ≤ s by omega)
        refine w_aload_n dX10_find_21 rfl 0 rfl ?_
        refine w_get (i := 4) (T := TX10) (NF := 6) 0 (by first | omega | with_reducible rfl) ht0 rfl (fun _ h => (List.mem_cons_of_mem _ (List.mem_append_right _ h))) (by decide) (List.mem_of_getElem? (i := 2) rfl) rfl dX10_find_22 ?_
        refine w_iload_n dX10_find_25 rfl 1 rfl ?_
        refine w_aald (j := jn) (k' := (63 + 26 * jn)) 62 (by first | omega | with_reducible rfl) hsa rfl rfl (by first | omega | with_reducible rfl) (by first | omega | with_reducible rfl) (by first | omega | with_reducible rfl) dX10_find_26 ?_
        refine w_goto 31 dX10_find_27 (by decide) ?_
        exact w_aret (E' := some (B + (63 + 26 * jn))) dX10_find_31 rfl (by first | (rw [if_neg (by omega)]) | (rw [if_pos (by omega), show s.toNat = jn by omega])) rfl

set_option maxHeartbeats 4000000 in
set_option maxRecDepth 100000 in
theorem c_X10_fresh {l : Launch} {D : va_G} {cy : Nat → ClassId} {B N : Nat} {g : Nat → va_E} {la k : Nat} {c : List Co} {M : Int} {fr : Nat} (ht0 : vTop cy B g 0 la) (hsa : vSA cy B g 62 ) (hw : vSW cy B g (63 + 26 * k) c M fr) (hN : 141 ≤ N) (hk : k < la ∧ la ≤ 3) (hM : M < 2147483648) (hc : cok c) : CTq l yX10_findFresh wsX10_findFresh (rmo 5 139) D cy B N g [.ref (B + 0), .int (zI ((k : Nat) : Int))] (some (B + (63 + 26 * k))) (fun g' => vSW cy B g' (63 + 26 * k) c M 1 ∧ (∀ q, (q < (63 + 26 * k) ∨ (63 + 26 * k) + 26 ≤ q) → g' q = g q)) := by
  refine WW_of (cc := cX10_findFresh) (maxL := 3) (ret := (some (.object "MarginTables$Stratum"))) (own := RX10) (by decide) rfl rfl (Nat.le_of_ble_eq_true rfl) rfl ?_
  intro pp ee ss mm bl me co hmn
  have hfr_0 : ∀ q, (q < (63 + 26 * k) ∨ (63 + 26 * k) + 26 ≤ q) → g q = g q := fun _ _ => rfl
  refine w_aload_n dX10_findFresh_0 rfl 0 rfl ?_
  refine w_iload_n dX10_findFresh_1 rfl 1 rfl ?_
  refine w_callq (As := [.int (zI ((k : Nat) : Int))]) (rest := []) (n := 1) (c_X10_find ht0 hsa (by first | omega | with_reducible rfl) (by first | omega | with_reducible rfl) (by first | omega | with_reducible rfl)) gX10_findFresh_X10_find rfl rfl rfl (by decide +kernel) ⟨Nat.le_of_ble_eq_true rfl, Nat.le_of_ble_eq_true rfl⟩ rfl (by first | omega | with_reducible rfl) ht0 rfl (Nat.le_of_ble_eq_true rfl) ⟨Nat.zero_le _, Nat.zero_le _⟩ dX10_findFresh_2 rfl (fun g_1 hp_2 => ?_)
  subst g_1
  refine w_as (st' := [.ref (B + (63 + 26 * k))]) (sc_q (by rw [if_pos (by omega), Int.toNat_natCast]) rfl) ?_
  refine w_astore_n [(2, .ref (B + (63 + 26 * k))), (0, .ref (B + 0)), (1, .int (zI ((k : Nat) : Int)))] dX10_findFresh_5 rfl (by decide) rfl ?_
  refine w_aload_n dX10_findFresh_6 rfl 0 rfl ?_
  refine w_ifnull dX10_findFresh_7 ?_
  refine w_aload_n dX10_findFresh_10 rfl 0 rfl ?_
  refine w_get (i := 1) (T := TX7) (NF := 4) (63 + 26 * k) (by first | omega | with_reducible rfl) (vSW_str hw) rfl (fun _ h => (List.mem_cons_of_mem _ (List.mem_append_left _ (List.mem_append_left _ (List.mem_append_left _ (List.mem_append_right _ h)))))) (by decide) (List.mem_of_getElem? (i := 1) rfl) rfl dX10_findFresh_11 ?_
  obtain ⟨fx_5, hfx_5⟩ := vSW_net hw
  refine w_callv (As := []) (rest := []) (n := 0) (w_X2_refresh hw (by first | omega | with_reducible rfl) (by first | omega | with_reducible rfl) (by first | omega | with_reducible rfl)) gX10_findFresh_X2_refresh rfl rfl rfl (by decide +kernel) ⟨Nat.le_of_ble_eq_true rfl, Nat.le_of_ble_eq_true rfl⟩ rfl (by first | omega | with_reducible rfl) hfx_5 rfl (Nat.le_of_ble_eq_true rfl) ⟨Nat.zero_le _, Nat.zero_le _⟩ dX10_findFresh_14 rfl (fun g_3 hp_4 => ?_)
  obtain ⟨hw_6, hf_7⟩ := hp_4
  have ht0_8 : vTop cy B g_3 0 la := vTop_fr ht0 (fun q h1 h2 => hf_7 q (by omega))
  have hsa_9 : vSA cy B g_3 62  := vSA_fr hsa (fun q h1 h2 => hf_7 q (by omega))
  have hfr_10 : ∀ q, (q < (63 + 26 * k) ∨ (63 + 26 * k) + 26 ≤ q) → g_3 q = g q := fun q hq => (hf_7 q (by omega)).trans (hfr_0 q hq)
  refine w_aload_n dX10_findFresh_17 rfl 0 rfl ?_
  exact w_aret (E' := some (B + (63 + 26 * k))) dX10_findFresh_18 rfl (by first | with_reducible rfl | omega | (split <;> omega)) ⟨hw_6, hfr_10⟩
set_option maxHeartbeats 4000000 in
set_option maxRecDepth 100000 in
theorem c_X10_freshN {l : Launch} {D : va_G} {cy : Nat → ClassId} {B N : Nat} {g : Nat → va_E} {la : Nat} {s : Int} (ht0 : vTop cy B g 0 la) (hsa : vSA cy B g 62 ) (hN : 141 ≤ N) (hla : la ≤ 3) (h_s : -2147483648 ≤ s ∧ s < 2147483648) (hs : ¬ (0 ≤ s ∧ s < la)) : CTq l yX10_findFresh wsX10_findFresh (rmo 5 139) D cy B N g [.ref (B + 0), .int (zI s)] none (fun g' => g' = g) := by
  refine WW_of (cc := cX10_findFresh) (maxL := 3) (ret := (some (.object "MarginTables$Stratum"))) (own := RX10) (by decide) rfl rfl (Nat.le_of_ble_eq_true rfl) rfl ?_
  intro pp ee ss mm bl me co hmn
  refine w_aload_n dX10_findFresh_0 rfl 0 rfl ?_
  refine w_iload_n dX10_findFresh_1 rfl 1 rfl ?_
  refine w_callq (As := [.int (zI s)]) (rest := []) (n := 1) (c_X10_find ht0 hsa (by first | omega | with_reducible rfl) (by first | omega | with_reducible rfl) (by first | omega | with_reducible rfl)) gX10_findFresh_X10_find rfl rfl rfl (by decide +kernel) ⟨Nat.le_of_ble_eq_true rfl, Nat.le_of_ble_eq_true rfl⟩ rfl (by first | omega | with_reducible rfl) ht0 rfl (Nat.le_of_ble_eq_true rfl) ⟨Nat.zero_le _, Nat.zero_le _⟩ dX10_findFresh_2 rfl (fun g_1 hp_2 => ?_)
  subst g_1
  refine w_as (st' := [.null]) (sc_q0 (by rw [if_neg (by omega)]) rfl) ?_
  refine w_astore_nN [(2, .null), (0, .ref (B + 0)), (1, .int (zI s))] dX10_findFresh_5 rfl (by decide) rfl ?_
  refine w_aload_nN dX10_findFresh_6 rfl 0 rfl ?_
  refine w_ifnullN 17 dX10_findFresh_7 (by decide) ?_
  refine w_aload_nN dX10_findFresh_17 rfl 0 rfl ?_
  exact w_aret (E' := none) dX10_findFresh_18 rfl (by first | with_reducible rfl | omega | (split <;> omega)) rfl

set_option maxHeartbeats 4000000 in
set_option maxRecDepth 100000 in
theorem n_X10_column {l : Launch} {D : va_G} {cy : Nat → ClassId} {B N : Nat} {g : Nat → va_E} {la : Nat} {s j what : Int} (ht0 : vTop cy B g 0 la) (hsa : vSA cy B g 62 ) (hN : 141 ≤ N) (hla : la ≤ 3) (h_s : -2147483648 ≤ s ∧ s < 2147483648) (hs : ¬ (0 ≤ s ∧ s < la)) (h_j : -2147483648 ≤ j ∧ j < 2147483648) (h_what : -2147483648 ≤ what ∧ what < 2147483648) : CTi l yX10_column wsX10_column (rmo 1 21) D cy B N g [.ref (B + 0), .int (zI s), .int (zI j), .int (zI what)] (-1) (fun g' => g' = g) := by
  refine WW_of (cc := cX10_column) (maxL := 5) (ret := (some .int)) (own := RX10) (by decide) rfl rfl (Nat.le_of_ble_eq_true rfl) rfl ?_
  intro pp ee ss mm bl me co hmn
  refine w_aload_n dX10_column_0 rfl 0 rfl ?_
  refine w_iload_n dX10_column_1 rfl 1 rfl ?_
  refine w_callq (As := [.int (zI s)]) (rest := []) (n := 1) (c_X10_find ht0 hsa (by first | omega | with_reducible rfl) (by first | omega | with_reducible rfl) (by first | omega | with_reducible rfl)) gX10_column_X10_find rfl rfl rfl (by decide +kernel) ⟨Nat.le_of_ble_eq_true rfl, Nat.le_of_ble_eq_true rfl⟩ rfl (by first | omega | with_reducible rfl) ht0 rfl (Nat.le_of_ble_eq_true rfl) ⟨Nat.zero_le _, Nat.zero_le _⟩ dX10_column_2 rfl (fun g_1 hp_2 => ?_)
  subst g_1
  refine w_as (st' := [.null]) (sc_q0 (by rw [if_neg (by omega)]) rfl) ?_
  refine w_astoreN [(4, .null), (0, .ref (B + 0)), (1, .int (zI s)), (2, .int (zI j)), (3, .int (zI what))] dX10_column_5 (by decide) rfl ?_
  refine w_aloadN dX10_column_7 0 rfl ?_
  refine w_ifnullN 24 dX10_column_9 (by decide) ?_
  refine w_iconst dX10_column_24 ?_
  exact w_iret dX10_column_25 rfl (by first | with_reducible rfl | omega | (split <;> omega)) rfl
set_option maxHeartbeats 4000000 in
set_option maxRecDepth 100000 in
theorem y_X10_column {l : Launch} {D : va_G} {cy : Nat → ClassId} {B N : Nat} {g : Nat → va_E} {la k : Nat} {c : List Co} {M : Int} {fr : Nat} {j what : Int} (ht0 : vTop cy B g 0 la) (hsa : vSA cy B g 62 ) (hw : vSW cy B g (63 + 26 * k) c M fr) (hN : 141 ≤ N) (hk : k < la ∧ la ≤ 3) (hM : M < 2147483648) (hc : cok c) (h2 : 2 ≤ c.length) (h_j : -2147483648 ≤ j ∧ j < 2147483648) (h_what : -2147483648 ≤ what ∧ what < 2147483648) : CTi l yX10_column wsX10_column (rmo 1 21) D cy B N g [.ref (B + 0), .int (zI ((k : Nat) : Int)), .int (zI j), .int (zI what)] (aCol c j what) (fun g' => g' = g) := by
  refine WW_of (cc := cX10_column) (maxL := 5) (ret := (some .int)) (own := RX10) (by decide) rfl rfl (Nat.le_of_ble_eq_true rfl) rfl ?_
  intro pp ee ss mm bl me co hmn
  have hc5 := hc.1
  refine w_aload_n dX10_column_0 rfl 0 rfl ?_
  refine w_iload_n dX10_column_1 rfl 1 rfl ?_
  refine w_callq (As := [.int (zI ((k : Nat) : Int))]) (rest := []) (n := 1) (c_X10_find ht0 hsa (by first | omega | with_reducible rfl) (by first | omega | with_reducible rfl) (by first | omega | with_reducible rfl)) gX10_column_X10_find rfl rfl rfl (by decide +kernel) ⟨Nat.le_of_ble_eq_true rfl, Nat.le_of_ble_eq_true rfl⟩ rfl (by first | omega | with_reducible rfl) ht0 rfl (Nat.le_of_ble_eq_true rfl) ⟨Nat.zero_le _, Nat.zero_le _⟩ dX10_column_2 rfl (fun g_1 hp_2 => ?_)
  subst g_1
  refine w_as (st' := [.ref (B + (63 + 26 * k))]) (sc_q (by rw [if_pos (by omega), Int.toNat_natCast]) rfl) ?_
  refine w_astore [(4, .ref (B + (63 + 26 * k))), (0, .ref (B + 0)), (1, .int (zI ((k : Nat) : Int))), (2, .int (zI j)), (3, .int (zI what))] dX10_column_5 (by decide) rfl ?_
  refine w_aload dX10_column_7 0 rfl ?_
  refine w_ifnull dX10_column_9 ?_
  refine w_aload dX10_column_12 0 rfl ?_
  refine w_get (i := 0) (T := TX7) (NF := 4) (63 + 26 * k) (by first | omega | with_reducible rfl) (vSW_str hw) rfl (fun _ h => (List.mem_cons_of_mem _ (List.mem_append_left _ (List.mem_append_left _ (List.mem_append_right _ h))))) (by decide) (List.mem_of_getElem? (i := 1) rfl) rfl dX10_column_14 ?_
  refine w_iload_n dX10_column_17 rfl 3 rfl ?_
  obtain ⟨fx_5, hfx_5⟩ := vSW_col hw
  refine w_calli (As := [.int (zI j)]) (rest := []) (n := 1) (w_X0_has hw (by first | omega | with_reducible rfl) (by first | omega | with_reducible rfl) (by first | omega | with_reducible rfl)) gX10_column_X0_has rfl rfl rfl (by decide +kernel) ⟨Nat.le_of_ble_eq_true rfl, Nat.le_of_ble_eq_true rfl⟩ rfl (by first | omega | with_reducible rfl) hfx_5 rfl (Nat.le_of_ble_eq_true rfl) ⟨Nat.zero_le _, Nat.zero_le _⟩ dX10_column_18 rfl (fun g_3 hp_4 => ?_)
  subst g_3
  refine w_ifneB 26 dX10_column_21 (by decide) (fun c_21 => ?_) (fun c_21 => ?_)
  · refine w_iload_n dX10_column_26 rfl 4 rfl ?_
    by_cases c_27 : what < 0 ∨ 2 < what
    · refine w_tout 82 dX10_column_27 (by first | omega | with_reducible rfl) c_27 (by decide) ?_
      refine w_iconst dX10_column_82 ?_
      exact w_iret dX10_column_83 rfl (by unfold aCol; rw [if_pos c_21, if_neg (by omega), if_neg (by omega), if_neg (by omega)]) rfl
    · rcases (show what = 0 ∨ what = 1 ∨ what = 2 by omega) with c_27 | c_27 | c_27
      · refine w_tin (z := what) (off := 25) 52 dX10_column_27 (by first | omega | with_reducible rfl) (by omega) (by omega) (by rw [c_27]; rfl) (by decide) ?_
        refine w_aload dX10_column_52 0 rfl ?_
        refine w_get (i := 0) (T := TX7) (NF := 4) (63 + 26 * k) (by first | omega | with_reducible rfl) (vSW_str hw) rfl (fun _ h => (List.mem_cons_of_mem _ (List.mem_append_left _ (List.mem_append_left _ (List.mem_append_right _ h))))) (by decide) (List.mem_of_getElem? (i := 1) rfl) rfl dX10_column_54 ?_
        refine w_iload_n dX10_column_57 rfl 3 rfl ?_
        obtain ⟨fx_8, hfx_8⟩ := vSW_col hw
        refine w_calli (As := [.int (zI j)]) (rest := []) (n := 1) (w_X0_totalOf hw (by first | omega | with_reducible rfl) (by first | omega | with_reducible rfl) (by first | omega | with_reducible rfl)) gX10_column_X0_totalOf rfl rfl rfl (by decide +kernel) ⟨Nat.le_of_ble_eq_true rfl, Nat.le_of_ble_eq_true rfl⟩ rfl (by first | omega | with_reducible rfl) hfx_8 rfl (Nat.le_of_ble_eq_true rfl) ⟨Nat.zero_le _, Nat.zero_le _⟩ dX10_column_58 rfl (fun g_6 hp_7 => ?_)
        subst g_6
        exact w_iret dX10_column_61 rfl (by unfold aCol; rw [if_pos c_21, if_pos c_27, inA_in c_21]) rfl
      · refine w_tin (z := what) (off := 35) 62 dX10_column_27 (by first | omega | with_reducible rfl) (by omega) (by omega) (by rw [c_27]; rfl) (by decide) ?_
        refine w_aload dX10_column_62 0 rfl ?_
        refine w_get (i := 0) (T := TX7) (NF := 4) (63 + 26 * k) (by first | omega | with_reducible rfl) (vSW_str hw) rfl (fun _ h => (List.mem_cons_of_mem _ (List.mem_append_left _ (List.mem_append_left _ (List.mem_append_right _ h))))) (by decide) (List.mem_of_getElem? (i := 1) rfl) rfl dX10_column_64 ?_
        refine w_iload_n dX10_column_67 rfl 3 rfl ?_
        obtain ⟨fx_11, hfx_11⟩ := vSW_col hw
        refine w_calli (As := [.int (zI j)]) (rest := []) (n := 1) (w_X0_aboveOf hw (by first | omega | with_reducible rfl) (by first | omega | with_reducible rfl) (by first | omega | with_reducible rfl)) gX10_column_X0_aboveOf rfl rfl rfl (by decide +kernel) ⟨Nat.le_of_ble_eq_true rfl, Nat.le_of_ble_eq_true rfl⟩ rfl (by first | omega | with_reducible rfl) hfx_11 rfl (Nat.le_of_ble_eq_true rfl) ⟨Nat.zero_le _, Nat.zero_le _⟩ dX10_column_68 rfl (fun g_9 hp_10 => ?_)
        subst g_9
        exact w_iret dX10_column_71 rfl (by unfold aCol; rw [if_pos c_21, if_neg (by omega), if_pos c_27, inA_in c_21]) rfl
      · refine w_tin (z := what) (off := 45) 72 dX10_column_27 (by first | omega | with_reducible rfl) (by omega) (by omega) (by rw [c_27]; rfl) (by decide) ?_
        refine w_aload dX10_column_72 0 rfl ?_
        refine w_get (i := 0) (T := TX7) (NF := 4) (63 + 26 * k) (by first | omega | with_reducible rfl) (vSW_str hw) rfl (fun _ h => (List.mem_cons_of_mem _ (List.mem_append_left _ (List.mem_append_left _ (List.mem_append_right _ h))))) (by decide) (List.mem_of_getElem? (i := 1) rfl) rfl dX10_column_74 ?_
        refine w_iload_n dX10_column_77 rfl 3 rfl ?_
        obtain ⟨fx_14, hfx_14⟩ := vSW_col hw
        refine w_calli (As := [.int (zI j)]) (rest := []) (n := 1) (w_X0_scoreOf hw (by first | omega | with_reducible rfl) (by first | omega | with_reducible rfl) (by first | omega | with_reducible rfl)) gX10_column_X0_scoreOf rfl rfl rfl (by decide +kernel) ⟨Nat.le_of_ble_eq_true rfl, Nat.le_of_ble_eq_true rfl⟩ rfl (by first | omega | with_reducible rfl) hfx_14 rfl (Nat.le_of_ble_eq_true rfl) ⟨Nat.zero_le _, Nat.zero_le _⟩ dX10_column_78 rfl (fun g_12 hp_13 => ?_)
        subst g_12
        exact w_iret dX10_column_81 rfl (by unfold aCol; rw [if_pos c_21, if_neg (by omega), if_neg (by omega), if_pos c_27, inA_in c_21]) rfl
  · refine w_iconst dX10_column_24 ?_
    exact w_iret dX10_column_25 rfl (by unfold aCol; rw [if_neg c_21]) rfl

set_option maxHeartbeats 4000000 in
set_option maxRecDepth 100000 in
theorem n_X10_stratum {l : Launch} {D : va_G} {cy : Nat → ClassId} {B N : Nat} {g : Nat → va_E} {la : Nat} {s what : Int} (ht0 : vTop cy B g 0 la) (hsa : vSA cy B g 62 ) (hN : 141 ≤ N) (hla : la ≤ 3) (h_s : -2147483648 ≤ s ∧ s < 2147483648) (hs : ¬ (0 ≤ s ∧ s < la)) (h_what : -2147483648 ≤ what ∧ what < 2147483648) : CTi l yX10_stratum wsX10_stratum (rmo 6 161) D cy B N g [.ref (B + 0), .int (zI s), .int (zI what)] (-1) (fun g' => g' = g) := by
  refine WW_of (cc := cX10_stratum) (maxL := 4) (ret := (some .int)) (own := RX10) (by decide) rfl rfl (Nat.le_of_ble_eq_true rfl) rfl ?_
  intro pp ee ss mm bl me co hmn
  refine w_aload_n dX10_stratum_0 rfl 0 rfl ?_
  refine w_iload_n dX10_stratum_1 rfl 1 rfl ?_
  refine w_callq (As := [.int (zI s)]) (rest := []) (n := 1) (c_X10_freshN ht0 hsa (by first | omega | with_reducible rfl) (by first | omega | with_reducible rfl) (by first | omega | with_reducible rfl) (by first | omega | with_reducible rfl)) gX10_stratum_X10_findFresh rfl rfl rfl (by decide +kernel) ⟨Nat.le_of_ble_eq_true rfl, Nat.le_of_ble_eq_true rfl⟩ rfl (by first | omega | with_reducible rfl) ht0 rfl (Nat.le_of_ble_eq_true rfl) ⟨Nat.zero_le _, Nat.zero_le _⟩ dX10_stratum_2 rfl (fun g_1 hp_2 => ?_)
  subst g_1
  refine w_astore_nN [(3, .null), (0, .ref (B + 0)), (1, .int (zI s)), (2, .int (zI what))] dX10_stratum_5 rfl (by decide) rfl ?_
  refine w_aload_nN dX10_stratum_6 rfl 0 rfl ?_
  refine w_ifnonnullN dX10_stratum_7 ?_
  refine w_iconst dX10_stratum_10 ?_
  exact w_iret dX10_stratum_11 rfl (by first | with_reducible rfl | omega | (split <;> omega)) rfl
set_option maxHeartbeats 4000000 in
set_option maxRecDepth 100000 in
theorem y_X10_stratum {l : Launch} {D : va_G} {cy : Nat → ClassId} {B N : Nat} {g : Nat → va_E} {la k : Nat} {c : List Co} {M : Int} {fr : Nat} {what : Int} (ht0 : vTop cy B g 0 la) (hsa : vSA cy B g 62 ) (hw : vSW cy B g (63 + 26 * k) c M fr) (hN : 141 ≤ N) (hk : k < la ∧ la ≤ 3) (hM : M < 2147483648) (hc : cok c) (h2 : 2 ≤ c.length) (h_what : -2147483648 ≤ what ∧ what < 2147483648) : CTi l yX10_stratum wsX10_stratum (rmo 6 161) D cy B N g [.ref (B + 0), .int (zI ((k : Nat) : Int)), .int (zI what)] (aStr c what) (fun g' => vSW cy B g' (63 + 26 * k) c M 1 ∧ (∀ q, (q < (63 + 26 * k) ∨ (63 + 26 * k) + 26 ≤ q) → g' q = g q)) := by
  refine WW_of (cc := cX10_stratum) (maxL := 4) (ret := (some .int)) (own := RX10) (by decide) rfl rfl (Nat.le_of_ble_eq_true rfl) rfl ?_
  intro pp ee ss mm bl me co hmn
  have hfr_0 : ∀ q, (q < (63 + 26 * k) ∨ (63 + 26 * k) + 26 ≤ q) → g q = g q := fun _ _ => rfl
  have hc5 := hc.1
  refine w_aload_n dX10_stratum_0 rfl 0 rfl ?_
  refine w_iload_n dX10_stratum_1 rfl 1 rfl ?_
  refine w_callq (As := [.int (zI ((k : Nat) : Int))]) (rest := []) (n := 1) (c_X10_fresh (k := k) ht0 hsa hw (by first | omega | with_reducible rfl) (by first | omega | with_reducible rfl) (by first | omega | with_reducible rfl) (by first | omega | with_reducible rfl)) gX10_stratum_X10_findFresh rfl rfl rfl (by decide +kernel) ⟨Nat.le_of_ble_eq_true rfl, Nat.le_of_ble_eq_true rfl⟩ rfl (by first | omega | with_reducible rfl) ht0 rfl (Nat.le_of_ble_eq_true rfl) ⟨Nat.zero_le _, Nat.zero_le _⟩ dX10_stratum_2 rfl (fun g_1 hp_2 => ?_)
  obtain ⟨hw_3, hf_4⟩ := hp_2
  have ht0_5 : vTop cy B g_1 0 la := vTop_fr ht0 (fun q h1 h2 => hf_4 q (by omega))
  have hsa_6 : vSA cy B g_1 62  := vSA_fr hsa (fun q h1 h2 => hf_4 q (by omega))
  have hfr_7 : ∀ q, (q < (63 + 26 * k) ∨ (63 + 26 * k) + 26 ≤ q) → g_1 q = g q := fun q hq => (hf_4 q (by omega)).trans (hfr_0 q hq)
  refine w_as (st' := [.ref (B + (63 + 26 * k))]) (sc_r rfl rfl) ?_
  refine w_astore_n [(3, .ref (B + (63 + 26 * k))), (0, .ref (B + 0)), (1, .int (zI ((k : Nat) : Int))), (2, .int (zI what))] dX10_stratum_5 rfl (by decide) rfl ?_
  refine w_aload_n dX10_stratum_6 rfl 0 rfl ?_
  refine w_ifnonnull 12 dX10_stratum_7 (by decide) ?_
  refine w_iload_n dX10_stratum_12 rfl 3 rfl ?_
  by_cases c_13 : what < 0 ∨ 6 < what
  · refine w_tout 119 dX10_stratum_13 (by first | omega | with_reducible rfl) c_13 (by decide) ?_
    refine w_iconst dX10_stratum_119 ?_
    exact w_iret dX10_stratum_120 rfl (by unfold aStr; rw [if_neg (by omega), if_neg (by omega), if_neg (by omega), if_neg (by omega), if_neg (by omega), if_neg (by omega), if_neg (by omega)]) ⟨hw_3, hfr_7⟩
  · rcases (show what = 0 ∨ what = 1 ∨ what = 2 ∨ what = 3 ∨ what = 4 ∨ what = 5 ∨ what = 6 by omega) with c_13 | c_13 | c_13 | c_13 | c_13 | c_13 | c_13
    · refine w_tin (z := what) (off := 43) 56 dX10_stratum_13 (by first | omega | with_reducible rfl) (by omega) (by omega) (by rw [c_13]; rfl) (by decide) ?_
      refine w_aload_n dX10_stratum_56 rfl 0 rfl ?_
      refine w_get (i := 0) (T := TX7) (NF := 4) (63 + 26 * k) (by first | omega | with_reducible rfl) (vSW_str hw_3) rfl (fun _ h => (List.mem_cons_of_mem _ (List.mem_append_left _ (List.mem_append_left _ (List.mem_append_left _ (List.mem_append_right _ h)))))) (by decide) (List.mem_of_getElem? (i := 1) rfl) rfl dX10_stratum_57 ?_
      obtain ⟨fx_10, hfx_10⟩ := vSW_col hw_3
      refine w_calli (As := []) (rest := []) (n := 0) (w_X0_size hw_3 (by first | omega | with_reducible rfl)) gX10_stratum_X0_size rfl rfl rfl (by decide +kernel) ⟨Nat.le_of_ble_eq_true rfl, Nat.le_of_ble_eq_true rfl⟩ rfl (by first | omega | with_reducible rfl) hfx_10 rfl (Nat.le_of_ble_eq_true rfl) ⟨Nat.zero_le _, Nat.zero_le _⟩ dX10_stratum_60 rfl (fun g_8 hp_9 => ?_)
      subst g_8
      exact w_iret dX10_stratum_63 rfl (by unfold aStr; rw [if_pos c_13]) ⟨hw_3, hfr_7⟩
    · refine w_tin (z := what) (off := 51) 64 dX10_stratum_13 (by first | omega | with_reducible rfl) (by omega) (by omega) (by rw [c_13]; rfl) (by decide) ?_
      refine w_aload_n dX10_stratum_64 rfl 0 rfl ?_
      refine w_get (i := 0) (T := TX7) (NF := 4) (63 + 26 * k) (by first | omega | with_reducible rfl) (vSW_str hw_3) rfl (fun _ h => (List.mem_cons_of_mem _ (List.mem_append_left _ (List.mem_append_left _ (List.mem_append_left _ (List.mem_append_right _ h)))))) (by decide) (List.mem_of_getElem? (i := 1) rfl) rfl dX10_stratum_65 ?_
      obtain ⟨fx_13, hfx_13⟩ := vSW_col hw_3
      refine w_calli (As := []) (rest := []) (n := 0) (w_X0_allTotal hw_3 (by first | omega | with_reducible rfl) (by first | omega | with_reducible rfl)) gX10_stratum_X0_allTotal rfl rfl rfl (by decide +kernel) ⟨Nat.le_of_ble_eq_true rfl, Nat.le_of_ble_eq_true rfl⟩ rfl (by first | omega | with_reducible rfl) hfx_13 rfl (Nat.le_of_ble_eq_true rfl) ⟨Nat.zero_le _, Nat.zero_le _⟩ dX10_stratum_68 rfl (fun g_11 hp_12 => ?_)
      subst g_11
      exact w_iret dX10_stratum_71 rfl (by unfold aStr; rw [if_neg (by omega), if_pos c_13]) ⟨hw_3, hfr_7⟩
    · refine w_tin (z := what) (off := 59) 72 dX10_stratum_13 (by first | omega | with_reducible rfl) (by omega) (by omega) (by rw [c_13]; rfl) (by decide) ?_
      refine w_aload_n dX10_stratum_72 rfl 0 rfl ?_
      refine w_get (i := 0) (T := TX7) (NF := 4) (63 + 26 * k) (by first | omega | with_reducible rfl) (vSW_str hw_3) rfl (fun _ h => (List.mem_cons_of_mem _ (List.mem_append_left _ (List.mem_append_left _ (List.mem_append_left _ (List.mem_append_right _ h)))))) (by decide) (List.mem_of_getElem? (i := 1) rfl) rfl dX10_stratum_73 ?_
      obtain ⟨fx_16, hfx_16⟩ := vSW_col hw_3
      refine w_calli (As := []) (rest := []) (n := 0) (w_X0_allAbove hw_3 (by first | omega | with_reducible rfl) (by first | omega | with_reducible rfl)) gX10_stratum_X0_allAbove rfl rfl rfl (by decide +kernel) ⟨Nat.le_of_ble_eq_true rfl, Nat.le_of_ble_eq_true rfl⟩ rfl (by first | omega | with_reducible rfl) hfx_16 rfl (Nat.le_of_ble_eq_true rfl) ⟨Nat.zero_le _, Nat.zero_le _⟩ dX10_stratum_76 rfl (fun g_14 hp_15 => ?_)
      subst g_14
      exact w_iret dX10_stratum_79 rfl (by unfold aStr; rw [if_neg (by omega), if_neg (by omega), if_pos c_13]) ⟨hw_3, hfr_7⟩
    · refine w_tin (z := what) (off := 67) 80 dX10_stratum_13 (by first | omega | with_reducible rfl) (by omega) (by omega) (by rw [c_13]; rfl) (by decide) ?_
      refine w_aload_n dX10_stratum_80 rfl 0 rfl ?_
      refine w_get (i := 0) (T := TX7) (NF := 4) (63 + 26 * k) (by first | omega | with_reducible rfl) (vSW_str hw_3) rfl (fun _ h => (List.mem_cons_of_mem _ (List.mem_append_left _ (List.mem_append_left _ (List.mem_append_left _ (List.mem_append_right _ h)))))) (by decide) (List.mem_of_getElem? (i := 1) rfl) rfl dX10_stratum_81 ?_
      obtain ⟨fx_19, hfx_19⟩ := vSW_col hw_3
      refine w_calli (As := []) (rest := []) (n := 0) (w_X0_seenSum hw_3 (by first | omega | with_reducible rfl) (by first | omega | with_reducible rfl)) gX10_stratum_X0_seenSum rfl rfl rfl (by decide +kernel) ⟨Nat.le_of_ble_eq_true rfl, Nat.le_of_ble_eq_true rfl⟩ rfl (by first | omega | with_reducible rfl) hfx_19 rfl (Nat.le_of_ble_eq_true rfl) ⟨Nat.zero_le _, Nat.zero_le _⟩ dX10_stratum_84 rfl (fun g_17 hp_18 => ?_)
      subst g_17
      exact w_iret dX10_stratum_87 rfl (by unfold aStr; rw [if_neg (by omega), if_neg (by omega), if_neg (by omega), if_pos c_13]) ⟨hw_3, hfr_7⟩
    · refine w_tin (z := what) (off := 75) 88 dX10_stratum_13 (by first | omega | with_reducible rfl) (by omega) (by omega) (by rw [c_13]; rfl) (by decide) ?_
      refine w_aload_n dX10_stratum_88 rfl 0 rfl ?_
      refine w_calli (As := []) (rest := []) (n := 0) (w_X7_tableCount hw_3 (by first | omega | with_reducible rfl) (by first | omega | with_reducible rfl) (by first | omega | with_reducible rfl)) gX10_stratum_X7_tableCount rfl rfl rfl (by decide +kernel) ⟨Nat.le_of_ble_eq_true rfl, Nat.le_of_ble_eq_true rfl⟩ rfl (by first | omega | with_reducible rfl) (vSW_str hw_3) rfl (Nat.le_of_ble_eq_true rfl) ⟨Nat.zero_le _, Nat.zero_le _⟩ dX10_stratum_89 rfl (fun g_20 hp_21 => ?_)
      subst g_20
      exact w_iret dX10_stratum_92 rfl (by unfold aStr; rw [if_neg (by omega), if_neg (by omega), if_neg (by omega), if_neg (by omega), if_pos c_13]) ⟨hw_3, hfr_7⟩
    · refine w_tin (z := what) (off := 80) 93 dX10_stratum_13 (by first | omega | with_reducible rfl) (by omega) (by omega) (by rw [c_13]; rfl) (by decide) ?_
      refine w_aload_n dX10_stratum_93 rfl 0 rfl ?_
      refine w_get (i := 1) (T := TX7) (NF := 4) (63 + 26 * k) (by first | omega | with_reducible rfl) (vSW_str hw_3) rfl (fun _ h => (List.mem_cons_of_mem _ (List.mem_append_left _ (List.mem_append_left _ (List.mem_append_left _ (List.mem_append_right _ h)))))) (by decide) (List.mem_of_getElem? (i := 2) rfl) rfl dX10_stratum_94 ?_
      refine w_bipush dX10_stratum_97 (by decide) ?_
      refine w_iconst dX10_stratum_99 ?_
      refine w_iconst dX10_stratum_100 ?_
      obtain ⟨fx_24, hfx_24⟩ := vSW_net hw_3
      refine w_calll (As := [.int (zI 6), .int (zI 0), .int (zI 0)]) (rest := []) (n := 3) (w_X2_at0 (kd := 6) hw_3 (by first | omega | with_reducible rfl) (by first | omega | with_reducible rfl) (by first | omega | with_reducible rfl) (by first | omega | with_reducible rfl)) gX10_stratum_X2_at rfl rfl rfl (by decide +kernel) ⟨Nat.le_of_ble_eq_true rfl, Nat.le_of_ble_eq_true rfl⟩ rfl (by first | omega | with_reducible rfl) hfx_24 rfl (Nat.le_of_ble_eq_true rfl) ⟨Nat.zero_le _, Nat.zero_le _⟩ dX10_stratum_101 rfl (fun g_22 hp_23 => ?_)
      subst g_22
      have hle := les_rg (cs := coL c) (r := coR c)
      have hco := coL_S hc
      have hgr := grs_rg (r := coR c) hco.1
      refine w_as (st' := [.long (zJ (les (coL c) (coR c)))]) (sc_l rfl rfl) ?_
      refine w_l2i dX10_stratum_104 (by first | omega | with_reducible rfl) ?_
      exact w_iret dX10_stratum_105 rfl (by unfold aStr; rw [if_neg (by omega), if_neg (by omega), if_neg (by omega), if_neg (by omega), if_neg (by omega), if_pos c_13]) ⟨hw_3, hfr_7⟩
    · refine w_tin (z := what) (off := 93) 106 dX10_stratum_13 (by first | omega | with_reducible rfl) (by omega) (by omega) (by rw [c_13]; rfl) (by decide) ?_
      refine w_aload_n dX10_stratum_106 rfl 0 rfl ?_
      refine w_get (i := 1) (T := TX7) (NF := 4) (63 + 26 * k) (by first | omega | with_reducible rfl) (vSW_str hw_3) rfl (fun _ h => (List.mem_cons_of_mem _ (List.mem_append_left _ (List.mem_append_left _ (List.mem_append_left _ (List.mem_append_right _ h)))))) (by decide) (List.mem_of_getElem? (i := 2) rfl) rfl dX10_stratum_107 ?_
      refine w_bipush dX10_stratum_110 (by decide) ?_
      refine w_iconst dX10_stratum_112 ?_
      refine w_iconst dX10_stratum_113 ?_
      obtain ⟨fx_27, hfx_27⟩ := vSW_net hw_3
      refine w_calll (As := [.int (zI 7), .int (zI 0), .int (zI 0)]) (rest := []) (n := 3) (w_X2_at0 (kd := 7) hw_3 (by first | omega | with_reducible rfl) (by first | omega | with_reducible rfl) (by first | omega | with_reducible rfl) (by first | omega | with_reducible rfl)) gX10_stratum_X2_at rfl rfl rfl (by decide +kernel) ⟨Nat.le_of_ble_eq_true rfl, Nat.le_of_ble_eq_true rfl⟩ rfl (by first | omega | with_reducible rfl) hfx_27 rfl (Nat.le_of_ble_eq_true rfl) ⟨Nat.zero_le _, Nat.zero_le _⟩ dX10_stratum_114 rfl (fun g_25 hp_26 => ?_)
      subst g_25
      have hle := les_rg (cs := coL c) (r := coR c)
      have hco := coL_S hc
      have hgr := grs_rg (r := coR c) hco.1
      refine w_as (st' := [.long (zJ (grs (coL c) (coR c)))]) (sc_l rfl rfl) ?_
      refine w_l2i dX10_stratum_117 (by first | omega | with_reducible rfl) ?_
      exact w_iret dX10_stratum_118 rfl (by unfold aStr; rw [if_neg (by omega), if_neg (by omega), if_neg (by omega), if_neg (by omega), if_neg (by omega), if_neg (by omega), if_pos c_13]) ⟨hw_3, hfr_7⟩

set_option maxHeartbeats 4000000 in
set_option maxRecDepth 100000 in
theorem n_X10_ways {l : Launch} {D : va_G} {cy : Nat → ClassId} {B N : Nat} {g : Nat → va_E} {la : Nat} {s what : Int} (ht0 : vTop cy B g 0 la) (hsa : vSA cy B g 62 ) (hN : 141 ≤ N) (hla : la ≤ 3) (h_s : -2147483648 ≤ s ∧ s < 2147483648) (hs : ¬ (0 ≤ s ∧ s < la)) (h_what : -2147483648 ≤ what ∧ what < 2147483648) : CTl l yX10_ways wsX10_ways (rmo 6 161) D cy B N g [.ref (B + 0), .int (zI s), .int (zI what)] (-1) (fun g' => g' = g) := by
  refine WW_of (cc := cX10_ways) (maxL := 4) (ret := (some .long)) (own := RX10) (by decide) rfl rfl (Nat.le_of_ble_eq_true rfl) rfl ?_
  intro pp ee ss mm bl me co hmn
  refine w_aload_n dX10_ways_0 rfl 0 rfl ?_
  refine w_iload_n dX10_ways_1 rfl 1 rfl ?_
  refine w_callq (As := [.int (zI s)]) (rest := []) (n := 1) (c_X10_freshN ht0 hsa (by first | omega | with_reducible rfl) (by first | omega | with_reducible rfl) (by first | omega | with_reducible rfl) (by first | omega | with_reducible rfl)) gX10_ways_X10_findFresh rfl rfl rfl (by decide +kernel) ⟨Nat.le_of_ble_eq_true rfl, Nat.le_of_ble_eq_true rfl⟩ rfl (by first | omega | with_reducible rfl) ht0 rfl (Nat.le_of_ble_eq_true rfl) ⟨Nat.zero_le _, Nat.zero_le _⟩ dX10_ways_2 rfl (fun g_1 hp_2 => ?_)
  subst g_1
  refine w_astore_nN [(3, .null), (0, .ref (B + 0)), (1, .int (zI s)), (2, .int (zI what))] dX10_ways_5 rfl (by decide) rfl ?_
  refine w_aload_nN dX10_ways_6 rfl 0 rfl ?_
  refine w_ifnonnullN dX10_ways_7 ?_
  refine w_ldc2 (z := -1) (List.mem_of_getElem? (i := 1) rfl) dX10_ways_10 ?_
  exact w_lret dX10_ways_13 rfl (by first | with_reducible rfl | omega | (split <;> omega)) rfl
set_option maxHeartbeats 4000000 in
set_option maxRecDepth 100000 in
theorem y_X10_ways {l : Launch} {D : va_G} {cy : Nat → ClassId} {B N : Nat} {g : Nat → va_E} {la k : Nat} {c : List Co} {M : Int} {fr : Nat} {what : Int} (ht0 : vTop cy B g 0 la) (hsa : vSA cy B g 62 ) (hw : vSW cy B g (63 + 26 * k) c M fr) (hN : 141 ≤ N) (hk : k < la ∧ la ≤ 3) (hM : M < 2147483648) (hc : cok c) (h2 : 2 ≤ c.length) (h_what : -2147483648 ≤ what ∧ what < 2147483648) : CTl l yX10_ways wsX10_ways (rmo 6 161) D cy B N g [.ref (B + 0), .int (zI ((k : Nat) : Int)), .int (zI what)] (aWay c what) (fun g' => vSW cy B g' (63 + 26 * k) c M 1 ∧ (∀ q, (q < (63 + 26 * k) ∨ (63 + 26 * k) + 26 ≤ q) → g' q = g q)) := by
  refine WW_of (cc := cX10_ways) (maxL := 4) (ret := (some .long)) (own := RX10) (by decide) rfl rfl (Nat.le_of_ble_eq_true rfl) rfl ?_
  intro pp ee ss mm bl me co hmn
  have hfr_0 : ∀ q, (q < (63 + 26 * k) ∨ (63 + 26 * k) + 26 ≤ q) → g q = g q := fun _ _ => rfl
  refine w_aload_n dX10_ways_0 rfl 0 rfl ?_
  refine w_iload_n dX10_ways_1 rfl 1 rfl ?_
  refine w_callq (As := [.int (zI ((k : Nat) : Int))]) (rest := []) (n := 1) (c_X10_fresh (k := k) ht0 hsa hw (by first | omega | with_reducible rfl) (by first | omega | with_reducible rfl) (by first | omega | with_reducible rfl) (by first | omega | with_reducible rfl)) gX10_ways_X10_findFresh rfl rfl rfl (by decide +kernel) ⟨Nat.le_of_ble_eq_true rfl, Nat.le_of_ble_eq_true rfl⟩ rfl (by first | omega | with_reducible rfl) ht0 rfl (Nat.le_of_ble_eq_true rfl) ⟨Nat.zero_le _, Nat.zero_le _⟩ dX10_ways_2 rfl (fun g_1 hp_2 => ?_)
  obtain ⟨hw_3, hf_4⟩ := hp_2
  have ht0_5 : vTop cy B g_1 0 la := vTop_fr ht0 (fun q h1 h2 => hf_4 q (by omega))
  have hsa_6 : vSA cy B g_1 62  := vSA_fr hsa (fun q h1 h2 => hf_4 q (by omega))
  have hfr_7 : ∀ q, (q < (63 + 26 * k) ∨ (63 + 26 * k) + 26 ≤ q) → g_1 q = g q := fun q hq => (hf_4 q (by omega)).trans (hfr_0 q hq)
  refine w_as (st' := [.ref (B + (63 + 26 * k))]) (sc_r rfl rfl) ?_
  refine w_astore_n [(3, .ref (B + (63 + 26 * k))), (0, .ref (B + 0)), (1, .int (zI ((k : Nat) : Int))), (2, .int (zI what))] dX10_ways_5 rfl (by decide) rfl ?_
  refine w_aload_n dX10_ways_6 rfl 0 rfl ?_
  refine w_ifnonnull 14 dX10_ways_7 (by decide) ?_
  refine w_iload_n dX10_ways_14 rfl 3 rfl ?_
  by_cases c_15 : what < 0 ∨ 3 < what
  · refine w_tout 79 dX10_ways_15 (by first | omega | with_reducible rfl) c_15 (by decide) ?_
    refine w_ldc2 (z := -1) (List.mem_of_getElem? (i := 1) rfl) dX10_ways_79 ?_
    exact w_lret dX10_ways_82 rfl (by unfold aWay; rw [if_neg (by omega), if_neg (by omega), if_neg (by omega), if_neg (by omega)]) ⟨hw_3, hfr_7⟩
  · rcases (show what = 0 ∨ what = 1 ∨ what = 2 ∨ what = 3 by omega) with c_15 | c_15 | c_15 | c_15
    · refine w_tin (z := what) (off := 29) 44 dX10_ways_15 (by first | omega | with_reducible rfl) (by omega) (by omega) (by rw [c_15]; rfl) (by decide) ?_
      refine w_aload_n dX10_ways_44 rfl 0 rfl ?_
      refine w_get (i := 0) (T := TX7) (NF := 4) (63 + 26 * k) (by first | omega | with_reducible rfl) (vSW_str hw_3) rfl (fun _ h => (List.mem_cons_of_mem _ (List.mem_append_left _ (List.mem_append_left _ (List.mem_append_left _ (List.mem_append_right _ h)))))) (by decide) (List.mem_of_getElem? (i := 2) rfl) rfl dX10_ways_45 ?_
      obtain ⟨fx_10, hfx_10⟩ := vSW_col hw_3
      refine w_calll (As := []) (rest := []) (n := 0) (w_X0_seenWays hw_3 (by first | omega | with_reducible rfl) (by first | omega | with_reducible rfl)) gX10_ways_X0_seenWays rfl rfl rfl (by decide +kernel) ⟨Nat.le_of_ble_eq_true rfl, Nat.le_of_ble_eq_true rfl⟩ rfl (by first | omega | with_reducible rfl) hfx_10 rfl (Nat.le_of_ble_eq_true rfl) ⟨Nat.zero_le _, Nat.zero_le _⟩ dX10_ways_48 rfl (fun g_8 hp_9 => ?_)
      subst g_8
      exact w_lret dX10_ways_51 rfl (by unfold aWay; rw [if_pos c_15]) ⟨hw_3, hfr_7⟩
    · refine w_tin (z := what) (off := 37) 52 dX10_ways_15 (by first | omega | with_reducible rfl) (by omega) (by omega) (by rw [c_15]; rfl) (by decide) ?_
      refine w_aload_n dX10_ways_52 rfl 0 rfl ?_
      refine w_calll (As := []) (rest := []) (n := 0) (w_X7_allWays hw_3 (by first | omega | with_reducible rfl) (by first | omega | with_reducible rfl) (by first | omega | with_reducible rfl)) gX10_ways_X7_allWays rfl rfl rfl (by decide +kernel) ⟨Nat.le_of_ble_eq_true rfl, Nat.le_of_ble_eq_true rfl⟩ rfl (by first | omega | with_reducible rfl) (vSW_str hw_3) rfl (Nat.le_of_ble_eq_true rfl) ⟨Nat.zero_le _, Nat.zero_le _⟩ dX10_ways_53 rfl (fun g_11 hp_12 => ?_)
      subst g_11
      exact w_lret dX10_ways_56 rfl (by unfold aWay; rw [if_neg (by omega), if_pos c_15]) ⟨hw_3, hfr_7⟩
    · refine w_tin (z := what) (off := 42) 57 dX10_ways_15 (by first | omega | with_reducible rfl) (by omega) (by omega) (by rw [c_15]; rfl) (by decide) ?_
      refine w_aload_n dX10_ways_57 rfl 0 rfl ?_
      refine w_get (i := 1) (T := TX7) (NF := 4) (63 + 26 * k) (by first | omega | with_reducible rfl) (vSW_str hw_3) rfl (fun _ h => (List.mem_cons_of_mem _ (List.mem_append_left _ (List.mem_append_left _ (List.mem_append_left _ (List.mem_append_right _ h)))))) (by decide) (List.mem_of_getElem? (i := 3) rfl) rfl dX10_ways_58 ?_
      refine w_iconst dX10_ways_61 ?_
      refine w_iconst dX10_ways_62 ?_
      refine w_iconst dX10_ways_63 ?_
      obtain ⟨fx_15, hfx_15⟩ := vSW_net hw_3
      refine w_calll (As := [.int (zI 2), .int (zI 0), .int (zI 0)]) (rest := []) (n := 3) (w_X2_at0 (kd := 2) hw_3 (by first | omega | with_reducible rfl) (by first | omega | with_reducible rfl) (by first | omega | with_reducible rfl) (by first | omega | with_reducible rfl)) gX10_ways_X2_at rfl rfl rfl (by decide +kernel) ⟨Nat.le_of_ble_eq_true rfl, Nat.le_of_ble_eq_true rfl⟩ rfl (by first | omega | with_reducible rfl) hfx_15 rfl (Nat.le_of_ble_eq_true rfl) ⟨Nat.zero_le _, Nat.zero_le _⟩ dX10_ways_64 rfl (fun g_13 hp_14 => ?_)
      subst g_13
      refine w_as (st' := [.long (zJ (lg (coL c) (coR c)))]) (sc_l rfl rfl) ?_
      exact w_lret dX10_ways_67 rfl (by unfold aWay; rw [if_neg (by omega), if_neg (by omega), if_pos c_15]) ⟨hw_3, hfr_7⟩
    · refine w_tin (z := what) (off := 53) 68 dX10_ways_15 (by first | omega | with_reducible rfl) (by omega) (by omega) (by rw [c_15]; rfl) (by decide) ?_
      refine w_aload_n dX10_ways_68 rfl 0 rfl ?_
      refine w_get (i := 1) (T := TX7) (NF := 4) (63 + 26 * k) (by first | omega | with_reducible rfl) (vSW_str hw_3) rfl (fun _ h => (List.mem_cons_of_mem _ (List.mem_append_left _ (List.mem_append_left _ (List.mem_append_left _ (List.mem_append_right _ h)))))) (by decide) (List.mem_of_getElem? (i := 3) rfl) rfl dX10_ways_69 ?_
      refine w_iconst dX10_ways_72 ?_
      refine w_iconst dX10_ways_73 ?_
      refine w_iconst dX10_ways_74 ?_
      obtain ⟨fx_18, hfx_18⟩ := vSW_net hw_3
      refine w_calll (As := [.int (zI 3), .int (zI 0), .int (zI 0)]) (rest := []) (n := 3) (w_X2_at0 (kd := 3) hw_3 (by first | omega | with_reducible rfl) (by first | omega | with_reducible rfl) (by first | omega | with_reducible rfl) (by first | omega | with_reducible rfl)) gX10_ways_X2_at rfl rfl rfl (by decide +kernel) ⟨Nat.le_of_ble_eq_true rfl, Nat.le_of_ble_eq_true rfl⟩ rfl (by first | omega | with_reducible rfl) hfx_18 rfl (Nat.le_of_ble_eq_true rfl) ⟨Nat.zero_le _, Nat.zero_le _⟩ dX10_ways_75 rfl (fun g_16 hp_17 => ?_)
      subst g_16
      refine w_as (st' := [.long (zJ (sh (coL c) (coR c)))]) (sc_l rfl rfl) ?_
      exact w_lret dX10_ways_78 rfl (by unfold aWay; rw [if_neg (by omega), if_neg (by omega), if_neg (by omega), if_pos c_15]) ⟨hw_3, hfr_7⟩

set_option maxHeartbeats 4000000 in
set_option maxRecDepth 100000 in
theorem c_X10_commonDivisor {l : Launch} {D : va_G} {cy : Nat → ClassId} {B N : Nat} {g : Nat → va_E} {x y : Nat} (hx : x < 9223372036854775808) (hy : y < 9223372036854775808) : CTl l yX10_commonDivisor wsX10_commonDivisor (rmo 0 0) D cy B N g [.long (zJ ((x : Nat) : Int)), .long (zJ ((y : Nat) : Int))] ((Nat.gcd x y : Nat) : Int) (fun g' => g' = g) := by
  refine WW_of (cc := cX10_commonDivisor) (maxL := 11) (ret := (some .long)) (own := RX10) (by decide) rfl rfl (Nat.le_of_ble_eq_true rfl) rfl ?_
  intro pp ee ss mm bl me co hmn
  refine w_lload_n dX10_commonDivisor_0 rfl 0 rfl ?_
  refine w_lstore [(4, .long (zJ ((x : Nat) : Int))), (0, .long (zJ ((x : Nat) : Int))), (2, .long (zJ ((y : Nat) : Int)))] dX10_commonDivisor_1 (by decide) rfl ?_
  refine w_lload_n dX10_commonDivisor_3 rfl 2 rfl ?_
  refine w_lstore [(6, .long (zJ ((y : Nat) : Int))), (4, .long (zJ ((x : Nat) : Int))), (0, .long (zJ ((x : Nat) : Int))), (2, .long (zJ ((y : Nat) : Int)))] dX10_commonDivisor_4 (by decide) rfl ?_
  refine w_iconst dX10_commonDivisor_6 ?_
  refine w_istore [(8, .int (zI 0)), (6, .long (zJ ((y : Nat) : Int))), (4, .long (zJ ((x : Nat) : Int))), (0, .long (zJ ((x : Nat) : Int))), (2, .long (zJ ((y : Nat) : Int)))] dX10_commonDivisor_7 (by decide) rfl ?_
  refine w_sub [(4, .long (zJ ((x : Nat) : Int))), (6, .long (zJ ((y : Nat) : Int))), (8, .int (zI 0))] [2, 1, 0] rfl ?_
  refine w_lv (lv' := [(4, .long (zJ ((x : Nat) : Int))), (6, .long (zJ ((y : Nat) : Int))), (8, .int (zI ((0 : Nat) : Int)))]) (lc_l (by first | omega | with_reducible rfl) (lc_l (by first | omega | with_reducible rfl) (lc_i (by first | omega | with_reducible rfl) rfl))) ?_
  refine w_loop3 (fun (i : Nat) (p : Nat) (q : Nat) => i ≤ 100 ∧ Nat.gcd p q = Nat.gcd x y ∧ p < 9223372036854775808 ∧ q < 9223372036854775808 ∧ (i = 0 ∨ (q < p ∧ (p < fb (102 - i) ∨ q < fb (101 - i))))) (fun (i : Nat) (p : Nat) (q : Nat) => 100 - i) (fun (i : Nat) (p : Nat) (q : Nat) => g) (fun (i : Nat) (p : Nat) (q : Nat) => [(4, .long (zJ ((p : Nat) : Int))), (6, .long (zJ ((q : Nat) : Int))), (8, .int (zI ((i : Nat) : Int)))]) ?_ 0 x y ⟨(by first | omega | with_reducible rfl), rfl, (by first | omega | with_reducible rfl), (by first | omega | with_reducible rfl), (Or.inl rfl)⟩
  rintro i p q ⟨hi, hg, hp, hq, hf⟩ ih_9
  refine w_iload dX10_commonDivisor_9 2 rfl ?_
  refine w_bipush dX10_commonDivisor_11 (by decide) ?_
  refine w_icmp_ge 44 dX10_commonDivisor_13 (by decide) (by first | omega | with_reducible rfl) (by first | omega | with_reducible rfl) (fun c_13 => ?_) (fun c_13 => ?_)
  · have hq0 : q = 0 := fb_end ⟨by omega, hi⟩ hf
    refine w_lload dX10_commonDivisor_44 0 rfl ?_
    exact w_lret dX10_commonDivisor_46 rfl (by rw [← hg, hq0, Nat.gcd_zero_right]) rfl
  · refine w_lload dX10_commonDivisor_16 1 rfl ?_
    refine w_lconst0 dX10_commonDivisor_18 ?_
    refine w_lcmp_eq 44 dX10_commonDivisor_19 dX10_commonDivisor_20 (by decide) (by first | omega | with_reducible rfl) (by first | omega | with_reducible rfl) (fun c_19 => ?_) (fun c_19 => ?_)
    · have hq0 : q = 0 := by omega
      refine w_lload dX10_commonDivisor_44 0 rfl ?_
      exact w_lret dX10_commonDivisor_46 rfl (by rw [← hg, hq0, Nat.gcd_zero_right]) rfl
    · refine w_lload dX10_commonDivisor_23 0 rfl ?_
      refine w_lload dX10_commonDivisor_25 1 rfl ?_
      have hmq : p % q < 9223372036854775808 := Nat.lt_of_le_of_lt (Nat.mod_le p q) hp
      refine w_lrem dX10_commonDivisor_27 (by first | omega | with_reducible rfl) (by first | omega | with_reducible rfl) ?_
      refine w_as (st' := [.long (zJ (((p % q) : Nat) : Int))]) (sc_l rfl rfl) ?_
      refine w_lstore [(9, .long (zJ (((p % q) : Nat) : Int))), (4, .long (zJ ((p : Nat) : Int))), (6, .long (zJ ((q : Nat) : Int))), (8, .int (zI ((i : Nat) : Int)))] dX10_commonDivisor_28 (by decide) rfl ?_
      refine w_lload dX10_commonDivisor_30 2 rfl ?_
      refine w_lstore [(4, .long (zJ ((q : Nat) : Int))), (9, .long (zJ (((p % q) : Nat) : Int))), (6, .long (zJ ((q : Nat) : Int))), (8, .int (zI ((i : Nat) : Int)))] dX10_commonDivisor_32 (by decide) rfl ?_
      refine w_lload dX10_commonDivisor_34 1 rfl ?_
      refine w_lstore [(6, .long (zJ (((p % q) : Nat) : Int))), (4, .long (zJ ((q : Nat) : Int))), (9, .long (zJ (((p % q) : Nat) : Int))), (8, .int (zI ((i : Nat) : Int)))] dX10_commonDivisor_36 (by decide) rfl ?_
      refine w_iinc 3 [(8, .int (zI (((i : Nat) : Int) + 1))), (6, .long (zJ (((p % q) : Nat) : Int))), (4, .long (zJ ((q : Nat) : Int))), (9, .long (zJ (((p % q) : Nat) : Int)))] dX10_commonDivisor_38 rfl (by decide) rfl ?_
      refine w_goto 9 dX10_commonDivisor_41 (by decide) ?_
      refine w_sub [(4, .long (zJ ((q : Nat) : Int))), (6, .long (zJ (((p % q) : Nat) : Int))), (8, .int (zI (((i : Nat) : Int) + 1)))] [2, 1, 0] rfl ?_
      refine w_lv (lv' := [(4, .long (zJ ((q : Nat) : Int))), (6, .long (zJ (((p % q) : Nat) : Int))), (8, .int (zI (((i + 1) : Nat) : Int)))]) (lc_l (by first | omega | with_reducible rfl) (lc_l (by first | omega | with_reducible rfl) (lc_i (by first | omega | with_reducible rfl) rfl))) ?_
      exact ih_9 (i + 1) q (p % q) ⟨(by first | omega | with_reducible rfl), (by rw [← hg, Nat.gcd_comm p q, Nat.gcd_rec q p, Nat.gcd_comm]), (by first | omega | with_reducible rfl), hmq, (fb_step (by omega) (by omega) hq hf)⟩ (by first | omega | with_reducible rfl)

set_option maxHeartbeats 4000000 in
set_option maxRecDepth 100000 in
theorem c_X10_inLowestTerms {l : Launch} {D : va_G} {cy : Nat → ClassId} {B N : Nat} {g : Nat → va_E} {x y : Nat} {part : Int} (hx : x < 9223372036854775808) (hy : y < 9223372036854775808) (hy0 : 0 < y) (h_part : -2147483648 ≤ part ∧ part < 2147483648) : CTl l yX10_inLowestTerms wsX10_inLowestTerms (rmo 1 30) D cy B N g [.long (zJ ((x : Nat) : Int)), .long (zJ ((y : Nat) : Int)), .int (zI part)] (lowT ((x : Nat) : Int) ((y : Nat) : Int) part) (fun g' => g' = g) := by
  refine WW_of (cc := cX10_inLowestTerms) (maxL := 7) (ret := (some .long)) (own := RX10) (by decide) rfl rfl (Nat.le_of_ble_eq_true rfl) rfl ?_
  intro pp ee ss mm bl me co hmn
  refine w_lload_n dX10_inLowestTerms_0 rfl 0 rfl ?_
  refine w_lload_n dX10_inLowestTerms_1 rfl 1 rfl ?_
  refine w_calllS (As := [.long (zJ ((x : Nat) : Int)), .long (zJ ((y : Nat) : Int))]) (rest := []) (n := 2) (c_X10_commonDivisor (x := x) (y := y) (by first | omega | with_reducible rfl) (by first | omega | with_reducible rfl)) gX10_inLowestTerms_X10_commonDivisor rfl rfl rfl (by decide +kernel) ⟨Nat.le_of_ble_eq_true rfl, Nat.le_of_ble_eq_true rfl⟩ rfl (Nat.le_of_ble_eq_true rfl) ⟨Nat.zero_le _, Nat.zero_le _⟩ dX10_inLowestTerms_2 rfl (fun g_1 hp_2 => ?_)
  subst g_1
  have hg0 : 0 < Nat.gcd x y := Nat.gcd_pos_of_pos_right _ hy0
  have hg1 : Nat.gcd x y ≤ y := Nat.gcd_le_right _ hy0
  refine w_lstore [(5, .long (zJ ((Nat.gcd x y : Nat) : Int))), (0, .long (zJ ((x : Nat) : Int))), (2, .long (zJ ((y : Nat) : Int))), (4, .int (zI part))] dX10_inLowestTerms_5 (by decide) rfl ?_
  refine w_lload dX10_inLowestTerms_7 0 rfl ?_
  refine w_lconst0 dX10_inLowestTerms_9 ?_
  refine w_lcmp_ne 18 dX10_inLowestTerms_10 dX10_inLowestTerms_11 (by decide) (by first | omega | with_reducible rfl) (by first | omega | with_reducible rfl) (fun c_10 => ?_) (fun c_10 => ?_)
  · refine w_iload dX10_inLowestTerms_18 3 rfl ?_
    refine w_if_ne 27 dX10_inLowestTerms_20 (by decide) (by first | omega | with_reducible rfl) (fun c_20 => ?_) (fun c_20 => ?_)
    · refine w_lload_n dX10_inLowestTerms_27 rfl 2 rfl ?_
      refine w_lload dX10_inLowestTerms_28 0 rfl ?_
      refine w_ldiv dX10_inLowestTerms_30 (by first | omega | with_reducible rfl) (by first | omega | with_reducible rfl) ?_
      exact w_lret dX10_inLowestTerms_31 rfl (by unfold lowT; rw [Int.toNat_natCast, Int.toNat_natCast]; first | (rw [if_pos (by omega)]; rfl) | (rw [if_neg (by omega)]; rfl)) rfl
    · refine w_lload_n dX10_inLowestTerms_23 rfl 1 rfl ?_
      refine w_goto 28 dX10_inLowestTerms_24 (by decide) ?_
      refine w_lload dX10_inLowestTerms_28 0 rfl ?_
      refine w_ldiv dX10_inLowestTerms_30 (by first | omega | with_reducible rfl) (by first | omega | with_reducible rfl) ?_
      exact w_lret dX10_inLowestTerms_31 rfl (by unfold lowT; rw [Int.toNat_natCast, Int.toNat_natCast]; first | (rw [if_pos (by omega)]; rfl) | (rw [if_neg (by omega)]; rfl)) rfl
  · exfalso; omega

set_option maxHeartbeats 4000000 in
set_option maxRecDepth 100000 in
theorem n_X10_chance {l : Launch} {D : va_G} {cy : Nat → ClassId} {B N : Nat} {g : Nat → va_E} {la : Nat} {s law part : Int} (ht0 : vTop cy B g 0 la) (hsa : vSA cy B g 62 ) (hN : 141 ≤ N) (hla : la ≤ 3) (h_s : -2147483648 ≤ s ∧ s < 2147483648) (hs : ¬ (0 ≤ s ∧ s < la)) (h_law : -2147483648 ≤ law ∧ law < 2147483648) (h_part : -2147483648 ≤ part ∧ part < 2147483648) : CTl l yX10_chance wsX10_chance (rmo 14 363) D cy B N g [.ref (B + 0), .int (zI s), .int (zI law), .int (zI part)] (-1) (fun g' => g' = g) := by
  refine WW_of (cc := cX10_chance) (maxL := 5) (ret := (some .long)) (own := RX10) (by decide) rfl rfl (Nat.le_of_ble_eq_true rfl) rfl ?_
  intro pp ee ss mm bl me co hmn
  refine w_aload_n dX10_chance_0 rfl 0 rfl ?_
  refine w_iload_n dX10_chance_1 rfl 1 rfl ?_
  refine w_callq (As := [.int (zI s)]) (rest := []) (n := 1) (c_X10_freshN ht0 hsa (by first | omega | with_reducible rfl) (by first | omega | with_reducible rfl) (by first | omega | with_reducible rfl) (by first | omega | with_reducible rfl)) gX10_chance_X10_findFresh rfl rfl rfl (by decide +kernel) ⟨Nat.le_of_ble_eq_true rfl, Nat.le_of_ble_eq_true rfl⟩ rfl (by first | omega | with_reducible rfl) ht0 rfl (Nat.le_of_ble_eq_true rfl) ⟨Nat.zero_le _, Nat.zero_le _⟩ dX10_chance_2 rfl (fun g_1 hp_2 => ?_)
  subst g_1
  refine w_astoreN [(4, .null), (0, .ref (B + 0)), (1, .int (zI s)), (2, .int (zI law)), (3, .int (zI part))] dX10_chance_5 (by decide) rfl ?_
  refine w_aloadN dX10_chance_7 0 rfl ?_
  refine w_ifnullN 30 dX10_chance_9 (by decide) ?_
  refine w_ldc2 (z := -1) (List.mem_of_getElem? (i := 1) rfl) dX10_chance_30 ?_
  exact w_lret dX10_chance_33 rfl (by first | with_reducible rfl | omega | (split <;> omega)) rfl
set_option maxHeartbeats 4000000 in
set_option maxRecDepth 100000 in
theorem y_X10_chance {l : Launch} {D : va_G} {cy : Nat → ClassId} {B N : Nat} {g : Nat → va_E} {la k : Nat} {c : List Co} {M : Int} {fr : Nat} {law part : Int} (ht0 : vTop cy B g 0 la) (hsa : vSA cy B g 62 ) (hw : vSW cy B g (63 + 26 * k) c M fr) (hN : 141 ≤ N) (hk : k < la ∧ la ≤ 3) (hM : M < 2147483648) (hc : cok c) (h2 : 2 ≤ c.length) (h_law : -2147483648 ≤ law ∧ law < 2147483648) (h_part : -2147483648 ≤ part ∧ part < 2147483648) : CTl l yX10_chance wsX10_chance (rmo 14 363) D cy B N g [.ref (B + 0), .int (zI ((k : Nat) : Int)), .int (zI law), .int (zI part)] (aCha c law part) (fun g' => vSW cy B g' (63 + 26 * k) c M 1 ∧ (∀ q, (q < (63 + 26 * k) ∨ (63 + 26 * k) + 26 ≤ q) → g' q = g q)) := by
  refine WW_of (cc := cX10_chance) (maxL := 5) (ret := (some .long)) (own := RX10) (by decide) rfl rfl (Nat.le_of_ble_eq_true rfl) rfl ?_
  intro pp ee ss mm bl me co hmn
  have hfr_0 : ∀ q, (q < (63 + 26 * k) ∨ (63 + 26 * k) + 26 ≤ q) → g q = g q := fun _ _ => rfl
  refine w_aload_n dX10_chance_0 rfl 0 rfl ?_
  refine w_iload_n dX10_chance_1 rfl 1 rfl ?_
  refine w_callq (As := [.int (zI ((k : Nat) : Int))]) (rest := []) (n := 1) (c_X10_fresh (k := k) ht0 hsa hw (by first | omega | with_reducible rfl) (by first | omega | with_reducible rfl) (by first | omega | with_reducible rfl) (by first | omega | with_reducible rfl)) gX10_chance_X10_findFresh rfl rfl rfl (by decide +kernel) ⟨Nat.le_of_ble_eq_true rfl, Nat.le_of_ble_eq_true rfl⟩ rfl (by first | omega | with_reducible rfl) ht0 rfl (Nat.le_of_ble_eq_true rfl) ⟨Nat.zero_le _, Nat.zero_le _⟩ dX10_chance_2 rfl (fun g_1 hp_2 => ?_)
  obtain ⟨hw_3, hf_4⟩ := hp_2
  have ht0_5 : vTop cy B g_1 0 la := vTop_fr ht0 (fun q h1 h2 => hf_4 q (by omega))
  have hsa_6 : vSA cy B g_1 62  := vSA_fr hsa (fun q h1 h2 => hf_4 q (by omega))
  have hfr_7 : ∀ q, (q < (63 + 26 * k) ∨ (63 + 26 * k) + 26 ≤ q) → g_1 q = g q := fun q hq => (hf_4 q (by omega)).trans (hfr_0 q hq)
  refine w_as (st' := [.ref (B + (63 + 26 * k))]) (sc_r rfl rfl) ?_
  refine w_astore [(4, .ref (B + (63 + 26 * k))), (0, .ref (B + 0)), (1, .int (zI ((k : Nat) : Int))), (2, .int (zI law)), (3, .int (zI part))] dX10_chance_5 (by decide) rfl ?_
  refine w_aload dX10_chance_7 0 rfl ?_
  refine w_ifnull dX10_chance_9 ?_
  refine w_iload_n dX10_chance_12 rfl 3 rfl ?_
  refine w_if_lt 30 dX10_chance_13 (by decide) (by first | omega | with_reducible rfl) (fun c_13 => ?_) (fun c_13 => ?_)
  · refine w_ldc2 (z := -1) (List.mem_of_getElem? (i := 1) rfl) dX10_chance_30 ?_
    exact w_lret dX10_chance_33 rfl (by unfold aCha; rw [if_neg (by omega)]) ⟨hw_3, hfr_7⟩
  · refine w_iload_n dX10_chance_16 rfl 3 rfl ?_
    refine w_iconst dX10_chance_17 ?_
    refine w_icmp_gt 30 dX10_chance_18 (by decide) (by first | omega | with_reducible rfl) (by first | omega | with_reducible rfl) (fun c_18 => ?_) (fun c_18 => ?_)
    · refine w_ldc2 (z := -1) (List.mem_of_getElem? (i := 1) rfl) dX10_chance_30 ?_
      exact w_lret dX10_chance_33 rfl (by unfold aCha; rw [if_neg (by omega)]) ⟨hw_3, hfr_7⟩
    · refine w_iload_n dX10_chance_21 rfl 4 rfl ?_
      refine w_if_lt 30 dX10_chance_22 (by decide) (by first | omega | with_reducible rfl) (fun c_22 => ?_) (fun c_22 => ?_)
      · refine w_ldc2 (z := -1) (List.mem_of_getElem? (i := 1) rfl) dX10_chance_30 ?_
        exact w_lret dX10_chance_33 rfl (by unfold aCha; rw [if_neg (by omega)]) ⟨hw_3, hfr_7⟩
      · refine w_iload_n dX10_chance_25 rfl 4 rfl ?_
        refine w_iconst dX10_chance_26 ?_
        refine w_icmp_le 34 dX10_chance_27 (by decide) (by first | omega | with_reducible rfl) (by first | omega | with_reducible rfl) (fun c_27 => ?_) (fun c_27 => ?_)
        · refine w_aload dX10_chance_34 0 rfl ?_
          refine w_iload_n dX10_chance_36 rfl 3 rfl ?_
          refine w_calll (As := [.int (zI law)]) (rest := []) (n := 1) (w_X7_strangeWays hw_3 (by first | omega | with_reducible rfl) (by first | omega | with_reducible rfl) (by first | omega | with_reducible rfl) (by first | omega | with_reducible rfl) (by first | omega | with_reducible rfl) (by first | omega | with_reducible rfl)) gX10_chance_X7_strangeWays rfl rfl rfl (by decide +kernel) ⟨Nat.le_of_ble_eq_true rfl, Nat.le_of_ble_eq_true rfl⟩ rfl (by first | omega | with_reducible rfl) (vSW_str hw_3) rfl (Nat.le_of_ble_eq_true rfl) ⟨Nat.zero_le _, Nat.zero_le _⟩ dX10_chance_37 rfl (fun g_8 hp_9 => ?_)
          obtain ⟨hw_10, hf_11⟩ := hp_9
          have ht0_12 : vTop cy B g_8 0 la := vTop_fr ht0_5 (fun q h1 h2 => hf_11 q (by omega))
          have hsa_13 : vSA cy B g_8 62  := vSA_fr hsa_6 (fun q h1 h2 => hf_11 q (by omega))
          have hfr_14 : ∀ q, (q < (63 + 26 * k) ∨ (63 + 26 * k) + 26 ≤ q) → g_8 q = g q := fun q hq => (hf_11 q (by omega)).trans (hfr_7 q hq)
          have hbd := stW_bd hc law
          refine w_as (st' := [.long (zJ (((stW c law).toNat : Nat) : Int))]) (sc_l (by rw [stW_eq hc h2]; omega) rfl) ?_
          refine w_aload dX10_chance_40 0 rfl ?_
          refine w_calll (As := []) (rest := [.long (zJ (((stW c law).toNat : Nat) : Int))]) (n := 0) (w_X7_allWays hw_10 (by first | omega | with_reducible rfl) (by first | omega | with_reducible rfl) (by first | omega | with_reducible rfl)) gX10_chance_X7_allWays rfl rfl rfl (by decide +kernel) ⟨Nat.le_of_ble_eq_true rfl, Nat.le_of_ble_eq_true rfl⟩ rfl (by first | omega | with_reducible rfl) (vSW_str hw_10) rfl (Nat.le_of_ble_eq_true rfl) ⟨Nat.zero_le _, Nat.zero_le _⟩ dX10_chance_42 rfl (fun g_15 hp_16 => ?_)
          subst g_15
          refine w_as (st' := [.long (zJ (((bh (coL c) (coR c)).toNat : Nat) : Int)), .long (zJ (((stW c law).toNat : Nat) : Int))]) (sc_l (by omega) rfl) ?_
          refine w_iload_n dX10_chance_45 rfl 4 rfl ?_
          refine w_calllS (As := [.long (zJ (((stW c law).toNat : Nat) : Int)), .long (zJ (((bh (coL c) (coR c)).toNat : Nat) : Int)), .int (zI part)]) (rest := []) (n := 3) (c_X10_inLowestTerms (x := (stW c law).toNat) (y := (bh (coL c) (coR c)).toNat) (by first | omega | with_reducible rfl) (by first | omega | with_reducible rfl) (by first | omega | with_reducible rfl) (by first | omega | with_reducible rfl)) gX10_chance_X10_inLowestTerms rfl rfl rfl (by decide +kernel) ⟨Nat.le_of_ble_eq_true rfl, Nat.le_of_ble_eq_true rfl⟩ rfl (Nat.le_of_ble_eq_true rfl) ⟨Nat.zero_le _, Nat.zero_le _⟩ dX10_chance_46 rfl (fun g_17 hp_18 => ?_)
          subst g_17
          refine w_as (st' := [.long (zJ (lowT (stW c law) (bh (coL c) (coR c)) part))]) (sc_l (by rw [Int.toNat_of_nonneg hbd.1, Int.toNat_of_nonneg (by omega)]) rfl) ?_
          exact w_lret dX10_chance_49 rfl (by unfold aCha; rw [if_pos (by omega)]) ⟨hw_10, hfr_14⟩
        · refine w_ldc2 (z := -1) (List.mem_of_getElem? (i := 1) rfl) dX10_chance_30 ?_
          exact w_lret dX10_chance_33 rfl (by unfold aCha; rw [if_neg (by omega)]) ⟨hw_3, hfr_7⟩

set_option maxHeartbeats 4000000 in
set_option maxRecDepth 100000 in
theorem n_X10_strange {l : Launch} {D : va_G} {cy : Nat → ClassId} {B N : Nat} {g : Nat → va_E} {la : Nat} {s law : Int} (ht0 : vTop cy B g 0 la) (hsa : vSA cy B g 62 ) (hN : 141 ≤ N) (hla : la ≤ 3) (h_s : -2147483648 ≤ s ∧ s < 2147483648) (hs : ¬ (0 ≤ s ∧ s < la)) (h_law : -2147483648 ≤ law ∧ law < 2147483648) : CTi l yX10_strange wsX10_strange (rmo 14 363) D cy B N g [.ref (B + 0), .int (zI s), .int (zI law)] (-1) (fun g' => g' = g) := by
  refine WW_of (cc := cX10_strange) (maxL := 4) (ret := (some .int)) (own := RX10) (by decide) rfl rfl (Nat.le_of_ble_eq_true rfl) rfl ?_
  intro pp ee ss mm bl me co hmn
  refine w_aload_n dX10_strange_0 rfl 0 rfl ?_
  refine w_iload_n dX10_strange_1 rfl 1 rfl ?_
  refine w_callq (As := [.int (zI s)]) (rest := []) (n := 1) (c_X10_freshN ht0 hsa (by first | omega | with_reducible rfl) (by first | omega | with_reducible rfl) (by first | omega | with_reducible rfl) (by first | omega | with_reducible rfl)) gX10_strange_X10_findFresh rfl rfl rfl (by decide +kernel) ⟨Nat.le_of_ble_eq_true rfl, Nat.le_of_ble_eq_true rfl⟩ rfl (by first | omega | with_reducible rfl) ht0 rfl (Nat.le_of_ble_eq_true rfl) ⟨Nat.zero_le _, Nat.zero_le _⟩ dX10_strange_2 rfl (fun g_1 hp_2 => ?_)
  subst g_1
  refine w_astore_nN [(3, .null), (0, .ref (B + 0)), (1, .int (zI s)), (2, .int (zI law))] dX10_strange_5 rfl (by decide) rfl ?_
  refine w_aload_nN dX10_strange_6 rfl 0 rfl ?_
  refine w_ifnullN 19 dX10_strange_7 (by decide) ?_
  refine w_iconst dX10_strange_19 ?_
  exact w_iret dX10_strange_20 rfl (by first | with_reducible rfl | omega | (split <;> omega)) rfl
set_option maxHeartbeats 4000000 in
set_option maxRecDepth 100000 in
theorem y_X10_strange {l : Launch} {D : va_G} {cy : Nat → ClassId} {B N : Nat} {g : Nat → va_E} {la k : Nat} {c : List Co} {M : Int} {fr : Nat} {law : Int} (ht0 : vTop cy B g 0 la) (hsa : vSA cy B g 62 ) (hw : vSW cy B g (63 + 26 * k) c M fr) (hN : 141 ≤ N) (hk : k < la ∧ la ≤ 3) (hM : M < 2147483648) (hc : cok c) (h2 : 2 ≤ c.length) (h_law : -2147483648 ≤ law ∧ law < 2147483648) : CTi l yX10_strange wsX10_strange (rmo 14 363) D cy B N g [.ref (B + 0), .int (zI ((k : Nat) : Int)), .int (zI law)] (aSta c law) (fun g' => vSW cy B g' (63 + 26 * k) c M 1 ∧ (∀ q, (q < (63 + 26 * k) ∨ (63 + 26 * k) + 26 ≤ q) → g' q = g q)) := by
  refine WW_of (cc := cX10_strange) (maxL := 4) (ret := (some .int)) (own := RX10) (by decide) rfl rfl (Nat.le_of_ble_eq_true rfl) rfl ?_
  intro pp ee ss mm bl me co hmn
  have hfr_0 : ∀ q, (q < (63 + 26 * k) ∨ (63 + 26 * k) + 26 ≤ q) → g q = g q := fun _ _ => rfl
  refine w_aload_n dX10_strange_0 rfl 0 rfl ?_
  refine w_iload_n dX10_strange_1 rfl 1 rfl ?_
  refine w_callq (As := [.int (zI ((k : Nat) : Int))]) (rest := []) (n := 1) (c_X10_fresh (k := k) ht0 hsa hw (by first | omega | with_reducible rfl) (by first | omega | with_reducible rfl) (by first | omega | with_reducible rfl) (by first | omega | with_reducible rfl)) gX10_strange_X10_findFresh rfl rfl rfl (by decide +kernel) ⟨Nat.le_of_ble_eq_true rfl, Nat.le_of_ble_eq_true rfl⟩ rfl (by first | omega | with_reducible rfl) ht0 rfl (Nat.le_of_ble_eq_true rfl) ⟨Nat.zero_le _, Nat.zero_le _⟩ dX10_strange_2 rfl (fun g_1 hp_2 => ?_)
  obtain ⟨hw_3, hf_4⟩ := hp_2
  have ht0_5 : vTop cy B g_1 0 la := vTop_fr ht0 (fun q h1 h2 => hf_4 q (by omega))
  have hsa_6 : vSA cy B g_1 62  := vSA_fr hsa (fun q h1 h2 => hf_4 q (by omega))
  have hfr_7 : ∀ q, (q < (63 + 26 * k) ∨ (63 + 26 * k) + 26 ≤ q) → g_1 q = g q := fun q hq => (hf_4 q (by omega)).trans (hfr_0 q hq)
  refine w_as (st' := [.ref (B + (63 + 26 * k))]) (sc_r rfl rfl) ?_
  refine w_astore_n [(3, .ref (B + (63 + 26 * k))), (0, .ref (B + 0)), (1, .int (zI ((k : Nat) : Int))), (2, .int (zI law))] dX10_strange_5 rfl (by decide) rfl ?_
  refine w_aload_n dX10_strange_6 rfl 0 rfl ?_
  refine w_ifnull dX10_strange_7 ?_
  refine w_iload_n dX10_strange_10 rfl 3 rfl ?_
  refine w_if_lt 19 dX10_strange_11 (by decide) (by first | omega | with_reducible rfl) (fun c_11 => ?_) (fun c_11 => ?_)
  · refine w_iconst dX10_strange_19 ?_
    exact w_iret dX10_strange_20 rfl (by unfold aSta; rw [if_neg (by omega)]) ⟨hw_3, hfr_7⟩
  · refine w_iload_n dX10_strange_14 rfl 3 rfl ?_
    refine w_iconst dX10_strange_15 ?_
    refine w_icmp_le 21 dX10_strange_16 (by decide) (by first | omega | with_reducible rfl) (by first | omega | with_reducible rfl) (fun c_16 => ?_) (fun c_16 => ?_)
    · refine w_aload_n dX10_strange_21 rfl 0 rfl ?_
      refine w_iload_n dX10_strange_22 rfl 3 rfl ?_
      refine w_calli (As := [.int (zI law)]) (rest := []) (n := 1) (w_X7_strangeTables hw_3 (by first | omega | with_reducible rfl) (by first | omega | with_reducible rfl) (by first | omega | with_reducible rfl) (by first | omega | with_reducible rfl) (by first | omega | with_reducible rfl) (by first | omega | with_reducible rfl)) gX10_strange_X7_strangeTables rfl rfl rfl (by decide +kernel) ⟨Nat.le_of_ble_eq_true rfl, Nat.le_of_ble_eq_true rfl⟩ rfl (by first | omega | with_reducible rfl) (vSW_str hw_3) rfl (Nat.le_of_ble_eq_true rfl) ⟨Nat.zero_le _, Nat.zero_le _⟩ dX10_strange_23 rfl (fun g_8 hp_9 => ?_)
      obtain ⟨hw_10, hf_11⟩ := hp_9
      have ht0_12 : vTop cy B g_8 0 la := vTop_fr ht0_5 (fun q h1 h2 => hf_11 q (by omega))
      have hsa_13 : vSA cy B g_8 62  := vSA_fr hsa_6 (fun q h1 h2 => hf_11 q (by omega))
      have hfr_14 : ∀ q, (q < (63 + 26 * k) ∨ (63 + 26 * k) + 26 ≤ q) → g_8 q = g q := fun q hq => (hf_11 q (by omega)).trans (hfr_7 q hq)
      refine w_as (st' := [.int (zI (stT c law))]) (sc_i (stT_eq hc h2 law) rfl) ?_
      exact w_iret dX10_strange_26 rfl (by unfold aSta; rw [if_pos (by omega)]) ⟨hw_10, hfr_14⟩
    · refine w_iconst dX10_strange_19 ?_
      exact w_iret dX10_strange_20 rfl (by unfold aSta; rw [if_neg (by omega)]) ⟨hw_3, hfr_7⟩

set_option maxHeartbeats 4000000 in
set_option maxRecDepth 100000 in
theorem n_X10_node {l : Launch} {D : va_G} {cy : Nat → ClassId} {B N : Nat} {g : Nat → va_E} {la : Nat} {s j a what : Int} (ht0 : vTop cy B g 0 la) (hsa : vSA cy B g 62 ) (hN : 141 ≤ N) (hla : la ≤ 3) (h_s : -2147483648 ≤ s ∧ s < 2147483648) (hs : ¬ (0 ≤ s ∧ s < la)) (h_j : -2147483648 ≤ j ∧ j < 2147483648) (h_a : -2147483648 ≤ a ∧ a < 2147483648) (h_what : -2147483648 ≤ what ∧ what < 2147483648) : CTl l yX10_node wsX10_node (rmo 6 161) D cy B N g [.ref (B + 0), .int (zI s), .int (zI j), .int (zI a), .int (zI what)] (-1) (fun g' => g' = g) := by
  refine WW_of (cc := cX10_node) (maxL := 6) (ret := (some .long)) (own := RX10) (by decide) rfl rfl (Nat.le_of_ble_eq_true rfl) rfl ?_
  intro pp ee ss mm bl me co hmn
  refine w_aload_n dX10_node_0 rfl 0 rfl ?_
  refine w_iload_n dX10_node_1 rfl 1 rfl ?_
  refine w_callq (As := [.int (zI s)]) (rest := []) (n := 1) (c_X10_freshN ht0 hsa (by first | omega | with_reducible rfl) (by first | omega | with_reducible rfl) (by first | omega | with_reducible rfl) (by first | omega | with_reducible rfl)) gX10_node_X10_findFresh rfl rfl rfl (by decide +kernel) ⟨Nat.le_of_ble_eq_true rfl, Nat.le_of_ble_eq_true rfl⟩ rfl (by first | omega | with_reducible rfl) ht0 rfl (Nat.le_of_ble_eq_true rfl) ⟨Nat.zero_le _, Nat.zero_le _⟩ dX10_node_2 rfl (fun g_1 hp_2 => ?_)
  subst g_1
  refine w_astoreN [(5, .null), (0, .ref (B + 0)), (1, .int (zI s)), (2, .int (zI j)), (3, .int (zI a)), (4, .int (zI what))] dX10_node_5 (by decide) rfl ?_
  refine w_aloadN dX10_node_7 0 rfl ?_
  refine w_ifnullN 23 dX10_node_9 (by decide) ?_
  refine w_ldc2 (z := -1) (List.mem_of_getElem? (i := 1) rfl) dX10_node_23 ?_
  exact w_lret dX10_node_26 rfl (by first | with_reducible rfl | omega | (split <;> omega)) rfl
set_option maxHeartbeats 4000000 in
set_option maxRecDepth 100000 in
theorem y_X10_node {l : Launch} {D : va_G} {cy : Nat → ClassId} {B N : Nat} {g : Nat → va_E} {la k : Nat} {c : List Co} {M : Int} {fr : Nat} {j a what : Int} (ht0 : vTop cy B g 0 la) (hsa : vSA cy B g 62 ) (hw : vSW cy B g (63 + 26 * k) c M fr) (hN : 141 ≤ N) (hk : k < la ∧ la ≤ 3) (hM : M < 2147483648) (hc : cok c) (h2 : 2 ≤ c.length) (h_j : -2147483648 ≤ j ∧ j < 2147483648) (h_a : -2147483648 ≤ a ∧ a < 2147483648) (h_what : -2147483648 ≤ what ∧ what < 2147483648) : CTl l yX10_node wsX10_node (rmo 6 161) D cy B N g [.ref (B + 0), .int (zI ((k : Nat) : Int)), .int (zI j), .int (zI a), .int (zI what)] (aNod c j a what) (fun g' => vSW cy B g' (63 + 26 * k) c M 1 ∧ (∀ q, (q < (63 + 26 * k) ∨ (63 + 26 * k) + 26 ≤ q) → g' q = g q)) := by
  refine WW_of (cc := cX10_node) (maxL := 6) (ret := (some .long)) (own := RX10) (by decide) rfl rfl (Nat.le_of_ble_eq_true rfl) rfl ?_
  intro pp ee ss mm bl me co hmn
  have hfr_0 : ∀ q, (q < (63 + 26 * k) ∨ (63 + 26 * k) + 26 ≤ q) → g q = g q := fun _ _ => rfl
  have hc5 := hc.1
  have hco := coL_S hc
  have hcR : coR c ≤ 60 := by omega
  refine w_aload_n dX10_node_0 rfl 0 rfl ?_
  refine w_iload_n dX10_node_1 rfl 1 rfl ?_
  refine w_callq (As := [.int (zI ((k : Nat) : Int))]) (rest := []) (n := 1) (c_X10_fresh (k := k) ht0 hsa hw (by first | omega | with_reducible rfl) (by first | omega | with_reducible rfl) (by first | omega | with_reducible rfl) (by first | omega | with_reducible rfl)) gX10_node_X10_findFresh rfl rfl rfl (by decide +kernel) ⟨Nat.le_of_ble_eq_true rfl, Nat.le_of_ble_eq_true rfl⟩ rfl (by first | omega | with_reducible rfl) ht0 rfl (Nat.le_of_ble_eq_true rfl) ⟨Nat.zero_le _, Nat.zero_le _⟩ dX10_node_2 rfl (fun g_1 hp_2 => ?_)
  obtain ⟨hw_3, hf_4⟩ := hp_2
  have ht0_5 : vTop cy B g_1 0 la := vTop_fr ht0 (fun q h1 h2 => hf_4 q (by omega))
  have hsa_6 : vSA cy B g_1 62  := vSA_fr hsa (fun q h1 h2 => hf_4 q (by omega))
  have hfr_7 : ∀ q, (q < (63 + 26 * k) ∨ (63 + 26 * k) + 26 ≤ q) → g_1 q = g q := fun q hq => (hf_4 q (by omega)).trans (hfr_0 q hq)
  refine w_as (st' := [.ref (B + (63 + 26 * k))]) (sc_r rfl rfl) ?_
  refine w_astore [(5, .ref (B + (63 + 26 * k))), (0, .ref (B + 0)), (1, .int (zI ((k : Nat) : Int))), (2, .int (zI j)), (3, .int (zI a)), (4, .int (zI what))] dX10_node_5 (by decide) rfl ?_
  refine w_aload dX10_node_7 0 rfl ?_
  refine w_ifnull dX10_node_9 ?_
  refine w_iload dX10_node_12 5 rfl ?_
  refine w_if_lt 23 dX10_node_14 (by decide) (by first | omega | with_reducible rfl) (fun c_14 => ?_) (fun c_14 => ?_)
  · refine w_ldc2 (z := -1) (List.mem_of_getElem? (i := 1) rfl) dX10_node_23 ?_
    exact w_lret dX10_node_26 rfl (by unfold aNod; rw [if_neg (by omega)]) ⟨hw_3, hfr_7⟩
  · refine w_iload dX10_node_17 5 rfl ?_
    refine w_iconst dX10_node_19 ?_
    refine w_icmp_le 27 dX10_node_20 (by decide) (by first | omega | with_reducible rfl) (by first | omega | with_reducible rfl) (fun c_20 => ?_) (fun c_20 => ?_)
    · refine w_iload_n dX10_node_27 rfl 3 rfl ?_
      refine w_if_lt 59 dX10_node_28 (by decide) (by first | omega | with_reducible rfl) (fun c_28 => ?_) (fun c_28 => ?_)
      · refine w_ldc2 (z := -1) (List.mem_of_getElem? (i := 1) rfl) dX10_node_59 ?_
        exact w_lret dX10_node_62 rfl (by unfold aNod; rw [if_neg (by omega)]) ⟨hw_3, hfr_7⟩
      · refine w_iload_n dX10_node_31 rfl 3 rfl ?_
        refine w_aload dX10_node_32 0 rfl ?_
        refine w_get (i := 0) (T := TX7) (NF := 4) (63 + 26 * k) (by first | omega | with_reducible rfl) (vSW_str hw_3) rfl (fun _ h => (List.mem_cons_of_mem _ (List.mem_append_left _ (List.mem_append_left _ (List.mem_append_left _ (List.mem_append_right _ h)))))) (by decide) (List.mem_of_getElem? (i := 2) rfl) rfl dX10_node_34 ?_
        obtain ⟨fx_10, hfx_10⟩ := vSW_col hw_3
        refine w_calli (As := []) (rest := [.int (zI j)]) (n := 0) (w_X0_size hw_3 (by first | omega | with_reducible rfl)) gX10_node_X0_size rfl rfl rfl (by decide +kernel) ⟨Nat.le_of_ble_eq_true rfl, Nat.le_of_ble_eq_true rfl⟩ rfl (by first | omega | with_reducible rfl) hfx_10 rfl (Nat.le_of_ble_eq_true rfl) ⟨Nat.zero_le _, Nat.zero_le _⟩ dX10_node_37 rfl (fun g_8 hp_9 => ?_)
        subst g_8
        refine w_icmp_gt 59 dX10_node_40 (by decide) (by first | omega | with_reducible rfl) (by first | omega | with_reducible rfl) (fun c_40 => ?_) (fun c_40 => ?_)
        · refine w_ldc2 (z := -1) (List.mem_of_getElem? (i := 1) rfl) dX10_node_59 ?_
          exact w_lret dX10_node_62 rfl (by unfold aNod; rw [if_neg (by omega)]) ⟨hw_3, hfr_7⟩
        · refine w_iload_n dX10_node_43 rfl 4 rfl ?_
          refine w_if_lt 59 dX10_node_44 (by decide) (by first | omega | with_reducible rfl) (fun c_44 => ?_) (fun c_44 => ?_)
          · refine w_ldc2 (z := -1) (List.mem_of_getElem? (i := 1) rfl) dX10_node_59 ?_
            exact w_lret dX10_node_62 rfl (by unfold aNod; rw [if_neg (by omega)]) ⟨hw_3, hfr_7⟩
          · refine w_iload_n dX10_node_47 rfl 4 rfl ?_
            refine w_aload dX10_node_48 0 rfl ?_
            refine w_get (i := 0) (T := TX7) (NF := 4) (63 + 26 * k) (by first | omega | with_reducible rfl) (vSW_str hw_3) rfl (fun _ h => (List.mem_cons_of_mem _ (List.mem_append_left _ (List.mem_append_left _ (List.mem_append_left _ (List.mem_append_right _ h)))))) (by decide) (List.mem_of_getElem? (i := 2) rfl) rfl dX10_node_50 ?_
            obtain ⟨fx_13, hfx_13⟩ := vSW_col hw_3
            refine w_calli (As := []) (rest := [.int (zI a)]) (n := 0) (w_X0_allAbove hw_3 (by first | omega | with_reducible rfl) (by first | omega | with_reducible rfl)) gX10_node_X0_allAbove rfl rfl rfl (by decide +kernel) ⟨Nat.le_of_ble_eq_true rfl, Nat.le_of_ble_eq_true rfl⟩ rfl (by first | omega | with_reducible rfl) hfx_13 rfl (Nat.le_of_ble_eq_true rfl) ⟨Nat.zero_le _, Nat.zero_le _⟩ dX10_node_53 rfl (fun g_11 hp_12 => ?_)
            subst g_11
            refine w_icmp_le 63 dX10_node_56 (by decide) (by first | omega | with_reducible rfl) (by first | omega | with_reducible rfl) (fun c_56 => ?_) (fun c_56 => ?_)
            · refine w_aload dX10_node_63 0 rfl ?_
              refine w_get (i := 1) (T := TX7) (NF := 4) (63 + 26 * k) (by first | omega | with_reducible rfl) (vSW_str hw_3) rfl (fun _ h => (List.mem_cons_of_mem _ (List.mem_append_left _ (List.mem_append_left _ (List.mem_append_left _ (List.mem_append_right _ h)))))) (by decide) (List.mem_of_getElem? (i := 3) rfl) rfl dX10_node_65 ?_
              refine w_iload_n dX10_node_68 rfl 3 rfl ?_
              refine w_iload_n dX10_node_69 rfl 4 rfl ?_
              obtain ⟨fx_16, hfx_16⟩ := vSW_net hw_3
              refine w_calli (As := [.int (zI j), .int (zI a)]) (rest := []) (n := 2) (w_X2_isThere hw_3 (by first | omega | with_reducible rfl) (by first | omega | with_reducible rfl) (by first | omega | with_reducible rfl) (by first | omega | with_reducible rfl) (by first | omega | with_reducible rfl)) gX10_node_X2_isThere rfl rfl rfl (by decide +kernel) ⟨Nat.le_of_ble_eq_true rfl, Nat.le_of_ble_eq_true rfl⟩ rfl (by first | omega | with_reducible rfl) hfx_16 rfl (Nat.le_of_ble_eq_true rfl) ⟨Nat.zero_le _, Nat.zero_le _⟩ dX10_node_70 rfl (fun g_14 hp_15 => ?_)
              subst g_14
              refine w_ifeqB 91 dX10_node_73 (by decide) (fun c_73 => ?_) (fun c_73 => ?_)
              · refine w_ldc2 (z := -4) (List.mem_of_getElem? (i := 4) rfl) dX10_node_91 ?_
                exact w_lret dX10_node_94 rfl (by unfold aNod; rw [if_pos (by omega)]; first | rw [if_pos c_73] | rw [if_neg c_73]) ⟨hw_3, hfr_7⟩
              · refine w_aload dX10_node_76 0 rfl ?_
                refine w_get (i := 1) (T := TX7) (NF := 4) (63 + 26 * k) (by first | omega | with_reducible rfl) (vSW_str hw_3) rfl (fun _ h => (List.mem_cons_of_mem _ (List.mem_append_left _ (List.mem_append_left _ (List.mem_append_left _ (List.mem_append_right _ h)))))) (by decide) (List.mem_of_getElem? (i := 3) rfl) rfl dX10_node_78 ?_
                refine w_iload dX10_node_81 5 rfl ?_
                refine w_iload_n dX10_node_83 rfl 3 rfl ?_
                refine w_iload_n dX10_node_84 rfl 4 rfl ?_
                obtain ⟨fx_19, hfx_19⟩ := vSW_net hw_3
                refine w_calll (As := [.int (zI what), .int (zI j), .int (zI a)]) (rest := []) (n := 3) (w_X2_atN hw_3 (by first | omega | with_reducible rfl) (by first | omega | with_reducible rfl) (by first | omega | with_reducible rfl) (by first | omega | with_reducible rfl) (by first | omega | with_reducible rfl) (by first | omega | with_reducible rfl)) gX10_node_X2_at rfl rfl rfl (by decide +kernel) ⟨Nat.le_of_ble_eq_true rfl, Nat.le_of_ble_eq_true rfl⟩ rfl (by first | omega | with_reducible rfl) hfx_19 rfl (Nat.le_of_ble_eq_true rfl) ⟨Nat.zero_le _, Nat.zero_le _⟩ dX10_node_85 rfl (fun g_17 hp_18 => ?_)
                subst g_17
                refine w_goto 94 dX10_node_88 (by decide) ?_
                exact w_lret dX10_node_94 rfl (by unfold aNod; rw [if_pos (by omega)]; first | rw [if_pos c_73] | rw [if_neg c_73]) ⟨hw_3, hfr_7⟩
            · refine w_ldc2 (z := -1) (List.mem_of_getElem? (i := 1) rfl) dX10_node_59 ?_
              exact w_lret dX10_node_62 rfl (by unfold aNod; rw [if_neg (by omega)]) ⟨hw_3, hfr_7⟩
    · refine w_ldc2 (z := -1) (List.mem_of_getElem? (i := 1) rfl) dX10_node_23 ?_
      exact w_lret dX10_node_26 rfl (by unfold aNod; rw [if_neg (by omega)]) ⟨hw_3, hfr_7⟩

set_option maxHeartbeats 4000000 in
set_option maxRecDepth 100000 in
theorem n_X10_looks {l : Launch} {D : va_G} {cy : Nat → ClassId} {B N : Nat} {g : Nat → va_E} {la : Nat} {s what : Int} (ht0 : vTop cy B g 0 la) (hsa : vSA cy B g 62 ) (hN : 141 ≤ N) (hla : la ≤ 3) (h_s : -2147483648 ≤ s ∧ s < 2147483648) (hs : ¬ (0 ≤ s ∧ s < la)) (h_what : -2147483648 ≤ what ∧ what < 2147483648) : CTi l yX10_looks wsX10_looks (rmo 13 328) D cy B N g [.ref (B + 0), .int (zI s), .int (zI what)] (-1) (fun g' => g' = g) := by
  refine WW_of (cc := cX10_looks) (maxL := 4) (ret := (some .int)) (own := RX10) (by decide) rfl rfl (Nat.le_of_ble_eq_true rfl) rfl ?_
  intro pp ee ss mm bl me co hmn
  refine w_aload_n dX10_looks_0 rfl 0 rfl ?_
  refine w_iload_n dX10_looks_1 rfl 1 rfl ?_
  refine w_callq (As := [.int (zI s)]) (rest := []) (n := 1) (c_X10_freshN ht0 hsa (by first | omega | with_reducible rfl) (by first | omega | with_reducible rfl) (by first | omega | with_reducible rfl) (by first | omega | with_reducible rfl)) gX10_looks_X10_findFresh rfl rfl rfl (by decide +kernel) ⟨Nat.le_of_ble_eq_true rfl, Nat.le_of_ble_eq_true rfl⟩ rfl (by first | omega | with_reducible rfl) ht0 rfl (Nat.le_of_ble_eq_true rfl) ⟨Nat.zero_le _, Nat.zero_le _⟩ dX10_looks_2 rfl (fun g_1 hp_2 => ?_)
  subst g_1
  refine w_astore_nN [(3, .null), (0, .ref (B + 0)), (1, .int (zI s)), (2, .int (zI what))] dX10_looks_5 rfl (by decide) rfl ?_
  refine w_aload_nN dX10_looks_6 rfl 0 rfl ?_
  refine w_ifnonnullN dX10_looks_7 ?_
  refine w_iconst dX10_looks_10 ?_
  exact w_iret dX10_looks_11 rfl (by first | with_reducible rfl | omega | (split <;> omega)) rfl
set_option maxHeartbeats 4000000 in
set_option maxRecDepth 100000 in
theorem y_X10_looks {l : Launch} {D : va_G} {cy : Nat → ClassId} {B N : Nat} {g : Nat → va_E} {la k : Nat} {c : List Co} {M : Int} {fr : Nat} {what : Int} (ht0 : vTop cy B g 0 la) (hsa : vSA cy B g 62 ) (hw : vSW cy B g (63 + 26 * k) c M fr) (hN : 141 ≤ N) (hk : k < la ∧ la ≤ 3) (hM : M < 2147483648) (hc : cok c) (h2 : 2 ≤ c.length) (h_what : -2147483648 ≤ what ∧ what < 2147483648) : CTi l yX10_looks wsX10_looks (rmo 13 328) D cy B N g [.ref (B + 0), .int (zI ((k : Nat) : Int)), .int (zI what)] (aLoo c what) (fun g' => vSW cy B g' (63 + 26 * k) c M 1 ∧ (∀ q, (q < (63 + 26 * k) ∨ (63 + 26 * k) + 26 ≤ q) → g' q = g q)) := by
  refine WW_of (cc := cX10_looks) (maxL := 4) (ret := (some .int)) (own := RX10) (by decide) rfl rfl (Nat.le_of_ble_eq_true rfl) rfl ?_
  intro pp ee ss mm bl me co hmn
  have hfr_0 : ∀ q, (q < (63 + 26 * k) ∨ (63 + 26 * k) + 26 ≤ q) → g q = g q := fun _ _ => rfl
  refine w_aload_n dX10_looks_0 rfl 0 rfl ?_
  refine w_iload_n dX10_looks_1 rfl 1 rfl ?_
  refine w_callq (As := [.int (zI ((k : Nat) : Int))]) (rest := []) (n := 1) (c_X10_fresh (k := k) ht0 hsa hw (by first | omega | with_reducible rfl) (by first | omega | with_reducible rfl) (by first | omega | with_reducible rfl) (by first | omega | with_reducible rfl)) gX10_looks_X10_findFresh rfl rfl rfl (by decide +kernel) ⟨Nat.le_of_ble_eq_true rfl, Nat.le_of_ble_eq_true rfl⟩ rfl (by first | omega | with_reducible rfl) ht0 rfl (Nat.le_of_ble_eq_true rfl) ⟨Nat.zero_le _, Nat.zero_le _⟩ dX10_looks_2 rfl (fun g_1 hp_2 => ?_)
  obtain ⟨hw_3, hf_4⟩ := hp_2
  have ht0_5 : vTop cy B g_1 0 la := vTop_fr ht0 (fun q h1 h2 => hf_4 q (by omega))
  have hsa_6 : vSA cy B g_1 62  := vSA_fr hsa (fun q h1 h2 => hf_4 q (by omega))
  have hfr_7 : ∀ q, (q < (63 + 26 * k) ∨ (63 + 26 * k) + 26 ≤ q) → g_1 q = g q := fun q hq => (hf_4 q (by omega)).trans (hfr_0 q hq)
  refine w_as (st' := [.ref (B + (63 + 26 * k))]) (sc_r rfl rfl) ?_
  refine w_astore_n [(3, .ref (B + (63 + 26 * k))), (0, .ref (B + 0)), (1, .int (zI ((k : Nat) : Int))), (2, .int (zI what))] dX10_looks_5 rfl (by decide) rfl ?_
  refine w_aload_n dX10_looks_6 rfl 0 rfl ?_
  refine w_ifnonnull 12 dX10_looks_7 (by decide) ?_
  refine w_iload_n dX10_looks_12 rfl 3 rfl ?_
  by_cases c_13 : what = 0
  · refine w_look (off := 27) 40 dX10_looks_13 rfl (by first | omega | with_reducible rfl) (by rw [c_13]; rfl) (by decide) ?_
    refine w_aload_n dX10_looks_40 rfl 0 rfl ?_
    refine w_callq (As := []) (rest := []) (n := 0) (w_X7_freshRare hw_3 (by first | omega | with_reducible rfl) (by first | omega | with_reducible rfl) (by first | omega | with_reducible rfl) (by first | omega | with_reducible rfl) (by first | omega | with_reducible rfl)) gX10_looks_X7_freshRare rfl rfl rfl (by decide +kernel) ⟨Nat.le_of_ble_eq_true rfl, Nat.le_of_ble_eq_true rfl⟩ rfl (by first | omega | with_reducible rfl) (vSW_str hw_3) rfl (Nat.le_of_ble_eq_true rfl) ⟨Nat.zero_le _, Nat.zero_le _⟩ dX10_looks_41 rfl (fun g_8 hp_9 => ?_)
    obtain ⟨cv_10, hw_11, hrr_41, hf_12⟩ := hp_9
    have ht0_13 : vTop cy B g_8 0 la := vTop_fr ht0_5 (fun q h1 h2 => hf_12 q (by omega))
    have hsa_14 : vSA cy B g_8 62  := vSA_fr hsa_6 (fun q h1 h2 => hf_12 q (by omega))
    have hfr_15 : ∀ q, (q < (63 + 26 * k) ∨ (63 + 26 * k) + 26 ≤ q) → g_8 q = g q := fun q hq => (hf_12 q (by omega)).trans (hfr_7 q hq)
    have hrr := hrr_41
    refine w_calli (As := []) (rest := []) (n := 0) (c_X4_lookCount hrr (by first | omega | with_reducible rfl)) gX10_looks_X4_lookCount rfl rfl rfl (by decide +kernel) ⟨Nat.le_of_ble_eq_true rfl, Nat.le_of_ble_eq_true rfl⟩ rfl (by first | omega | with_reducible rfl) hrr rfl (Nat.le_of_ble_eq_true rfl) ⟨Nat.zero_le _, Nat.zero_le _⟩ dX10_looks_44 rfl (fun g_16 hp_17 => ?_)
    subst g_16
    exact w_iret dX10_looks_47 rfl (by unfold aLoo; rw [if_pos c_13]) ⟨hw_11, hfr_15⟩
  have c_13_0 := c_13
  by_cases c_13 : what = 1
  · refine w_look (off := 35) 48 dX10_looks_13 rfl (by first | omega | with_reducible rfl) (by rw [c_13]; rfl) (by decide) ?_
    refine w_aload_n dX10_looks_48 rfl 0 rfl ?_
    refine w_get (i := 1) (T := TX7) (NF := 4) (63 + 26 * k) (by first | omega | with_reducible rfl) (vSW_str hw_3) rfl (fun _ h => (List.mem_cons_of_mem _ (List.mem_append_left _ (List.mem_append_left _ (List.mem_append_left _ (List.mem_append_left _ (List.mem_append_right _ h))))))) (by decide) (List.mem_of_getElem? (i := 1) rfl) rfl dX10_looks_49 ?_
    refine w_iconst dX10_looks_52 ?_
    refine w_iconst dX10_looks_53 ?_
    refine w_iconst dX10_looks_54 ?_
    obtain ⟨fx_20, hfx_20⟩ := vSW_net hw_3
    refine w_calll (As := [.int (zI 5), .int (zI 0), .int (zI 0)]) (rest := []) (n := 3) (w_X2_at0 (kd := 5) hw_3 (by first | omega | with_reducible rfl) (by first | omega | with_reducible rfl) (by first | omega | with_reducible rfl) (by first | omega | with_reducible rfl)) gX10_looks_X2_at rfl rfl rfl (by decide +kernel) ⟨Nat.le_of_ble_eq_true rfl, Nat.le_of_ble_eq_true rfl⟩ rfl (by first | omega | with_reducible rfl) hfx_20 rfl (Nat.le_of_ble_eq_true rfl) ⟨Nat.zero_le _, Nat.zero_le _⟩ dX10_looks_55 rfl (fun g_18 hp_19 => ?_)
    subst g_18
    have hlk := lk_small hc
    refine w_as (st' := [.long (zJ (lk (coL c) (coR c)))]) (sc_l rfl rfl) ?_
    refine w_l2i dX10_looks_58 (by first | omega | with_reducible rfl) ?_
    exact w_iret dX10_looks_59 rfl (by unfold aLoo; rw [if_neg (by omega), if_pos c_13]) ⟨hw_3, hfr_7⟩
  have c_13_1 := c_13
  · refine w_look (off := 47) 60 dX10_looks_13 rfl (by first | omega | with_reducible rfl) (by simp [Op.lookupswitch.offset, c_13_0, Ne.symm c_13_0, c_13_1, Ne.symm c_13_1]) (by decide) ?_
    refine w_iconst dX10_looks_60 ?_
    exact w_iret dX10_looks_61 rfl (by unfold aLoo; rw [if_neg (by omega), if_neg (by omega)]) ⟨hw_3, hfr_7⟩

set_option maxHeartbeats 4000000 in
set_option maxRecDepth 100000 in
theorem n_X10_table {l : Launch} {D : va_G} {cy : Nat → ClassId} {B N : Nat} {g : Nat → va_E} {la : Nat} {s t j : Int} (ht0 : vTop cy B g 0 la) (hsa : vSA cy B g 62 ) (hN : 141 ≤ N) (hla : la ≤ 3) (h_s : -2147483648 ≤ s ∧ s < 2147483648) (hs : ¬ (0 ≤ s ∧ s < la)) (h_t : -2147483648 ≤ t ∧ t < 2147483648) (h_j : -2147483648 ≤ j ∧ j < 2147483648) : CTi l yX10_table wsX10_table (rmo 6 161) D cy B N g [.ref (B + 0), .int (zI s), .int (zI t), .int (zI j)] (-1) (fun g' => g' = g) := by
  refine WW_of (cc := cX10_table) (maxL := 5) (ret := (some .int)) (own := RX10) (by decide) rfl rfl (Nat.le_of_ble_eq_true rfl) rfl ?_
  intro pp ee ss mm bl me co hmn
  refine w_aload_n dX10_table_0 rfl 0 rfl ?_
  refine w_iload_n dX10_table_1 rfl 1 rfl ?_
  refine w_callq (As := [.int (zI s)]) (rest := []) (n := 1) (c_X10_freshN ht0 hsa (by first | omega | with_reducible rfl) (by first | omega | with_reducible rfl) (by first | omega | with_reducible rfl) (by first | omega | with_reducible rfl)) gX10_table_X10_findFresh rfl rfl rfl (by decide +kernel) ⟨Nat.le_of_ble_eq_true rfl, Nat.le_of_ble_eq_true rfl⟩ rfl (by first | omega | with_reducible rfl) ht0 rfl (Nat.le_of_ble_eq_true rfl) ⟨Nat.zero_le _, Nat.zero_le _⟩ dX10_table_2 rfl (fun g_1 hp_2 => ?_)
  subst g_1
  refine w_astoreN [(4, .null), (0, .ref (B + 0)), (1, .int (zI s)), (2, .int (zI t)), (3, .int (zI j))] dX10_table_5 (by decide) rfl ?_
  refine w_aloadN dX10_table_7 0 rfl ?_
  refine w_ifnullN 37 dX10_table_9 (by decide) ?_
  refine w_iconst dX10_table_37 ?_
  exact w_iret dX10_table_38 rfl (by first | with_reducible rfl | omega | (split <;> omega)) rfl
set_option maxHeartbeats 4000000 in
set_option maxRecDepth 100000 in
theorem y_X10_table {l : Launch} {D : va_G} {cy : Nat → ClassId} {B N : Nat} {g : Nat → va_E} {la k : Nat} {c : List Co} {M : Int} {fr : Nat} {t j : Int} (ht0 : vTop cy B g 0 la) (hsa : vSA cy B g 62 ) (hw : vSW cy B g (63 + 26 * k) c M fr) (hN : 141 ≤ N) (hk : k < la ∧ la ≤ 3) (hM : M < 2147483648) (hc : cok c) (h2 : 2 ≤ c.length) (h_t : -2147483648 ≤ t ∧ t < 2147483648) (h_j : -2147483648 ≤ j ∧ j < 2147483648) : CTi l yX10_table wsX10_table (rmo 6 161) D cy B N g [.ref (B + 0), .int (zI ((k : Nat) : Int)), .int (zI t), .int (zI j)] (aTab c t j) (fun g' => vSW cy B g' (63 + 26 * k) c M 1 ∧ (∀ q, (q < (63 + 26 * k) ∨ (63 + 26 * k) + 26 ≤ q) → g' q = g q)) := by
  refine WW_of (cc := cX10_table) (maxL := 5) (ret := (some .int)) (own := RX10) (by decide) rfl rfl (Nat.le_of_ble_eq_true rfl) rfl ?_
  intro pp ee ss mm bl me co hmn
  have hfr_0 : ∀ q, (q < (63 + 26 * k) ∨ (63 + 26 * k) + 26 ≤ q) → g q = g q := fun _ _ => rfl
  have hc5 := hc.1
  have htc := tc_small hc
  refine w_aload_n dX10_table_0 rfl 0 rfl ?_
  refine w_iload_n dX10_table_1 rfl 1 rfl ?_
  refine w_callq (As := [.int (zI ((k : Nat) : Int))]) (rest := []) (n := 1) (c_X10_fresh (k := k) ht0 hsa hw (by first | omega | with_reducible rfl) (by first | omega | with_reducible rfl) (by first | omega | with_reducible rfl) (by first | omega | with_reducible rfl)) gX10_table_X10_findFresh rfl rfl rfl (by decide +kernel) ⟨Nat.le_of_ble_eq_true rfl, Nat.le_of_ble_eq_true rfl⟩ rfl (by first | omega | with_reducible rfl) ht0 rfl (Nat.le_of_ble_eq_true rfl) ⟨Nat.zero_le _, Nat.zero_le _⟩ dX10_table_2 rfl (fun g_1 hp_2 => ?_)
  obtain ⟨hw_3, hf_4⟩ := hp_2
  have ht0_5 : vTop cy B g_1 0 la := vTop_fr ht0 (fun q h1 h2 => hf_4 q (by omega))
  have hsa_6 : vSA cy B g_1 62  := vSA_fr hsa (fun q h1 h2 => hf_4 q (by omega))
  have hfr_7 : ∀ q, (q < (63 + 26 * k) ∨ (63 + 26 * k) + 26 ≤ q) → g_1 q = g q := fun q hq => (hf_4 q (by omega)).trans (hfr_0 q hq)
  refine w_as (st' := [.ref (B + (63 + 26 * k))]) (sc_r rfl rfl) ?_
  refine w_astore [(4, .ref (B + (63 + 26 * k))), (0, .ref (B + 0)), (1, .int (zI ((k : Nat) : Int))), (2, .int (zI t)), (3, .int (zI j))] dX10_table_5 (by decide) rfl ?_
  refine w_aload dX10_table_7 0 rfl ?_
  refine w_ifnull dX10_table_9 ?_
  refine w_aload dX10_table_12 0 rfl ?_
  refine w_get (i := 0) (T := TX7) (NF := 4) (63 + 26 * k) (by first | omega | with_reducible rfl) (vSW_str hw_3) rfl (fun _ h => (List.mem_cons_of_mem _ (List.mem_append_left _ (List.mem_append_left _ (List.mem_append_left _ (List.mem_append_right _ h)))))) (by decide) (List.mem_of_getElem? (i := 1) rfl) rfl dX10_table_14 ?_
  refine w_iload_n dX10_table_17 rfl 4 rfl ?_
  obtain ⟨fx_10, hfx_10⟩ := vSW_col hw_3
  refine w_calli (As := [.int (zI j)]) (rest := []) (n := 1) (w_X0_has hw_3 (by first | omega | with_reducible rfl) (by first | omega | with_reducible rfl) (by first | omega | with_reducible rfl)) gX10_table_X0_has rfl rfl rfl (by decide +kernel) ⟨Nat.le_of_ble_eq_true rfl, Nat.le_of_ble_eq_true rfl⟩ rfl (by first | omega | with_reducible rfl) hfx_10 rfl (Nat.le_of_ble_eq_true rfl) ⟨Nat.zero_le _, Nat.zero_le _⟩ dX10_table_18 rfl (fun g_8 hp_9 => ?_)
  subst g_8
  refine w_ifeqB 37 dX10_table_21 (by decide) (fun c_21 => ?_) (fun c_21 => ?_)
  · refine w_iconst dX10_table_37 ?_
    exact w_iret dX10_table_38 rfl (by unfold aTab; rw [if_neg (by omega)]) ⟨hw_3, hfr_7⟩
  · refine w_iload_n dX10_table_24 rfl 3 rfl ?_
    refine w_if_lt 37 dX10_table_25 (by decide) (by first | omega | with_reducible rfl) (fun c_25 => ?_) (fun c_25 => ?_)
    · refine w_iconst dX10_table_37 ?_
      exact w_iret dX10_table_38 rfl (by unfold aTab; rw [if_neg (by omega)]) ⟨hw_3, hfr_7⟩
    · refine w_iload_n dX10_table_28 rfl 3 rfl ?_
      refine w_aload dX10_table_29 0 rfl ?_
      refine w_calli (As := []) (rest := [.int (zI t)]) (n := 0) (w_X7_tableCount hw_3 (by first | omega | with_reducible rfl) (by first | omega | with_reducible rfl) (by first | omega | with_reducible rfl)) gX10_table_X7_tableCount rfl rfl rfl (by decide +kernel) ⟨Nat.le_of_ble_eq_true rfl, Nat.le_of_ble_eq_true rfl⟩ rfl (by first | omega | with_reducible rfl) (vSW_str hw_3) rfl (Nat.le_of_ble_eq_true rfl) ⟨Nat.zero_le _, Nat.zero_le _⟩ dX10_table_31 rfl (fun g_11 hp_12 => ?_)
      subst g_11
      refine w_icmp_lt 39 dX10_table_34 (by decide) (by first | omega | with_reducible rfl) (by first | omega | with_reducible rfl) (fun c_34 => ?_) (fun c_34 => ?_)
      · refine w_aload dX10_table_39 0 rfl ?_
        refine w_iload_n dX10_table_41 rfl 3 rfl ?_
        refine w_iload_n dX10_table_42 rfl 4 rfl ?_
        refine w_calli (As := [.int (zI t), .int (zI j)]) (rest := []) (n := 2) (w_X7_numberIn hw_3 (by first | omega | with_reducible rfl) (by first | omega | with_reducible rfl) (by first | omega | with_reducible rfl) (by first | omega | with_reducible rfl) (by first | omega | with_reducible rfl)) gX10_table_X7_numberIn rfl rfl rfl (by decide +kernel) ⟨Nat.le_of_ble_eq_true rfl, Nat.le_of_ble_eq_true rfl⟩ rfl (by first | omega | with_reducible rfl) (vSW_str hw_3) rfl (Nat.le_of_ble_eq_true rfl) ⟨Nat.zero_le _, Nat.zero_le _⟩ dX10_table_43 rfl (fun g_13 hp_14 => ?_)
        subst g_13
        exact w_iret dX10_table_46 rfl (by unfold aTab; rw [if_pos (by omega)]) ⟨hw_3, hfr_7⟩
      · refine w_iconst dX10_table_37 ?_
        exact w_iret dX10_table_38 rfl (by unfold aTab; rw [if_neg (by omega)]) ⟨hw_3, hfr_7⟩

set_option maxHeartbeats 4000000 in
set_option maxRecDepth 100000 in
theorem n_X10_rank {l : Launch} {D : va_G} {cy : Nat → ClassId} {B N : Nat} {g : Nat → va_E} {la : Nat} {s : Int} (ht0 : vTop cy B g 0 la) (hsa : vSA cy B g 62 ) (hN : 141 ≤ N) (hla : la ≤ 3) (h_s : -2147483648 ≤ s ∧ s < 2147483648) (hs : ¬ (0 ≤ s ∧ s < la)) : CTi l yX10_rank wsX10_rank (rmo 6 161) D cy B N g [.ref (B + 0), .int (zI s)] (-1) (fun g' => g' = g) := by
  refine WW_of (cc := cX10_rank) (maxL := 3) (ret := (some .int)) (own := RX10) (by decide) rfl rfl (Nat.le_of_ble_eq_true rfl) rfl ?_
  intro pp ee ss mm bl me co hmn
  refine w_aload_n dX10_rank_0 rfl 0 rfl ?_
  refine w_iload_n dX10_rank_1 rfl 1 rfl ?_
  refine w_callq (As := [.int (zI s)]) (rest := []) (n := 1) (c_X10_freshN ht0 hsa (by first | omega | with_reducible rfl) (by first | omega | with_reducible rfl) (by first | omega | with_reducible rfl) (by first | omega | with_reducible rfl)) gX10_rank_X10_findFresh rfl rfl rfl (by decide +kernel) ⟨Nat.le_of_ble_eq_true rfl, Nat.le_of_ble_eq_true rfl⟩ rfl (by first | omega | with_reducible rfl) ht0 rfl (Nat.le_of_ble_eq_true rfl) ⟨Nat.zero_le _, Nat.zero_le _⟩ dX10_rank_2 rfl (fun g_1 hp_2 => ?_)
  subst g_1
  refine w_astore_nN [(2, .null), (0, .ref (B + 0)), (1, .int (zI s))] dX10_rank_5 rfl (by decide) rfl ?_
  refine w_aload_nN dX10_rank_6 rfl 0 rfl ?_
  refine w_ifnonnullN dX10_rank_7 ?_
  refine w_iconst dX10_rank_10 ?_
  refine w_goto 18 dX10_rank_11 (by decide) ?_
  exact w_iret dX10_rank_18 rfl (by first | with_reducible rfl | omega | (split <;> omega)) rfl
set_option maxHeartbeats 4000000 in
set_option maxRecDepth 100000 in
theorem y_X10_rank {l : Launch} {D : va_G} {cy : Nat → ClassId} {B N : Nat} {g : Nat → va_E} {la k : Nat} {c : List Co} {M : Int} {fr : Nat} (ht0 : vTop cy B g 0 la) (hsa : vSA cy B g 62 ) (hw : vSW cy B g (63 + 26 * k) c M fr) (hN : 141 ≤ N) (hk : k < la ∧ la ≤ 3) (hM : M < 2147483648) (hc : cok c) (h2 : 2 ≤ c.length) : CTi l yX10_rank wsX10_rank (rmo 6 161) D cy B N g [.ref (B + 0), .int (zI ((k : Nat) : Int))] (aRan c) (fun g' => vSW cy B g' (63 + 26 * k) c M 1 ∧ (∀ q, (q < (63 + 26 * k) ∨ (63 + 26 * k) + 26 ≤ q) → g' q = g q)) := by
  refine WW_of (cc := cX10_rank) (maxL := 3) (ret := (some .int)) (own := RX10) (by decide) rfl rfl (Nat.le_of_ble_eq_true rfl) rfl ?_
  intro pp ee ss mm bl me co hmn
  have hfr_0 : ∀ q, (q < (63 + 26 * k) ∨ (63 + 26 * k) + 26 ≤ q) → g q = g q := fun _ _ => rfl
  refine w_aload_n dX10_rank_0 rfl 0 rfl ?_
  refine w_iload_n dX10_rank_1 rfl 1 rfl ?_
  refine w_callq (As := [.int (zI ((k : Nat) : Int))]) (rest := []) (n := 1) (c_X10_fresh (k := k) ht0 hsa hw (by first | omega | with_reducible rfl) (by first | omega | with_reducible rfl) (by first | omega | with_reducible rfl) (by first | omega | with_reducible rfl)) gX10_rank_X10_findFresh rfl rfl rfl (by decide +kernel) ⟨Nat.le_of_ble_eq_true rfl, Nat.le_of_ble_eq_true rfl⟩ rfl (by first | omega | with_reducible rfl) ht0 rfl (Nat.le_of_ble_eq_true rfl) ⟨Nat.zero_le _, Nat.zero_le _⟩ dX10_rank_2 rfl (fun g_1 hp_2 => ?_)
  obtain ⟨hw_3, hf_4⟩ := hp_2
  have ht0_5 : vTop cy B g_1 0 la := vTop_fr ht0 (fun q h1 h2 => hf_4 q (by omega))
  have hsa_6 : vSA cy B g_1 62  := vSA_fr hsa (fun q h1 h2 => hf_4 q (by omega))
  have hfr_7 : ∀ q, (q < (63 + 26 * k) ∨ (63 + 26 * k) + 26 ≤ q) → g_1 q = g q := fun q hq => (hf_4 q (by omega)).trans (hfr_0 q hq)
  refine w_as (st' := [.ref (B + (63 + 26 * k))]) (sc_r rfl rfl) ?_
  refine w_astore_n [(2, .ref (B + (63 + 26 * k))), (0, .ref (B + 0)), (1, .int (zI ((k : Nat) : Int)))] dX10_rank_5 rfl (by decide) rfl ?_
  refine w_aload_n dX10_rank_6 rfl 0 rfl ?_
  refine w_ifnonnull 14 dX10_rank_7 (by decide) ?_
  refine w_aload_n dX10_rank_14 rfl 0 rfl ?_
  refine w_calli (As := []) (rest := []) (n := 0) (w_X7_seenRank hw_3 (by first | omega | with_reducible rfl) (by first | omega | with_reducible rfl) (by first | omega | with_reducible rfl)) gX10_rank_X7_seenRank rfl rfl rfl (by decide +kernel) ⟨Nat.le_of_ble_eq_true rfl, Nat.le_of_ble_eq_true rfl⟩ rfl (by first | omega | with_reducible rfl) (vSW_str hw_3) rfl (Nat.le_of_ble_eq_true rfl) ⟨Nat.zero_le _, Nat.zero_le _⟩ dX10_rank_15 rfl (fun g_8 hp_9 => ?_)
  subst g_8
  exact w_iret dX10_rank_18 rfl (by rfl) ⟨hw_3, hfr_7⟩

set_option maxHeartbeats 4000000 in
set_option maxRecDepth 100000 in
theorem n_X10_likeliest {l : Launch} {D : va_G} {cy : Nat → ClassId} {B N : Nat} {g : Nat → va_E} {la : Nat} {s j : Int} (ht0 : vTop cy B g 0 la) (hsa : vSA cy B g 62 ) (hN : 141 ≤ N) (hla : la ≤ 3) (h_s : -2147483648 ≤ s ∧ s < 2147483648) (hs : ¬ (0 ≤ s ∧ s < la)) (h_j : -2147483648 ≤ j ∧ j < 2147483648) : CTi l yX10_likeliest wsX10_likeliest (rmo 6 161) D cy B N g [.ref (B + 0), .int (zI s), .int (zI j)] (-1) (fun g' => g' = g) := by
  refine WW_of (cc := cX10_likeliest) (maxL := 4) (ret := (some .int)) (own := RX10) (by decide) rfl rfl (Nat.le_of_ble_eq_true rfl) rfl ?_
  intro pp ee ss mm bl me co hmn
  refine w_aload_n dX10_likeliest_0 rfl 0 rfl ?_
  refine w_iload_n dX10_likeliest_1 rfl 1 rfl ?_
  refine w_callq (As := [.int (zI s)]) (rest := []) (n := 1) (c_X10_freshN ht0 hsa (by first | omega | with_reducible rfl) (by first | omega | with_reducible rfl) (by first | omega | with_reducible rfl) (by first | omega | with_reducible rfl)) gX10_likeliest_X10_findFresh rfl rfl rfl (by decide +kernel) ⟨Nat.le_of_ble_eq_true rfl, Nat.le_of_ble_eq_true rfl⟩ rfl (by first | omega | with_reducible rfl) ht0 rfl (Nat.le_of_ble_eq_true rfl) ⟨Nat.zero_le _, Nat.zero_le _⟩ dX10_likeliest_2 rfl (fun g_1 hp_2 => ?_)
  subst g_1
  refine w_astore_nN [(3, .null), (0, .ref (B + 0)), (1, .int (zI s)), (2, .int (zI j))] dX10_likeliest_5 rfl (by decide) rfl ?_
  refine w_aload_nN dX10_likeliest_6 rfl 0 rfl ?_
  refine w_ifnullN 21 dX10_likeliest_7 (by decide) ?_
  refine w_iconst dX10_likeliest_21 ?_
  exact w_iret dX10_likeliest_22 rfl (by first | with_reducible rfl | omega | (split <;> omega)) rfl
set_option maxHeartbeats 4000000 in
set_option maxRecDepth 100000 in
theorem y_X10_likeliest {l : Launch} {D : va_G} {cy : Nat → ClassId} {B N : Nat} {g : Nat → va_E} {la k : Nat} {c : List Co} {M : Int} {fr : Nat} {j : Int} (ht0 : vTop cy B g 0 la) (hsa : vSA cy B g 62 ) (hw : vSW cy B g (63 + 26 * k) c M fr) (hN : 141 ≤ N) (hk : k < la ∧ la ≤ 3) (hM : M < 2147483648) (hc : cok c) (h2 : 2 ≤ c.length) (h_j : -2147483648 ≤ j ∧ j < 2147483648) : CTi l yX10_likeliest wsX10_likeliest (rmo 6 161) D cy B N g [.ref (B + 0), .int (zI ((k : Nat) : Int)), .int (zI j)] (aLik c j) (fun g' => vSW cy B g' (63 + 26 * k) c M 1 ∧ (∀ q, (q < (63 + 26 * k) ∨ (63 + 26 * k) + 26 ≤ q) → g' q = g q)) := by
  refine WW_of (cc := cX10_likeliest) (maxL := 4) (ret := (some .int)) (own := RX10) (by decide) rfl rfl (Nat.le_of_ble_eq_true rfl) rfl ?_
  intro pp ee ss mm bl me co hmn
  have hfr_0 : ∀ q, (q < (63 + 26 * k) ∨ (63 + 26 * k) + 26 ≤ q) → g q = g q := fun _ _ => rfl
  have hc5 := hc.1
  refine w_aload_n dX10_likeliest_0 rfl 0 rfl ?_
  refine w_iload_n dX10_likeliest_1 rfl 1 rfl ?_
  refine w_callq (As := [.int (zI ((k : Nat) : Int))]) (rest := []) (n := 1) (c_X10_fresh (k := k) ht0 hsa hw (by first | omega | with_reducible rfl) (by first | omega | with_reducible rfl) (by first | omega | with_reducible rfl) (by first | omega | with_reducible rfl)) gX10_likeliest_X10_findFresh rfl rfl rfl (by decide +kernel) ⟨Nat.le_of_ble_eq_true rfl, Nat.le_of_ble_eq_true rfl⟩ rfl (by first | omega | with_reducible rfl) ht0 rfl (Nat.le_of_ble_eq_true rfl) ⟨Nat.zero_le _, Nat.zero_le _⟩ dX10_likeliest_2 rfl (fun g_1 hp_2 => ?_)
  obtain ⟨hw_3, hf_4⟩ := hp_2
  have ht0_5 : vTop cy B g_1 0 la := vTop_fr ht0 (fun q h1 h2 => hf_4 q (by omega))
  have hsa_6 : vSA cy B g_1 62  := vSA_fr hsa (fun q h1 h2 => hf_4 q (by omega))
  have hfr_7 : ∀ q, (q < (63 + 26 * k) ∨ (63 + 26 * k) + 26 ≤ q) → g_1 q = g q := fun q hq => (hf_4 q (by omega)).trans (hfr_0 q hq)
  refine w_as (st' := [.ref (B + (63 + 26 * k))]) (sc_r rfl rfl) ?_
  refine w_astore_n [(3, .ref (B + (63 + 26 * k))), (0, .ref (B + 0)), (1, .int (zI ((k : Nat) : Int))), (2, .int (zI j))] dX10_likeliest_5 rfl (by decide) rfl ?_
  refine w_aload_n dX10_likeliest_6 rfl 0 rfl ?_
  refine w_ifnull dX10_likeliest_7 ?_
  refine w_aload_n dX10_likeliest_10 rfl 0 rfl ?_
  refine w_get (i := 0) (T := TX7) (NF := 4) (63 + 26 * k) (by first | omega | with_reducible rfl) (vSW_str hw_3) rfl (fun _ h => (List.mem_cons_of_mem _ (List.mem_append_left _ (List.mem_append_left _ (List.mem_append_left _ (List.mem_append_right _ h)))))) (by decide) (List.mem_of_getElem? (i := 1) rfl) rfl dX10_likeliest_11 ?_
  refine w_iload_n dX10_likeliest_14 rfl 3 rfl ?_
  obtain ⟨fx_10, hfx_10⟩ := vSW_col hw_3
  refine w_calli (As := [.int (zI j)]) (rest := []) (n := 1) (w_X0_has hw_3 (by first | omega | with_reducible rfl) (by first | omega | with_reducible rfl) (by first | omega | with_reducible rfl)) gX10_likeliest_X0_has rfl rfl rfl (by decide +kernel) ⟨Nat.le_of_ble_eq_true rfl, Nat.le_of_ble_eq_true rfl⟩ rfl (by first | omega | with_reducible rfl) hfx_10 rfl (Nat.le_of_ble_eq_true rfl) ⟨Nat.zero_le _, Nat.zero_le _⟩ dX10_likeliest_15 rfl (fun g_8 hp_9 => ?_)
  subst g_8
  refine w_ifneB 23 dX10_likeliest_18 (by decide) (fun c_18 => ?_) (fun c_18 => ?_)
  · refine w_aload_n dX10_likeliest_23 rfl 0 rfl ?_
    refine w_iload_n dX10_likeliest_24 rfl 3 rfl ?_
    refine w_calli (As := [.int (zI j)]) (rest := []) (n := 1) (w_X7_numberInLikeliest hw_3 (by first | omega | with_reducible rfl) (by first | omega | with_reducible rfl) (by first | omega | with_reducible rfl) (by first | omega | with_reducible rfl)) gX10_likeliest_X7_numberInLikeliest rfl rfl rfl (by decide +kernel) ⟨Nat.le_of_ble_eq_true rfl, Nat.le_of_ble_eq_true rfl⟩ rfl (by first | omega | with_reducible rfl) (vSW_str hw_3) rfl (Nat.le_of_ble_eq_true rfl) ⟨Nat.zero_le _, Nat.zero_le _⟩ dX10_likeliest_25 rfl (fun g_11 hp_12 => ?_)
    subst g_11
    exact w_iret dX10_likeliest_28 rfl (by unfold aLik; rw [if_pos c_18]) ⟨hw_3, hfr_7⟩
  · refine w_iconst dX10_likeliest_21 ?_
    exact w_iret dX10_likeliest_22 rfl (by unfold aLik; rw [if_neg c_18]) ⟨hw_3, hfr_7⟩

