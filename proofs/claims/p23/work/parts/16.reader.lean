/-! ===== MarginTables$Reader ===== -/
theorem inA_rg {n : Nat} {L : Int → Int} (h : ∀ i : Int, 0 ≤ i → i < n → 0 ≤ L i ∧ L i < 65536) (p : Int) : 0 ≤ inA n L p ∧ inA n L p < 65536 := by
  by_cases hp : 0 ≤ p ∧ p < n
  · rw [inA_in hp]
    exact h p hp.1 hp.2
  · rw [inA_out hp]
    omega
def figA (n : Nat) (L : Int → Int) (p : Int) : Int := if 48 ≤ inA n L p ∧ inA n L p ≤ 57 then inA n L p - 48 else -1
theorem figA_rg (n : Nat) (L : Int → Int) (p : Int) : -1 ≤ figA n L p ∧ figA n L p ≤ 9 := by
  unfold figA
  split <;> omega
def numV (n : Nat) (L : Int → Int) (p : Int) : Int := if figA n L p < 0 then -1 else if figA n L (p + 1) < 0 then figA n L p else figA n L p * 10 + figA n L (p + 1)
def numP (n : Nat) (L : Int → Int) (p : Int) : Int := if figA n L p < 0 then p else if figA n L (p + 1) < 0 then p + 1 else p + 1 + 1
theorem numV_rg (n : Nat) (L : Int → Int) (p : Int) : -1 ≤ numV n L p ∧ numV n L p ≤ 99 := by
  have h1 := figA_rg n L p
  have h2 := figA_rg n L (p + 1)
  unfold numV
  split
  · omega
  · split <;> omega
theorem numP_rg (n : Nat) (L : Int → Int) (p : Int) : p ≤ numP n L p ∧ numP n L p ≤ p + 2 := by
  unfold numP
  split
  · omega
  · split <;> omega
set_option maxHeartbeats 4000000 in
set_option maxRecDepth 100000 in
theorem c_X5_strataRead {l : Launch} {D : va_G} {cy : Nat → ClassId} {B N : Nat} {g : Nat → va_E} {rb sr : Nat} {pl : Int} (hr : vReader cy B g rb sr pl) (hR : rb + 2 ≤ N) : CTi l yX5_strataRead wsX5_strataRead (rmo 0 0) D cy B N g [.ref (B + rb)] ((sr : Nat) : Int) (fun g' => g' = g) := by
  refine WW_of (cc := cX5_strataRead) (maxL := 1) (ret := (some .int)) (own := RX5) (by decide) rfl rfl (Nat.le_of_ble_eq_true rfl) rfl ?_
  intro pp ee ss mm bl me co hmn
  refine w_aload_n dX5_strataRead_0 rfl 0 rfl ?_
  refine w_get (i := 1) (T := TX5) (NF := 3) rb (by first | omega | with_reducible rfl) hr.1 rfl (fun _ h => (List.mem_cons_of_mem _ (List.mem_append_right _ h))) (by decide) (List.mem_of_getElem? (i := 1) rfl) rfl dX5_strataRead_1 ?_
  exact w_iret dX5_strataRead_4 rfl (by first | with_reducible rfl | omega | (split <;> omega)) rfl
set_option maxHeartbeats 4000000 in
set_option maxRecDepth 100000 in
theorem c_X5_figureAt {l : Launch} {D : va_G} {cy : Nat → ClassId} {B N : Nat} {g : Nat → va_E} {tb n : Nat} {L : Int → Int} {p : Int} (ht : vText cy B g tb n L) (hT : tb + 2 ≤ N) (hn : n ≤ 200) (h_p : -2147483648 ≤ p ∧ p < 2147483648) (hL : ∀ i : Int, 0 ≤ i → i < n → 0 ≤ L i ∧ L i < 65536) : CTi l yX5_figureAt wsX5_figureAt (rmo 1 21) D cy B N g [.ref (B + tb), .int (zI p)] (figA n L p) (fun g' => g' = g) := by
  refine WW_of (cc := cX5_figureAt) (maxL := 3) (ret := (some .int)) (own := RX5) (by decide) rfl rfl (Nat.le_of_ble_eq_true rfl) rfl ?_
  intro pp ee ss mm bl me co hmn
  refine w_aload_n dX5_figureAt_0 rfl 0 rfl ?_
  refine w_iload_n dX5_figureAt_1 rfl 1 rfl ?_
  refine w_calli (As := [.int (zI p)]) (rest := []) (n := 1) (c_X9_letterAt ht (by first | omega | with_reducible rfl) (by first | omega | with_reducible rfl) (by first | omega | with_reducible rfl) (by first | omega | with_reducible rfl)) gX5_figureAt_X9_letterAt rfl rfl rfl (by decide +kernel) ⟨Nat.le_of_ble_eq_true rfl, Nat.le_of_ble_eq_true rfl⟩ rfl (by first | omega | with_reducible rfl) ht.1 rfl (Nat.le_of_ble_eq_true rfl) ⟨Nat.zero_le _, Nat.zero_le _⟩ dX5_figureAt_2 rfl (fun g_1 hp_2 => ?_)
  subst g_1
  have h9 := inA_rg hL p
  refine w_istore_n [(2, .int (zI (inA n L p))), (0, .ref (B + tb)), (1, .int (zI p))] dX5_figureAt_5 rfl (by decide) rfl ?_
  refine w_iload_n dX5_figureAt_6 rfl 0 rfl ?_
  refine w_bipush dX5_figureAt_7 (by decide) ?_
  refine w_icmp_lt 25 dX5_figureAt_9 (by decide) (by first | omega | with_reducible rfl) (by first | omega | with_reducible rfl) (fun c_9 => ?_) (fun c_9 => ?_)
  · refine w_iconst dX5_figureAt_25 ?_
    exact w_iret dX5_figureAt_26 rfl (by first | (unfold figA; rw [if_neg (by omega)]) | (unfold figA; rw [if_pos (by omega)])) rfl
  · refine w_iload_n dX5_figureAt_12 rfl 0 rfl ?_
    refine w_bipush dX5_figureAt_13 (by decide) ?_
    refine w_icmp_gt 25 dX5_figureAt_15 (by decide) (by first | omega | with_reducible rfl) (by first | omega | with_reducible rfl) (fun c_15 => ?_) (fun c_15 => ?_)
    · refine w_iconst dX5_figureAt_25 ?_
      exact w_iret dX5_figureAt_26 rfl (by first | (unfold figA; rw [if_neg (by omega)]) | (unfold figA; rw [if_pos (by omega)])) rfl
    · refine w_iload_n dX5_figureAt_18 rfl 0 rfl ?_
      refine w_bipush dX5_figureAt_19 (by decide) ?_
      refine w_isub dX5_figureAt_21 ?_
      refine w_goto 26 dX5_figureAt_22 (by decide) ?_
      exact w_iret dX5_figureAt_26 rfl (by first | (unfold figA; rw [if_neg (by omega)]) | (unfold figA; rw [if_pos (by omega)])) rfl
set_option maxHeartbeats 4000000 in
set_option maxRecDepth 100000 in
theorem c_X5_readSign {l : Launch} {D : va_G} {cy : Nat → ClassId} {B N : Nat} {g : Nat → va_E} {rb sr : Nat} {pl : Int} {tb n : Nat} {L : Int → Int} {x : Int} (hr : vReader cy B g rb sr pl) (ht : vText cy B g tb n L) (hR : rb + 2 ≤ N) (hT : tb + 2 ≤ N) (hn : n ≤ 200) (hL : ∀ i : Int, 0 ≤ i → i < n → 0 ≤ L i ∧ L i < 65536) (hpl : 0 ≤ pl ∧ pl ≤ 1000) (hrt : rb + 2 ≤ tb ∨ tb + 2 ≤ rb) (hx : 0 ≤ x ∧ x < 65536) : CTi l yX5_readSign wsX5_readSign (rmo 1 21) D cy B N g [.ref (B + rb), .ref (B + tb), .int (zI x)] (if inA n L pl = x then 1 else 0) (fun g' => vReader cy B g' rb sr (if inA n L pl = x then pl + 1 else pl) ∧ (∀ q, (q < rb ∨ rb + 2 ≤ q) → g' q = g q)) := by
  refine WW_of (cc := cX5_readSign) (maxL := 3) (ret := (some .boolean)) (own := RX5) (by decide) rfl rfl (Nat.le_of_ble_eq_true rfl) rfl ?_
  intro pp ee ss mm bl me co hmn
  have hfr_0 : ∀ q, (q < rb ∨ rb + 2 ≤ q) → g q = g q := fun _ _ => rfl
  refine w_aload_n dX5_readSign_0 rfl 1 rfl ?_
  refine w_aload_n dX5_readSign_1 rfl 0 rfl ?_
  refine w_get (i := 2) (T := TX5) (NF := 3) rb (by first | omega | with_reducible rfl) hr.1 rfl (fun _ h => (List.mem_cons_of_mem _ (List.mem_append_left _ (List.mem_append_right _ h)))) (by decide) (List.mem_of_getElem? (i := 1) rfl) rfl dX5_readSign_2 ?_
  refine w_calli (As := [.int (zI pl)]) (rest := []) (n := 1) (c_X9_letterAt ht (by first | omega | with_reducible rfl) (by first | omega | with_reducible rfl) (by first | omega | with_reducible rfl) (by first | omega | with_reducible rfl)) gX5_readSign_X9_letterAt rfl rfl rfl (by decide +kernel) ⟨Nat.le_of_ble_eq_true rfl, Nat.le_of_ble_eq_true rfl⟩ rfl (by first | omega | with_reducible rfl) ht.1 rfl (Nat.le_of_ble_eq_true rfl) ⟨Nat.zero_le _, Nat.zero_le _⟩ dX5_readSign_5 rfl (fun g_1 hp_2 => ?_)
  subst g_1
  have h9 := inA_rg hL pl
  refine w_iload_n dX5_readSign_8 rfl 2 rfl ?_
  refine w_icmp_eq 14 dX5_readSign_9 (by decide) (by first | omega | with_reducible rfl) (by first | omega | with_reducible rfl) (fun c_9 => ?_) (fun c_9 => ?_)
  · refine w_aload_n dX5_readSign_14 rfl 0 rfl ?_
    refine w_dup dX5_readSign_15 rfl ?_
    refine w_get (i := 2) (T := TX5) (NF := 3) rb (by first | omega | with_reducible rfl) hr.1 rfl (fun _ h => (List.mem_cons_of_mem _ (List.mem_append_left _ (List.mem_append_right _ h)))) (by decide) (List.mem_of_getElem? (i := 1) rfl) rfl dX5_readSign_16 ?_
    refine w_iconst dX5_readSign_19 ?_
    refine w_iadd dX5_readSign_20 ?_
    refine w_as (st' := [.int (zI (if inA n L pl = x then pl + 1 else pl)), .ref (B + rb)]) (sc_i (by rw [if_pos c_9]) rfl) ?_
    refine w_put (i := 2) (T := TX5) (NF := 3) rb (by first | omega | with_reducible rfl) hr.1 rfl (fun _ h => (List.mem_cons_of_mem _ (List.mem_append_left _ (List.mem_append_right _ h)))) tyX5 tyX5_ok nmX5 (by decide) (List.mem_of_getElem? (i := 1) rfl) rfl rfl rfl (Nat.le_of_ble_eq_true rfl) dX5_readSign_21 (fun g_3 he_4 hn_5 => ?_)
    have hr_6 : vReader cy B g_3 rb sr (if inA n L pl = x then pl + 1 else pl) := ⟨he_4, ((hn_5 _ (by omega)).trans hr.2)⟩
    have ht_7 : vText cy B g_3 tb n L := vText_fr ht (fun q h1 h2 => hn_5 q (by omega))
    have hfr_8 : ∀ q, (q < rb ∨ rb + 2 ≤ q) → g_3 q = g q := fun q hq => (hn_5 q (by omega)).trans (hfr_0 q hq)
    refine w_iconst dX5_readSign_24 ?_
    exact w_zret dX5_readSign_25 rfl rfl (by rw [if_pos c_9]) ⟨hr_6, hfr_8⟩
  · refine w_iconst dX5_readSign_12 ?_
    exact w_zret dX5_readSign_13 rfl rfl (by rw [if_neg c_9]) ⟨(by have h9 := hr; rw [if_neg c_9]; exact h9), hfr_0⟩
set_option maxHeartbeats 4000000 in
set_option maxRecDepth 100000 in
theorem c_X5_readNumber {l : Launch} {D : va_G} {cy : Nat → ClassId} {B N : Nat} {g : Nat → va_E} {rb sr : Nat} {pl : Int} {tb n : Nat} {L : Int → Int} (hr : vReader cy B g rb sr pl) (ht : vText cy B g tb n L) (hR : rb + 2 ≤ N) (hT : tb + 2 ≤ N) (hn : n ≤ 200) (hL : ∀ i : Int, 0 ≤ i → i < n → 0 ≤ L i ∧ L i < 65536) (hpl : 0 ≤ pl ∧ pl ≤ 1000) (hrt : rb + 2 ≤ tb ∨ tb + 2 ≤ rb) : CTi l yX5_readNumber wsX5_readNumber (rmo 2 43) D cy B N g [.ref (B + rb), .ref (B + tb)] (numV n L pl) (fun g' => vReader cy B g' rb sr (numP n L pl) ∧ (∀ q, (q < rb ∨ rb + 2 ≤ q) → g' q = g q)) := by
  refine WW_of (cc := cX5_readNumber) (maxL := 4) (ret := (some .int)) (own := RX5) (by decide) rfl rfl (Nat.le_of_ble_eq_true rfl) rfl ?_
  intro pp ee ss mm bl me co hmn
  have hfr_0 : ∀ q, (q < rb ∨ rb + 2 ≤ q) → g q = g q := fun _ _ => rfl
  refine w_aload_n dX5_readNumber_0 rfl 1 rfl ?_
  refine w_aload_n dX5_readNumber_1 rfl 0 rfl ?_
  refine w_get (i := 2) (T := TX5) (NF := 3) rb (by first | omega | with_reducible rfl) hr.1 rfl (fun _ h => (List.mem_cons_of_mem _ (List.mem_append_left _ (List.mem_append_right _ h)))) (by decide) (List.mem_of_getElem? (i := 1) rfl) rfl dX5_readNumber_2 ?_
  refine w_calliS (As := [.ref (B + tb), .int (zI pl)]) (rest := []) (n := 2) (c_X5_figureAt ht (by first | omega | with_reducible rfl) (by first | omega | with_reducible rfl) (by first | omega | with_reducible rfl) (by first | omega | with_reducible rfl)) gX5_readNumber_X5_figureAt rfl rfl rfl (by decide +kernel) ⟨Nat.le_of_ble_eq_true rfl, Nat.le_of_ble_eq_true rfl⟩ rfl (Nat.le_of_ble_eq_true rfl) ⟨Nat.zero_le _, Nat.zero_le _⟩ dX5_readNumber_5 rfl (fun g_1 hp_2 => ?_)
  subst g_1
  have h9 := figA_rg n L pl
  refine w_istore_n [(2, .int (zI (figA n L pl))), (0, .ref (B + rb)), (1, .ref (B + tb))] dX5_readNumber_8 rfl (by decide) rfl ?_
  refine w_iload_n dX5_readNumber_9 rfl 0 rfl ?_
  refine w_if_ge 15 dX5_readNumber_10 (by decide) (by first | omega | with_reducible rfl) (fun c_10 => ?_) (fun c_10 => ?_)
  · refine w_aload_n dX5_readNumber_15 rfl 1 rfl ?_
    refine w_dup dX5_readNumber_16 rfl ?_
    refine w_get (i := 2) (T := TX5) (NF := 3) rb (by first | omega | with_reducible rfl) hr.1 rfl (fun _ h => (List.mem_cons_of_mem _ (List.mem_append_left _ (List.mem_append_right _ h)))) (by decide) (List.mem_of_getElem? (i := 1) rfl) rfl dX5_readNumber_17 ?_
    refine w_iconst dX5_readNumber_20 ?_
    refine w_iadd dX5_readNumber_21 ?_
    refine w_put (i := 2) (T := TX5) (NF := 3) rb (by first | omega | with_reducible rfl) hr.1 rfl (fun _ h => (List.mem_cons_of_mem _ (List.mem_append_left _ (List.mem_append_right _ h)))) tyX5 tyX5_ok nmX5 (by decide) (List.mem_of_getElem? (i := 1) rfl) rfl rfl rfl (Nat.le_of_ble_eq_true rfl) dX5_readNumber_22 (fun g_3 he_4 hn_5 => ?_)
    have hr_6 : vReader cy B g_3 rb sr (pl + 1) := ⟨he_4, ((hn_5 _ (by omega)).trans hr.2)⟩
    have ht_7 : vText cy B g_3 tb n L := vText_fr ht (fun q h1 h2 => hn_5 q (by omega))
    have hfr_8 : ∀ q, (q < rb ∨ rb + 2 ≤ q) → g_3 q = g q := fun q hq => (hn_5 q (by omega)).trans (hfr_0 q hq)
    refine w_aload_n dX5_readNumber_25 rfl 2 rfl ?_
    refine w_aload_n dX5_readNumber_26 rfl 1 rfl ?_
    refine w_get (i := 2) (T := TX5) (NF := 3) rb (by first | omega | with_reducible rfl) hr_6.1 rfl (fun _ h => (List.mem_cons_of_mem _ (List.mem_append_left _ (List.mem_append_right _ h)))) (by decide) (List.mem_of_getElem? (i := 1) rfl) rfl dX5_readNumber_27 ?_
    refine w_calliS (As := [.ref (B + tb), .int (zI (pl + 1))]) (rest := []) (n := 2) (c_X5_figureAt ht_7 (by first | omega | with_reducible rfl) (by first | omega | with_reducible rfl) (by first | omega | with_reducible rfl) (by first | omega | with_reducible rfl)) gX5_readNumber_X5_figureAt rfl rfl rfl (by decide +kernel) ⟨Nat.le_of_ble_eq_true rfl, Nat.le_of_ble_eq_true rfl⟩ rfl (Nat.le_of_ble_eq_true rfl) ⟨Nat.zero_le _, Nat.zero_le _⟩ dX5_readNumber_30 rfl (fun g_9 hp_10 => ?_)
    subst g_9
    have h8 := figA_rg n L (pl + 1)
    refine w_istore_n [(3, .int (zI (figA n L (pl + 1)))), (2, .int (zI (figA n L pl))), (0, .ref (B + rb)), (1, .ref (B + tb))] dX5_readNumber_33 rfl (by decide) rfl ?_
    refine w_iload_n dX5_readNumber_34 rfl 0 rfl ?_
    refine w_if_ge 40 dX5_readNumber_35 (by decide) (by first | omega | with_reducible rfl) (fun c_35 => ?_) (fun c_35 => ?_)
    · refine w_aload_n dX5_readNumber_40 rfl 2 rfl ?_
      refine w_dup dX5_readNumber_41 rfl ?_
      refine w_get (i := 2) (T := TX5) (NF := 3) rb (by first | omega | with_reducible rfl) hr_6.1 rfl (fun _ h => (List.mem_cons_of_mem _ (List.mem_append_left _ (List.mem_append_right _ h)))) (by decide) (List.mem_of_getElem? (i := 1) rfl) rfl dX5_readNumber_42 ?_
      refine w_iconst dX5_readNumber_45 ?_
      refine w_iadd dX5_readNumber_46 ?_
      refine w_put (i := 2) (T := TX5) (NF := 3) rb (by first | omega | with_reducible rfl) hr_6.1 rfl (fun _ h => (List.mem_cons_of_mem _ (List.mem_append_left _ (List.mem_append_right _ h)))) tyX5 tyX5_ok nmX5 (by decide) (List.mem_of_getElem? (i := 1) rfl) rfl rfl rfl (Nat.le_of_ble_eq_true rfl) dX5_readNumber_47 (fun g_11 he_12 hn_13 => ?_)
      have hr_14 : vReader cy B g_11 rb sr ((pl + 1) + 1) := ⟨he_12, ((hn_13 _ (by omega)).trans hr_6.2)⟩
      have ht_15 : vText cy B g_11 tb n L := vText_fr ht_7 (fun q h1 h2 => hn_13 q (by omega))
      have hfr_16 : ∀ q, (q < rb ∨ rb + 2 ≤ q) → g_11 q = g q := fun q hq => (hn_13 q (by omega)).trans (hfr_8 q hq)
      refine w_iload_n dX5_readNumber_50 rfl 1 rfl ?_
      refine w_bipush dX5_readNumber_51 (by decide) ?_
      refine w_imul dX5_readNumber_53 ?_
      refine w_iload_n dX5_readNumber_54 rfl 0 rfl ?_
      refine w_iadd dX5_readNumber_55 ?_
      exact w_iret dX5_readNumber_56 rfl (by unfold numV; rw [if_neg (by omega), if_neg (by omega)]) ⟨(by have h9 := hr_14; unfold numP; rw [if_neg (by omega), if_neg (by omega)]; exact h9), hfr_16⟩
    · refine w_iload_n dX5_readNumber_38 rfl 1 rfl ?_
      exact w_iret dX5_readNumber_39 rfl (by unfold numV; rw [if_neg (by omega), if_pos (by omega)]) ⟨(by have h9 := hr_6; unfold numP; rw [if_neg (by omega), if_pos (by omega)]; exact h9), hfr_8⟩
  · refine w_iconst dX5_readNumber_13 ?_
    exact w_iret dX5_readNumber_14 rfl (by unfold numV; rw [if_pos (by omega)]) ⟨(by have h9 := hr; unfold numP; rw [if_pos (by omega)]; exact h9), hfr_0⟩
set_option maxHeartbeats 4000000 in
set_option maxRecDepth 100000 in
theorem c_X5_draft {l : Launch} {D : va_G} {cy : Nat → ClassId} {B N : Nat} {g : Nat → va_E} {rb sr : Nat} {pl : Int} {i : Int} (hr : vReader cy B g rb sr pl) (hR : rb + 2 ≤ N) (hsr : sr ≤ 3) (h_i : -2147483648 ≤ i ∧ i < 2147483648) : CTq l yX5_draft wsX5_draft (rmo 0 0) D cy B N g [.ref (B + rb), .int (zI i)] (if 0 ≤ i ∧ i < sr then some (B + ((rb + 2) + 10 * i.toNat)) else none) (fun g' => g' = g) := by
  refine WW_of (cc := cX5_draft) (maxL := 2) (ret := (some (.object "MarginTables$Columns"))) (own := RX5) (by decide) rfl rfl (Nat.le_of_ble_eq_true rfl) rfl ?_
  intro pp ee ss mm bl me co hmn
  refine w_iload_n dX5_draft_0 rfl 1 rfl ?_
  refine w_if_lt 30 dX5_draft_1 (by decide) (by first | omega | with_reducible rfl) (fun c_1 => ?_) (fun c_1 => ?_)
  · refine w_null dX5_draft_30 ?_
    exact w_aret (E' := none) dX5_draft_31 rfl (by first | (rw [if_neg (by omega)]) | (rw [if_pos (by omega), show i.toNat = jn by omega])) rfl
  · refine w_iload_n dX5_draft_4 rfl 1 rfl ?_
    refine w_aload_n dX5_draft_5 rfl 0 rfl ?_
    refine w_get (i := 1) (T := TX5) (NF := 3) rb (by first | omega | with_reducible rfl) hr.1 rfl (fun _ h => (List.mem_cons_of_mem _ (List.mem_append_right _ h))) (by decide) (List.mem_of_getElem? (i := 1) rfl) rfl dX5_draft_6 ?_
    refine w_icmp_ge 30 dX5_draft_9 (by decide) (by first | omega | with_reducible rfl) (by first | omega | with_reducible rfl) (fun c_9 => ?_) (fun c_9 => ?_)
    · refine w_null dX5_draft_30 ?_
      exact w_aret (E' := none) dX5_draft_31 rfl (by first | (rw [if_neg (by omega)]) | (rw [if_pos (by omega), show i.toNat = jn by omega])) rfl
    · refine w_iload_n dX5_draft_12 rfl 1 rfl ?_
      refine w_aload_n dX5_draft_13 rfl 0 rfl ?_
      refine w_get (i := 0) (T := TX5) (NF := 3) rb (by first | omega | with_reducible rfl) hr.1 rfl (fun _ h => (List.mem_cons_of_mem _ (List.mem_append_right _ h))) (by decide) (List.mem_of_getElem? (i := 2) rfl) rfl dX5_draft_14 ?_
      refine w_alen (rb + 1) 3 (by first | omega | with_reducible rfl) hr.2 rfl dX5_draft_17 ?_
      refine w_icmp_ge 30 dX5_draft_18 (by decide) (by first | omega | with_reducible rfl) (by first | omega | with_reducible rfl) (fun c_18 => ?_) (fun c_18 => ?_)
      · exfalso; omega
      · obtain ⟨jn, hjn⟩ := Int.eq_ofNat_of_zero_le (show 0 ≤ i by omega)
        refine w_aload_n dX5_draft_21 rfl 0 rfl ?_
        refine w_get (i := 0) (T := TX5) (NF := 3) rb (by first | omega | with_reducible rfl) hr.1 rfl (fun _ h => (List.mem_cons_of_mem _ (List.mem_append_right _ h))) (by decide) (List.mem_of_getElem? (i := 2) rfl) rfl dX5_draft_22 ?_
        refine w_iload_n dX5_draft_25 rfl 1 rfl ?_
        refine w_aald (j := jn) (k' := ((rb + 2) + 10 * jn)) (rb + 1) (by first | omega | with_reducible rfl) hr.2 rfl rfl (by first | omega | with_reducible rfl) (by first | omega | with_reducible rfl) (by first | omega | with_reducible rfl) dX5_draft_26 ?_
        refine w_goto 31 dX5_draft_27 (by decide) ?_
        exact w_aret (E' := some (B + ((rb + 2) + 10 * jn))) dX5_draft_31 rfl (by first | (rw [if_neg (by omega)]) | (rw [if_pos (by omega), show i.toNat = jn by omega])) rfl
set_option maxHeartbeats 4000000 in
set_option maxRecDepth 100000 in
theorem c_X5_addS_full {l : Launch} {D : va_G} {cy : Nat → ClassId} {B N : Nat} {g : Nat → va_E} {rb sr : Nat} {pl : Int} {sets : Nat} {dn : Nat → Nat} {dv : Nat → Int} {dT dX dV : Nat → Int → Int} {dW : Nat → Nat → Int → Int} (hr : vReader cy B g rb sr pl) (hd : vDr cy B g (rb + 2) sets dn dv dT dX dV dW) (hR : rb + 2 ≤ N) (hD : rb + 32 ≤ N) (hsr : sr = 3) : CTi l yX5_addStratum wsX5_addStratum (rmo 0 0) D cy B N g [.ref (B + rb)] 0 (fun g' => g' = g) := by
  refine WW_of (cc := cX5_addStratum) (maxL := 2) (ret := (some .boolean)) (own := RX5) (by decide) rfl rfl (Nat.le_of_ble_eq_true rfl) rfl ?_
  intro pp ee ss mm bl me co hmn
  refine w_aload_n dX5_addStratum_0 rfl 0 rfl ?_
  refine w_get (i := 1) (T := TX5) (NF := 3) rb (by first | omega | with_reducible rfl) hr.1 rfl (fun _ h => (List.mem_cons_of_mem _ (List.mem_append_left _ (List.mem_append_right _ h)))) (by decide) (List.mem_of_getElem? (i := 1) rfl) rfl dX5_addStratum_1 ?_
  refine w_aload_n dX5_addStratum_4 rfl 0 rfl ?_
  refine w_get (i := 0) (T := TX5) (NF := 3) rb (by first | omega | with_reducible rfl) hr.1 rfl (fun _ h => (List.mem_cons_of_mem _ (List.mem_append_left _ (List.mem_append_right _ h)))) (by decide) (List.mem_of_getElem? (i := 2) rfl) rfl dX5_addStratum_5 ?_
  refine w_alen (rb + 1) 3 (by first | omega | with_reducible rfl) hr.2 rfl dX5_addStratum_8 ?_
  refine w_icmp_lt 14 dX5_addStratum_9 (by decide) (by first | omega | with_reducible rfl) (by first | omega | with_reducible rfl) (fun c_9 => ?_) (fun c_9 => ?_)
  · exfalso; omega
  · refine w_iconst dX5_addStratum_12 ?_
    exact w_zret dX5_addStratum_13 rfl rfl (by first | with_reducible rfl | omega | (split <;> omega)) rfl
set_option maxHeartbeats 4000000 in
set_option maxRecDepth 100000 in
theorem c_X5_addS_ok {l : Launch} {D : va_G} {cy : Nat → ClassId} {B N : Nat} {g : Nat → va_E} {rb sr : Nat} {pl : Int} {sets : Nat} {dn : Nat → Nat} {dv : Nat → Int} {dT dX dV : Nat → Int → Int} {dW : Nat → Nat → Int → Int} (hr : vReader cy B g rb sr pl) (hd : vDr cy B g (rb + 2) sets dn dv dT dX dV dW) (hR : rb + 2 ≤ N) (hD : rb + 32 ≤ N) (hsr : sr < 3) : CTi l yX5_addStratum wsX5_addStratum (rmo 1 21) D cy B N g [.ref (B + rb)] 1 (fun g' => vReader cy B g' rb (sr + 1) pl ∧ vDr cy B g' (rb + 2) sets (uF dn sr 0) (uF dv sr (dv sr + 1)) (uF dT sr (dT sr)) (uF dX sr (dX sr)) (uF dV sr (dV sr)) (uF dW sr (dW sr)) ∧ (∀ q, (q < rb ∨ rb + 32 ≤ q) → g' q = g q)) := by
  refine WW_of (cc := cX5_addStratum) (maxL := 2) (ret := (some .boolean)) (own := RX5) (by decide) rfl rfl (Nat.le_of_ble_eq_true rfl) rfl ?_
  intro pp ee ss mm bl me co hmn
  have hfr_0 : ∀ q, (q < rb ∨ rb + 32 ≤ q) → g q = g q := fun _ _ => rfl
  refine w_aload_n dX5_addStratum_0 rfl 0 rfl ?_
  refine w_get (i := 1) (T := TX5) (NF := 3) rb (by first | omega | with_reducible rfl) hr.1 rfl (fun _ h => (List.mem_cons_of_mem _ (List.mem_append_left _ (List.mem_append_right _ h)))) (by decide) (List.mem_of_getElem? (i := 1) rfl) rfl dX5_addStratum_1 ?_
  refine w_aload_n dX5_addStratum_4 rfl 0 rfl ?_
  refine w_get (i := 0) (T := TX5) (NF := 3) rb (by first | omega | with_reducible rfl) hr.1 rfl (fun _ h => (List.mem_cons_of_mem _ (List.mem_append_left _ (List.mem_append_right _ h)))) (by decide) (List.mem_of_getElem? (i := 2) rfl) rfl dX5_addStratum_5 ?_
  refine w_alen (rb + 1) 3 (by first | omega | with_reducible rfl) hr.2 rfl dX5_addStratum_8 ?_
  refine w_icmp_lt 14 dX5_addStratum_9 (by decide) (by first | omega | with_reducible rfl) (by first | omega | with_reducible rfl) (fun c_9 => ?_) (fun c_9 => ?_)
  · refine w_aload_n dX5_addStratum_14 rfl 0 rfl ?_
    refine w_dup dX5_addStratum_15 rfl ?_
    refine w_get (i := 1) (T := TX5) (NF := 3) rb (by first | omega | with_reducible rfl) hr.1 rfl (fun _ h => (List.mem_cons_of_mem _ (List.mem_append_left _ (List.mem_append_right _ h)))) (by decide) (List.mem_of_getElem? (i := 1) rfl) rfl dX5_addStratum_16 ?_
    refine w_iconst dX5_addStratum_19 ?_
    refine w_iadd dX5_addStratum_20 ?_
    refine w_as (st' := [.int (zI (((sr + 1) : Nat) : Int)), .ref (B + rb)]) (sc_i (by first | omega | with_reducible rfl) rfl) ?_
    refine w_put (i := 1) (T := TX5) (NF := 3) rb (by first | omega | with_reducible rfl) hr.1 rfl (fun _ h => (List.mem_cons_of_mem _ (List.mem_append_left _ (List.mem_append_right _ h)))) tyX5 tyX5_ok nmX5 (by decide) (List.mem_of_getElem? (i := 1) rfl) rfl rfl rfl (Nat.le_of_ble_eq_true rfl) dX5_addStratum_21 (fun g_1 he_2 hn_3 => ?_)
    have hr_4 : vReader cy B g_1 rb (sr + 1) pl := ⟨he_2, ((hn_3 _ (by omega)).trans hr.2)⟩
    have hd_5 : vDr cy B g_1 (rb + 2) sets dn dv dT dX dV dW := vDr_fr hd (fun q h1 h2 => hn_3 q (by omega))
    have hfr_6 : ∀ q, (q < rb ∨ rb + 32 ≤ q) → g_1 q = g q := fun q hq => (hn_3 q (by omega)).trans (hfr_0 q hq)
    refine w_aload_n dX5_addStratum_24 rfl 0 rfl ?_
    refine w_aload_n dX5_addStratum_25 rfl 0 rfl ?_
    refine w_get (i := 1) (T := TX5) (NF := 3) rb (by first | omega | with_reducible rfl) hr_4.1 rfl (fun _ h => (List.mem_cons_of_mem _ (List.mem_append_left _ (List.mem_append_right _ h)))) (by decide) (List.mem_of_getElem? (i := 1) rfl) rfl dX5_addStratum_26 ?_
    refine w_iconst dX5_addStratum_29 ?_
    refine w_isub dX5_addStratum_30 ?_
    refine w_callq (As := [.int (zI ((((sr + 1) : Nat) : Int) - 1))]) (rest := []) (n := 1) (c_X5_draft hr_4 (by first | omega | with_reducible rfl) (by first | omega | with_reducible rfl) (by first | omega | with_reducible rfl)) gX5_addStratum_X5_draft rfl rfl rfl (by decide +kernel) ⟨Nat.le_of_ble_eq_true rfl, Nat.le_of_ble_eq_true rfl⟩ rfl (by first | omega | with_reducible rfl) hr_4.1 rfl (Nat.le_of_ble_eq_true rfl) ⟨Nat.zero_le _, Nat.zero_le _⟩ dX5_addStratum_31 rfl (fun g_7 hp_8 => ?_)
    subst g_7
    refine w_as (st' := [.ref (B + ((rb + 2) + 10 * sr))]) (sc_q (by rw [if_pos (by omega), show ((((sr + 1) : Nat) : Int) - 1).toNat = sr by omega]) rfl) ?_
    refine w_astore_n [(1, .ref (B + ((rb + 2) + 10 * sr))), (0, .ref (B + rb))] dX5_addStratum_34 rfl (by decide) rfl ?_
    refine w_aload_n dX5_addStratum_35 rfl 0 rfl ?_
    refine w_ifnull dX5_addStratum_36 ?_
    refine w_aload_n dX5_addStratum_39 rfl 0 rfl ?_
    refine w_callv (As := []) (rest := []) (n := 0) (c_X0_clear (hd_5 sr (by first | omega | with_reducible rfl)) (by first | omega | with_reducible rfl)) gX5_addStratum_X0_clear rfl rfl rfl (by decide +kernel) ⟨Nat.le_of_ble_eq_true rfl, Nat.le_of_ble_eq_true rfl⟩ rfl (by first | omega | with_reducible rfl) (hd_5 sr (by first | omega | with_reducible rfl)).1 rfl (Nat.le_of_ble_eq_true rfl) ⟨Nat.zero_le _, Nat.zero_le _⟩ dX5_addStratum_40 rfl (fun g_9 hp_10 => ?_)
    obtain ⟨fi_11, hf_12⟩ := hp_10
    have hr_13 : vReader cy B g_9 rb (sr + 1) pl := vReader_fr hr_4 (fun q h1 h2 => hf_12 q (by omega))
    have hd_14 : vDr cy B g_9 (rb + 2) sets (uF dn sr 0) (uF dv sr ((dv sr) + 1)) (uF dT sr (dT sr)) (uF dX sr (dX sr)) (uF dV sr (dV sr)) (uF dW sr (dW sr)) := vDr_set sr hd_5 (by first | omega | with_reducible rfl) fi_11 (fun q hq => hf_12 q (by omega))
    have hfr_15 : ∀ q, (q < rb ∨ rb + 32 ≤ q) → g_9 q = g q := fun q hq => (hf_12 q (by omega)).trans (hfr_6 q hq)
    refine w_iconst dX5_addStratum_43 ?_
    exact w_zret dX5_addStratum_44 rfl rfl (by first | with_reducible rfl | omega | (split <;> omega)) ⟨hr_13, (by have h9 := hd_14; simpa using h9), hfr_15⟩
  · exfalso; omega
set_option maxHeartbeats 4000000 in
set_option maxRecDepth 100000 in
theorem c_X5_addC_no0 {l : Launch} {D : va_G} {cy : Nat → ClassId} {B N : Nat} {g : Nat → va_E} {rb sr : Nat} {pl : Int} {t x v : Int} (hr : vReader cy B g rb sr pl) (hR : rb + 2 ≤ N) (hsr : sr = 0) : CTi l yX5_addColumn wsX5_addColumn (rmo 1 21) D cy B N g [.ref (B + rb), .int (zI t), .int (zI x), .int (zI v)] 0 (fun g' => g' = g) := by
  refine WW_of (cc := cX5_addColumn) (maxL := 5) (ret := (some .boolean)) (own := RX5) (by decide) rfl rfl (Nat.le_of_ble_eq_true rfl) rfl ?_
  intro pp ee ss mm bl me co hmn
  refine w_aload_n dX5_addColumn_0 rfl 0 rfl ?_
  refine w_aload_n dX5_addColumn_1 rfl 0 rfl ?_
  refine w_get (i := 1) (T := TX5) (NF := 3) rb (by first | omega | with_reducible rfl) hr.1 rfl (fun _ h => (List.mem_cons_of_mem _ (List.mem_append_left _ (List.mem_append_left _ (List.mem_append_right _ h))))) (by decide) (List.mem_of_getElem? (i := 1) rfl) rfl dX5_addColumn_2 ?_
  refine w_iconst dX5_addColumn_5 ?_
  refine w_isub dX5_addColumn_6 ?_
  refine w_callq (As := [.int (zI (((sr : Nat) : Int) - 1))]) (rest := []) (n := 1) (c_X5_draft hr (by first | omega | with_reducible rfl) (by first | omega | with_reducible rfl) (by first | omega | with_reducible rfl)) gX5_addColumn_X5_draft rfl rfl rfl (by decide +kernel) ⟨Nat.le_of_ble_eq_true rfl, Nat.le_of_ble_eq_true rfl⟩ rfl (by first | omega | with_reducible rfl) hr.1 rfl (Nat.le_of_ble_eq_true rfl) ⟨Nat.zero_le _, Nat.zero_le _⟩ dX5_addColumn_7 rfl (fun g_1 hp_2 => ?_)
  subst g_1
  refine w_as (st' := [.null]) (sc_q0 (by rw [if_neg (by omega)]) rfl) ?_
  refine w_astoreN [(4, .null), (0, .ref (B + rb)), (1, .int (zI t)), (2, .int (zI x)), (3, .int (zI v))] dX5_addColumn_10 (by decide) rfl ?_
  refine w_aloadN dX5_addColumn_12 0 rfl ?_
  refine w_ifnullN 28 dX5_addColumn_14 (by decide) ?_
  refine w_iconst dX5_addColumn_28 ?_
  exact w_zret dX5_addColumn_29 rfl rfl (by first | with_reducible rfl | omega | (split <;> omega)) rfl
set_option maxHeartbeats 4000000 in
set_option maxRecDepth 100000 in
theorem c_X5_addC_no1 {l : Launch} {D : va_G} {cy : Nat → ClassId} {B N : Nat} {g : Nat → va_E} {rb sr : Nat} {pl : Int} {sets : Nat} {dn : Nat → Nat} {dv : Nat → Int} {dT dX dV : Nat → Int → Int} {dW : Nat → Nat → Int → Int} {Cn : Nat → Int → Int} {t x v : Int} (hr : vReader cy B g rb sr pl) (hd : vDr cy B g (rb + 2) sets dn dv dT dX dV dW) (hs : vSets cy B g sets Cn) (hR : rb + 2 ≤ N) (hD : rb + 32 ≤ N) (hSn : sets + 15 ≤ N) (hsd : sets + 15 ≤ rb ∨ rb + 32 ≤ sets) (hsr : sr ≤ 3) (h_t : -2147483648 ≤ t ∧ t < 2147483648) (h_x : -2147483648 ≤ x ∧ x < 2147483648) (h_v : -2147483648 ≤ v ∧ v < 2147483648) (hs0 : 0 < sr) (hdn : dn (sr - 1) ≤ 5) (hno : ¬ ((1 ≤ t ∧ t ≤ 12 ∧ 0 ≤ x ∧ x ≤ t ∧ 0 ≤ v ∧ v ≤ 9) ∧ dn (sr - 1) < 5)) : CTi l yX5_addColumn wsX5_addColumn (rmo 1 24) D cy B N g [.ref (B + rb), .int (zI t), .int (zI x), .int (zI v)] 0 (fun g' => g' = g) := by
  refine WW_of (cc := cX5_addColumn) (maxL := 5) (ret := (some .boolean)) (own := RX5) (by decide) rfl rfl (Nat.le_of_ble_eq_true rfl) rfl ?_
  intro pp ee ss mm bl me co hmn
  refine w_aload_n dX5_addColumn_0 rfl 0 rfl ?_
  refine w_aload_n dX5_addColumn_1 rfl 0 rfl ?_
  refine w_get (i := 1) (T := TX5) (NF := 3) rb (by first | omega | with_reducible rfl) hr.1 rfl (fun _ h => (List.mem_cons_of_mem _ (List.mem_append_left _ (List.mem_append_left _ (List.mem_append_right _ h))))) (by decide) (List.mem_of_getElem? (i := 1) rfl) rfl dX5_addColumn_2 ?_
  refine w_iconst dX5_addColumn_5 ?_
  refine w_isub dX5_addColumn_6 ?_
  refine w_callq (As := [.int (zI (((sr : Nat) : Int) - 1))]) (rest := []) (n := 1) (c_X5_draft hr (by first | omega | with_reducible rfl) (by first | omega | with_reducible rfl) (by first | omega | with_reducible rfl)) gX5_addColumn_X5_draft rfl rfl rfl (by decide +kernel) ⟨Nat.le_of_ble_eq_true rfl, Nat.le_of_ble_eq_true rfl⟩ rfl (by first | omega | with_reducible rfl) hr.1 rfl (Nat.le_of_ble_eq_true rfl) ⟨Nat.zero_le _, Nat.zero_le _⟩ dX5_addColumn_7 rfl (fun g_1 hp_2 => ?_)
  subst g_1
  refine w_as (st' := [.ref (B + ((rb + 2) + 10 * (sr - 1)))]) (sc_q (by rw [if_pos (by omega), show (((sr : Nat) : Int) - 1).toNat = sr - 1 by omega]) rfl) ?_
  refine w_astore [(4, .ref (B + ((rb + 2) + 10 * (sr - 1)))), (0, .ref (B + rb)), (1, .int (zI t)), (2, .int (zI x)), (3, .int (zI v))] dX5_addColumn_10 (by decide) rfl ?_
  refine w_aload dX5_addColumn_12 0 rfl ?_
  refine w_ifnull dX5_addColumn_14 ?_
  refine w_iload_n dX5_addColumn_17 rfl 2 rfl ?_
  refine w_iconst dX5_addColumn_18 ?_
  refine w_icmp_lt 28 dX5_addColumn_19 (by decide) (by first | omega | with_reducible rfl) (by first | omega | with_reducible rfl) (fun c_19 => ?_) (fun c_19 => ?_)
  · refine w_iconst dX5_addColumn_28 ?_
    exact w_zret dX5_addColumn_29 rfl rfl (by first | with_reducible rfl | omega | (split <;> omega)) rfl
  · refine w_iload_n dX5_addColumn_22 rfl 2 rfl ?_
    refine w_bipush dX5_addColumn_23 (by decide) ?_
    refine w_icmp_le 30 dX5_addColumn_25 (by decide) (by first | omega | with_reducible rfl) (by first | omega | with_reducible rfl) (fun c_25 => ?_) (fun c_25 => ?_)
    · refine w_iload_n dX5_addColumn_30 rfl 3 rfl ?_
      refine w_if_lt 49 dX5_addColumn_31 (by decide) (by first | omega | with_reducible rfl) (fun c_31 => ?_) (fun c_31 => ?_)
      · refine w_iconst dX5_addColumn_49 ?_
        exact w_zret dX5_addColumn_50 rfl rfl (by first | with_reducible rfl | omega | (split <;> omega)) rfl
      · refine w_iload_n dX5_addColumn_34 rfl 3 rfl ?_
        refine w_iload_n dX5_addColumn_35 rfl 2 rfl ?_
        refine w_icmp_gt 49 dX5_addColumn_36 (by decide) (by first | omega | with_reducible rfl) (by first | omega | with_reducible rfl) (fun c_36 => ?_) (fun c_36 => ?_)
        · refine w_iconst dX5_addColumn_49 ?_
          exact w_zret dX5_addColumn_50 rfl rfl (by first | with_reducible rfl | omega | (split <;> omega)) rfl
        · refine w_iload_n dX5_addColumn_39 rfl 4 rfl ?_
          refine w_if_lt 49 dX5_addColumn_40 (by decide) (by first | omega | with_reducible rfl) (fun c_40 => ?_) (fun c_40 => ?_)
          · refine w_iconst dX5_addColumn_49 ?_
            exact w_zret dX5_addColumn_50 rfl rfl (by first | with_reducible rfl | omega | (split <;> omega)) rfl
          · refine w_iload_n dX5_addColumn_43 rfl 4 rfl ?_
            refine w_bipush dX5_addColumn_44 (by decide) ?_
            refine w_icmp_le 51 dX5_addColumn_46 (by decide) (by first | omega | with_reducible rfl) (by first | omega | with_reducible rfl) (fun c_46 => ?_) (fun c_46 => ?_)
            · refine w_aload dX5_addColumn_51 0 rfl ?_
              refine w_iload_n dX5_addColumn_53 rfl 2 rfl ?_
              refine w_iload_n dX5_addColumn_54 rfl 3 rfl ?_
              refine w_iload_n dX5_addColumn_55 rfl 4 rfl ?_
              refine w_calli (As := [.int (zI t), .int (zI x), .int (zI v)]) (rest := []) (n := 3) (c_X0_add_full (hd (sr - 1) (by first | omega | with_reducible rfl)) hs (by first | omega | with_reducible rfl) (by first | omega | with_reducible rfl) (by first | omega | with_reducible rfl) (by omega)) gX5_addColumn_X0_add rfl rfl rfl (by decide +kernel) ⟨Nat.le_of_ble_eq_true rfl, Nat.le_of_ble_eq_true rfl⟩ rfl (by first | omega | with_reducible rfl) (hd (sr - 1) (by first | omega | with_reducible rfl)).1 rfl (Nat.le_of_ble_eq_true rfl) ⟨Nat.zero_le _, Nat.zero_le _⟩ dX5_addColumn_56 rfl (fun g_3 hp_4 => ?_)
              subst g_3
              exact w_zret dX5_addColumn_59 rfl rfl (by first | with_reducible rfl | omega | (split <;> omega)) rfl
            · refine w_iconst dX5_addColumn_49 ?_
              exact w_zret dX5_addColumn_50 rfl rfl (by first | with_reducible rfl | omega | (split <;> omega)) rfl
    · refine w_iconst dX5_addColumn_28 ?_
      exact w_zret dX5_addColumn_29 rfl rfl (by first | with_reducible rfl | omega | (split <;> omega)) rfl
set_option maxHeartbeats 4000000 in
set_option maxRecDepth 100000 in
theorem c_X5_addC_ok {l : Launch} {D : va_G} {cy : Nat → ClassId} {B N : Nat} {g : Nat → va_E} {rb sr : Nat} {pl : Int} {sets : Nat} {dn : Nat → Nat} {dv : Nat → Int} {dT dX dV : Nat → Int → Int} {dW : Nat → Nat → Int → Int} {Cn : Nat → Int → Int} {t x v : Int} (hr : vReader cy B g rb sr pl) (hd : vDr cy B g (rb + 2) sets dn dv dT dX dV dW) (hs : vSets cy B g sets Cn) (hR : rb + 2 ≤ N) (hD : rb + 32 ≤ N) (hSn : sets + 15 ≤ N) (hsd : sets + 15 ≤ rb ∨ rb + 32 ≤ sets) (hsr : sr ≤ 3) (h_t : -2147483648 ≤ t ∧ t < 2147483648) (h_x : -2147483648 ≤ x ∧ x < 2147483648) (h_v : -2147483648 ≤ v ∧ v < 2147483648) (hs0 : 0 < sr) (hok : (1 ≤ t ∧ t ≤ 12 ∧ 0 ≤ x ∧ x ≤ t ∧ 0 ≤ v ∧ v ≤ 9)) (hd5 : dn (sr - 1) < 5) : CTi l yX5_addColumn wsX5_addColumn (rmo 2 46) D cy B N g [.ref (B + rb), .int (zI t), .int (zI x), .int (zI v)] 1 (fun g' => ∃ W1 : Int → Int, vDr cy B g' (rb + 2) sets (uF dn (sr - 1) (dn (sr - 1) + 1)) (uF dv (sr - 1) (dv (sr - 1) + 1)) (uF dT (sr - 1) (uZ (dT (sr - 1)) ((dn (sr - 1) : Nat) : Int) t)) (uF dX (sr - 1) (uZ (dX (sr - 1)) ((dn (sr - 1) : Nat) : Int) x)) (uF dV (sr - 1) (uZ (dV (sr - 1)) ((dn (sr - 1) : Nat) : Int) v)) (uF dW (sr - 1) (uF (dW (sr - 1)) (dn (sr - 1)) W1)) ∧ (∀ y : Int, 0 ≤ y → y ≤ 12 → W1 y = setA Cn t y) ∧ (∀ q, (q < (rb + 2) ∨ (rb + 2) + 30 ≤ q) → g' q = g q)) := by
  refine WW_of (cc := cX5_addColumn) (maxL := 5) (ret := (some .boolean)) (own := RX5) (by decide) rfl rfl (Nat.le_of_ble_eq_true rfl) rfl ?_
  intro pp ee ss mm bl me co hmn
  have hfr_0 : ∀ q, (q < (rb + 2) ∨ (rb + 2) + 30 ≤ q) → g q = g q := fun _ _ => rfl
  refine w_aload_n dX5_addColumn_0 rfl 0 rfl ?_
  refine w_aload_n dX5_addColumn_1 rfl 0 rfl ?_
  refine w_get (i := 1) (T := TX5) (NF := 3) rb (by first | omega | with_reducible rfl) hr.1 rfl (fun _ h => (List.mem_cons_of_mem _ (List.mem_append_left _ (List.mem_append_left _ (List.mem_append_right _ h))))) (by decide) (List.mem_of_getElem? (i := 1) rfl) rfl dX5_addColumn_2 ?_
  refine w_iconst dX5_addColumn_5 ?_
  refine w_isub dX5_addColumn_6 ?_
  refine w_callq (As := [.int (zI (((sr : Nat) : Int) - 1))]) (rest := []) (n := 1) (c_X5_draft hr (by first | omega | with_reducible rfl) (by first | omega | with_reducible rfl) (by first | omega | with_reducible rfl)) gX5_addColumn_X5_draft rfl rfl rfl (by decide +kernel) ⟨Nat.le_of_ble_eq_true rfl, Nat.le_of_ble_eq_true rfl⟩ rfl (by first | omega | with_reducible rfl) hr.1 rfl (Nat.le_of_ble_eq_true rfl) ⟨Nat.zero_le _, Nat.zero_le _⟩ dX5_addColumn_7 rfl (fun g_1 hp_2 => ?_)
  subst g_1
  refine w_as (st' := [.ref (B + ((rb + 2) + 10 * (sr - 1)))]) (sc_q (by rw [if_pos (by omega), show (((sr : Nat) : Int) - 1).toNat = sr - 1 by omega]) rfl) ?_
  refine w_astore [(4, .ref (B + ((rb + 2) + 10 * (sr - 1)))), (0, .ref (B + rb)), (1, .int (zI t)), (2, .int (zI x)), (3, .int (zI v))] dX5_addColumn_10 (by decide) rfl ?_
  refine w_aload dX5_addColumn_12 0 rfl ?_
  refine w_ifnull dX5_addColumn_14 ?_
  refine w_iload_n dX5_addColumn_17 rfl 2 rfl ?_
  refine w_iconst dX5_addColumn_18 ?_
  refine w_icmp_lt 28 dX5_addColumn_19 (by decide) (by first | omega | with_reducible rfl) (by first | omega | with_reducible rfl) (fun c_19 => ?_) (fun c_19 => ?_)
  · exfalso; omega
  · refine w_iload_n dX5_addColumn_22 rfl 2 rfl ?_
    refine w_bipush dX5_addColumn_23 (by decide) ?_
    refine w_icmp_le 30 dX5_addColumn_25 (by decide) (by first | omega | with_reducible rfl) (by first | omega | with_reducible rfl) (fun c_25 => ?_) (fun c_25 => ?_)
    · refine w_iload_n dX5_addColumn_30 rfl 3 rfl ?_
      refine w_if_lt 49 dX5_addColumn_31 (by decide) (by first | omega | with_reducible rfl) (fun c_31 => ?_) (fun c_31 => ?_)
      · exfalso; omega
      · refine w_iload_n dX5_addColumn_34 rfl 3 rfl ?_
        refine w_iload_n dX5_addColumn_35 rfl 2 rfl ?_
        refine w_icmp_gt 49 dX5_addColumn_36 (by decide) (by first | omega | with_reducible rfl) (by first | omega | with_reducible rfl) (fun c_36 => ?_) (fun c_36 => ?_)
        · exfalso; omega
        · refine w_iload_n dX5_addColumn_39 rfl 4 rfl ?_
          refine w_if_lt 49 dX5_addColumn_40 (by decide) (by first | omega | with_reducible rfl) (fun c_40 => ?_) (fun c_40 => ?_)
          · exfalso; omega
          · refine w_iload_n dX5_addColumn_43 rfl 4 rfl ?_
            refine w_bipush dX5_addColumn_44 (by decide) ?_
            refine w_icmp_le 51 dX5_addColumn_46 (by decide) (by first | omega | with_reducible rfl) (by first | omega | with_reducible rfl) (fun c_46 => ?_) (fun c_46 => ?_)
            · refine w_aload dX5_addColumn_51 0 rfl ?_
              refine w_iload_n dX5_addColumn_53 rfl 2 rfl ?_
              refine w_iload_n dX5_addColumn_54 rfl 3 rfl ?_
              refine w_iload_n dX5_addColumn_55 rfl 4 rfl ?_
              refine w_calli (As := [.int (zI t), .int (zI x), .int (zI v)]) (rest := []) (n := 3) (c_X0_add_ok (hd (sr - 1) (by first | omega | with_reducible rfl)) hs (by first | omega | with_reducible rfl) (by first | omega | with_reducible rfl) (by first | omega | with_reducible rfl) (by first | omega | with_reducible rfl) (by first | omega | with_reducible rfl) (by first | omega | with_reducible rfl) (by first | omega | with_reducible rfl)) gX5_addColumn_X0_add rfl rfl rfl (by decide +kernel) ⟨Nat.le_of_ble_eq_true rfl, Nat.le_of_ble_eq_true rfl⟩ rfl (by first | omega | with_reducible rfl) (hd (sr - 1) (by first | omega | with_reducible rfl)).1 rfl (Nat.le_of_ble_eq_true rfl) ⟨Nat.zero_le _, Nat.zero_le _⟩ dX5_addColumn_56 rfl (fun g_3 hp_4 => ?_)
              obtain ⟨W1_5, fi_6, hW_56, hf_7⟩ := hp_4
              have hr_8 : vReader cy B g_3 rb sr pl := vReader_fr hr (fun q h1 h2 => hf_7 q (by omega))
              have hd_9 : vDr cy B g_3 (rb + 2) sets (uF dn (sr - 1) ((dn (sr - 1)) + 1)) (uF dv (sr - 1) ((dv (sr - 1)) + 1)) (uF dT (sr - 1) (uZ (dT (sr - 1)) (((dn (sr - 1)) : Nat) : Int) t)) (uF dX (sr - 1) (uZ (dX (sr - 1)) (((dn (sr - 1)) : Nat) : Int) x)) (uF dV (sr - 1) (uZ (dV (sr - 1)) (((dn (sr - 1)) : Nat) : Int) v)) (uF dW (sr - 1) (uF (dW (sr - 1)) (dn (sr - 1)) W1_5)) := vDr_set (sr - 1) hd (by first | omega | with_reducible rfl) fi_6 (fun q hq => hf_7 q (by omega))
              have hs_10 : vSets cy B g_3 sets Cn := vSets_fr hs (fun q h1 h2 => hf_7 q (by omega))
              have hfr_11 : ∀ q, (q < (rb + 2) ∨ (rb + 2) + 30 ≤ q) → g_3 q = g q := fun q hq => (hf_7 q (by omega)).trans (hfr_0 q hq)
              exact w_zret dX5_addColumn_59 rfl rfl (by first | with_reducible rfl | omega | (split <;> omega)) ⟨W1_5, (by have h9 := hd_9; exact h9), hW_56, hfr_11⟩
            · exfalso; omega
    · exfalso; omega
