/-! ===== the law's own methods: numbers drawn, letters told, what is read of all ===== -/
def clZ (xs : Nat → Int32) (L : Nat) (k : Int) : Int := if ((L : Nat) : Int) = 0 then 7919 * k + 3 else xoZ (xoZ (shZ (xz xs (k % ((L : Nat) : Int))) (k % 7)) ((k / ((L : Nat) : Int)) * 31)) (k * 2654435)
/-- a number drawn -/
def ptZ (v n : Int) : Int := anZ v 2147483647 % n
theorem ptZ_rg (v : Int) {n : Int} (hn : 0 < n) : 0 ≤ ptZ v n ∧ ptZ v n < n := ⟨Int.emod_nonneg _ (by omega), Int.emod_lt_of_pos _ hn⟩
/-- letters but those that are 0 -/
def sayL (a b c d : Int) : List Int := [a, b, c, d].filter (fun x => decide (x ≠ 0))
theorem take4 {a b c d : Int} {k : Nat} (h : k < 4) : [a, b, c, d].take (k + 1) = [a, b, c, d].take k ++ [[a, b, c, d].getD k 0] := by
  rcases (show k = 0 ∨ k = 1 ∨ k = 2 ∨ k = 3 by omega) with rfl | rfl | rfl | rfl <;> rfl
theorem at4 {a b c d : Int} {k : Nat} (h : k < 4) : uZ (uZ (uZ (uZ (fun _ => 0) 0 a) 1 b) 2 c) 3 d ((k : Nat) : Int) = [a, b, c, d].getD k 0 := by
  rcases (show k = 0 ∨ k = 1 ∨ k = 2 ∨ k = 3 by omega) with rfl | rfl | rfl | rfl <;> simp [uZ]
theorem filt4 {a b c d : Int} {k : Nat} (h : k < 4) : ([a, b, c, d].take (k + 1)).filter (fun x => decide (x ≠ 0)) = ([a, b, c, d].take k).filter (fun x => decide (x ≠ 0)) ++ (if [a, b, c, d].getD k 0 = 0 then [] else [[a, b, c, d].getD k 0]) := by
  rw [take4 h, List.filter_append]
  congr 1
  by_cases hz : [a, b, c, d].getD k 0 = 0
  · rw [if_pos hz, List.filter_cons_of_neg (by simpa using hz), List.filter_nil]
  · rw [if_neg hz, List.filter_cons_of_pos (by simpa using hz), List.filter_nil]
theorem len4 {a b c d : Int} {k : Nat} (h : k ≤ 4) : (([a, b, c, d].take k).filter (fun x => decide (x ≠ 0))).length ≤ k := Nat.le_trans (List.length_filter_le _ _) (by rw [List.length_take]; exact Nat.min_le_left _ _)
set_option maxHeartbeats 4000000 in
set_option maxRecDepth 100000 in
theorem c_part {l : Launch} {D : va_G} {cy : Nat → ClassId} {B N : Nat} {g : Nat → va_E} {v n : Int} (hn : 0 < n ∧ n < 2147483648) : CTi l yL_part wsL_part (rmo 0 0) D cy B N g [.int (zI v), .int (zI n)] (ptZ v n) (fun g' => g' = g) := by
  refine WW_of (cc := cL_part) (maxL := 2) (ret := (some .int)) (own := RL) (by decide) rfl rfl (Nat.le_of_ble_eq_true rfl) rfl ?_
  intro pp ee ss mm bl me co hmn
  refine w_iload_n dL_part_0 rfl 0 rfl ?_
  refine w_ldcI (v := 2147483647) (z := 2147483647) (List.mem_of_getElem? (i := 1) rfl) (by decide) dL_part_1 ?_
  refine w_iand dL_part_3 ?_
  refine w_iload_n dL_part_4 rfl 1 rfl ?_
  refine w_irem dL_part_5 (anZ_rg _) (by omega) ?_
  exact w_iret dL_part_6 rfl (by rfl) rfl

set_option maxHeartbeats 4000000 in
set_option maxRecDepth 100000 in
theorem c_cell {l : Launch} {D : va_G} {cy : Nat → ClassId} {B N : Nat} {g : Nat → va_E} {b L : Nat} {xs : Nat → Int32} {k : Int} (hk : 0 ≤ k ∧ k < 100000) (hL : L ≤ 260) : CTiX l yL_cell wsL_cell (rmo 0 0) D cy B N g b L xs [.ref b, .int (zI k)] (clZ xs L k) 0 0 (fun g' => g' = g) := by
  refine WW_ofX (cc := cL_cell) (maxL := 2) (ret := (some .int)) (own := RL) (by decide) rfl rfl (Nat.le_of_ble_eq_true rfl) rfl ?_
  intro pp ee ss mm bl me co hmn hsx
  refine w_aload_n dL_cell_0 rfl 0 rfl ?_
  refine w_slen hsx dL_cell_1 ?_
  refine w_if_ne 15 dL_cell_2 (by decide) (by first | omega | with_reducible rfl) (fun c_2 => ?_) (fun c_2 => ?_)
  · refine w_aload_n dL_cell_15 rfl 0 rfl ?_
    refine w_iload_n dL_cell_16 rfl 1 rfl ?_
    refine w_aload_n dL_cell_17 rfl 0 rfl ?_
    refine w_slen hsx dL_cell_18 ?_
    refine w_irem dL_cell_19 (by omega) (by omega) ?_
    refine w_sld hsx (by have h1 := Int.emod_nonneg k (b := ((L : Nat) : Int)) (by omega); have h2 := Int.emod_lt_of_pos k (b := ((L : Nat) : Int)) (by omega); omega) dL_cell_20 ?_
    refine w_iload_n dL_cell_21 rfl 1 rfl ?_
    refine w_bipush dL_cell_22 (by decide) ?_
    refine w_irem dL_cell_24 (by omega) (by omega) ?_
    refine w_ishr dL_cell_25 ?_
    refine w_iload_n dL_cell_26 rfl 1 rfl ?_
    refine w_aload_n dL_cell_27 rfl 0 rfl ?_
    refine w_slen hsx dL_cell_28 ?_
    refine w_idiv dL_cell_29 (by omega) (by omega) ?_
    refine w_bipush dL_cell_30 (by decide) ?_
    refine w_imul dL_cell_32 ?_
    refine w_ixor dL_cell_33 ?_
    refine w_iload_n dL_cell_34 rfl 1 rfl ?_
    refine w_ldcI (v := 2654435) (z := 2654435) (List.mem_of_getElem? (i := 1) rfl) (by decide) dL_cell_35 ?_
    refine w_imul dL_cell_37 ?_
    refine w_ixor dL_cell_38 ?_
    exact w_iret dL_cell_39 rfl (by unfold clZ; first | rw [if_pos (by omega)] | rw [if_neg (by omega)]) rfl
  · refine w_sipush dL_cell_5 (by decide) ?_
    refine w_iload_n dL_cell_8 rfl 1 rfl ?_
    refine w_imul dL_cell_9 ?_
    refine w_iconst dL_cell_10 ?_
    refine w_iadd dL_cell_11 ?_
    refine w_goto 39 dL_cell_12 (by decide) ?_
    exact w_iret dL_cell_39 rfl (by unfold clZ; first | rw [if_pos (by omega)] | rw [if_neg (by omega)]) rfl

set_option maxHeartbeats 4000000 in
set_option maxRecDepth 100000 in
theorem c_number {l : Launch} {D : va_G} {cy : Nat → ClassId} {B N : Nat} {g : Nat → va_E} {W : List Int} {S : St} {P : List St} {M : Int} {v sign : Int} (ho : OW cy B g 0 W S P M) (hN : 141 ≤ N) (hM : M < 2147480000) (hv : 0 ≤ v ∧ v ≤ 99) (hs : 32 ≤ sign ∧ sign ≤ 126) (hl : W.length + 3 ≤ 200) : CTv l yL_number wsL_number (rmo 2 42) D cy B N g [.ref (B + 0), .int (zI v), .int (zI sign)] (fun g' => OW cy B g' 0 (W ++ tno v sign) S P M ∧ (∀ q, 141 ≤ q → g' q = g q)) := by
  refine WW_of (cc := cL_number) (maxL := 3) (ret := none) (own := RL) (by decide) rfl rfl (Nat.le_of_ble_eq_true rfl) rfl ?_
  intro pp ee ss mm bl me co hmn
  have hfr_0 : ∀ q, 141 ≤ q → g q = g q := fun _ _ => rfl
  refine w_iload_n dL_number_0 rfl 1 rfl ?_
  refine w_bipush dL_number_1 (by decide) ?_
  refine w_icmp_le 18 dL_number_3 (by decide) (by first | omega | with_reducible rfl) (by first | omega | with_reducible rfl) (fun c_3 => ?_) (fun c_3 => ?_)
  · refine w_aload_n dL_number_18 rfl 0 rfl ?_
    refine w_bipush dL_number_19 (by decide) ?_
    refine w_iload_n dL_number_21 rfl 1 rfl ?_
    refine w_bipush dL_number_22 (by decide) ?_
    refine w_irem dL_number_24 (by first | omega | with_reducible rfl) (by omega) ?_
    refine w_iadd dL_number_25 ?_
    obtain ⟨fx_3, hfx_3⟩ := OW_0 ho
    refine w_calli (As := [.int (zI (48 + (v % 10)))]) (rest := []) (n := 1) (a_write (x := (48 + (v % 10))) ho (by omega) (by omega) ⟨by omega, by omega⟩ (by first | omega | with_reducible rfl) (by first | omega | (simp only [List.length_append, List.length_cons, List.length_nil]; omega))) gL_number_X10_write rfl rfl rfl (by decide +kernel) ⟨(Nat.le_of_ble_eq_true rfl), (Nat.le_of_ble_eq_true rfl)⟩ rfl (by omega) hfx_3 rfl (Nat.le_of_ble_eq_true rfl) ⟨Nat.zero_le _, Nat.zero_le _⟩ dL_number_26 rfl (fun g_1 hp_2 => ?_)
    obtain ⟨ho_4, hf_5⟩ := hp_2
    have hfr_6 : ∀ q, 141 ≤ q → g_1 q = g q := fun q hq => (hf_5 q (by omega)).trans (hfr_0 q hq)
    refine w_pop dL_number_29 rfl ?_
    refine w_aload_n dL_number_30 rfl 0 rfl ?_
    refine w_iload_n dL_number_31 rfl 2 rfl ?_
    obtain ⟨fx_9, hfx_9⟩ := OW_0 ho_4
    refine w_calli (As := [.int (zI sign)]) (rest := []) (n := 1) (a_write (x := sign) ho_4 (by omega) (by omega) ⟨by omega, by omega⟩ (by first | omega | with_reducible rfl) (by first | omega | (simp only [List.length_append, List.length_cons, List.length_nil]; omega))) gL_number_X10_write rfl rfl rfl (by decide +kernel) ⟨(Nat.le_of_ble_eq_true rfl), (Nat.le_of_ble_eq_true rfl)⟩ rfl (by omega) hfx_9 rfl (Nat.le_of_ble_eq_true rfl) ⟨Nat.zero_le _, Nat.zero_le _⟩ dL_number_32 rfl (fun g_7 hp_8 => ?_)
    obtain ⟨ho_10, hf_11⟩ := hp_8
    have hfr_12 : ∀ q, 141 ≤ q → g_7 q = g q := fun q hq => (hf_11 q (by omega)).trans (hfr_6 q hq)
    refine w_pop dL_number_35 rfl ?_
    exact w_vret dL_number_36 rfl ⟨(by have h9 := ho_10; (unfold tno; first | (rw [if_pos (by omega)]; simpa [List.append_assoc] using h9) | (rw [if_neg (by omega)]; simpa [List.append_assoc] using h9))), hfr_12⟩
  · refine w_aload_n dL_number_6 rfl 0 rfl ?_
    refine w_bipush dL_number_7 (by decide) ?_
    refine w_iload_n dL_number_9 rfl 1 rfl ?_
    refine w_bipush dL_number_10 (by decide) ?_
    refine w_idiv dL_number_12 (by first | omega | with_reducible rfl) (by omega) ?_
    refine w_iadd dL_number_13 ?_
    obtain ⟨fx_15, hfx_15⟩ := OW_0 ho
    refine w_calli (As := [.int (zI (48 + (v / 10)))]) (rest := []) (n := 1) (a_write (x := (48 + (v / 10))) ho (by omega) (by omega) ⟨by omega, by omega⟩ (by first | omega | with_reducible rfl) (by first | omega | (simp only [List.length_append, List.length_cons, List.length_nil]; omega))) gL_number_X10_write rfl rfl rfl (by decide +kernel) ⟨(Nat.le_of_ble_eq_true rfl), (Nat.le_of_ble_eq_true rfl)⟩ rfl (by omega) hfx_15 rfl (Nat.le_of_ble_eq_true rfl) ⟨Nat.zero_le _, Nat.zero_le _⟩ dL_number_14 rfl (fun g_13 hp_14 => ?_)
    obtain ⟨ho_16, hf_17⟩ := hp_14
    have hfr_18 : ∀ q, 141 ≤ q → g_13 q = g q := fun q hq => (hf_17 q (by omega)).trans (hfr_0 q hq)
    refine w_pop dL_number_17 rfl ?_
    refine w_aload_n dL_number_18 rfl 0 rfl ?_
    refine w_bipush dL_number_19 (by decide) ?_
    refine w_iload_n dL_number_21 rfl 1 rfl ?_
    refine w_bipush dL_number_22 (by decide) ?_
    refine w_irem dL_number_24 (by first | omega | with_reducible rfl) (by omega) ?_
    refine w_iadd dL_number_25 ?_
    obtain ⟨fx_21, hfx_21⟩ := OW_0 ho_16
    refine w_calli (As := [.int (zI (48 + (v % 10)))]) (rest := []) (n := 1) (a_write (x := (48 + (v % 10))) ho_16 (by omega) (by omega) ⟨by omega, by omega⟩ (by first | omega | with_reducible rfl) (by first | omega | (simp only [List.length_append, List.length_cons, List.length_nil]; omega))) gL_number_X10_write rfl rfl rfl (by decide +kernel) ⟨(Nat.le_of_ble_eq_true rfl), (Nat.le_of_ble_eq_true rfl)⟩ rfl (by omega) hfx_21 rfl (Nat.le_of_ble_eq_true rfl) ⟨Nat.zero_le _, Nat.zero_le _⟩ dL_number_26 rfl (fun g_19 hp_20 => ?_)
    obtain ⟨ho_22, hf_23⟩ := hp_20
    have hfr_24 : ∀ q, 141 ≤ q → g_19 q = g q := fun q hq => (hf_23 q (by omega)).trans (hfr_18 q hq)
    refine w_pop dL_number_29 rfl ?_
    refine w_aload_n dL_number_30 rfl 0 rfl ?_
    refine w_iload_n dL_number_31 rfl 2 rfl ?_
    obtain ⟨fx_27, hfx_27⟩ := OW_0 ho_22
    refine w_calli (As := [.int (zI sign)]) (rest := []) (n := 1) (a_write (x := sign) ho_22 (by omega) (by omega) ⟨by omega, by omega⟩ (by first | omega | with_reducible rfl) (by first | omega | (simp only [List.length_append, List.length_cons, List.length_nil]; omega))) gL_number_X10_write rfl rfl rfl (by decide +kernel) ⟨(Nat.le_of_ble_eq_true rfl), (Nat.le_of_ble_eq_true rfl)⟩ rfl (by omega) hfx_27 rfl (Nat.le_of_ble_eq_true rfl) ⟨Nat.zero_le _, Nat.zero_le _⟩ dL_number_32 rfl (fun g_25 hp_26 => ?_)
    obtain ⟨ho_28, hf_29⟩ := hp_26
    have hfr_30 : ∀ q, 141 ≤ q → g_25 q = g q := fun q hq => (hf_29 q (by omega)).trans (hfr_24 q hq)
    refine w_pop dL_number_35 rfl ?_
    exact w_vret dL_number_36 rfl ⟨(by have h9 := ho_28; (unfold tno; first | (rw [if_pos (by omega)]; simpa [List.append_assoc] using h9) | (rw [if_neg (by omega)]; simpa [List.append_assoc] using h9))), hfr_30⟩

set_option maxHeartbeats 4000000 in
set_option maxRecDepth 100000 in
theorem c_column {l : Launch} {D : va_G} {cy : Nat → ClassId} {B N : Nat} {g : Nat → va_E} {W : List Int} {S : St} {P : List St} {M : Int} {all above score : Int} (ho : OW cy B g 0 W S P M) (hN : 141 ≤ N) (hM : M < 2147480000) (ha : 0 ≤ all ∧ all ≤ 99) (hb : 0 ≤ above ∧ above ≤ 99) (hc : 0 ≤ score ∧ score ≤ 99) (hl : W.length + 10 ≤ 200) : CTv l yL_column wsL_column (rmo 3 64) D cy B N g [.ref (B + 0), .int (zI all), .int (zI above), .int (zI score)] (fun g' => OW cy B g' 0 (W ++ tcol all above score) S P M ∧ (∀ q, 141 ≤ q → g' q = g q)) := by
  refine WW_of (cc := cL_column) (maxL := 4) (ret := none) (own := RL) (by decide) rfl rfl (Nat.le_of_ble_eq_true rfl) rfl ?_
  intro pp ee ss mm bl me co hmn
  have hfr_0 : ∀ q, 141 ≤ q → g q = g q := fun _ _ => rfl
  refine w_aload_n dL_column_0 rfl 0 rfl ?_
  refine w_bipush dL_column_1 (by decide) ?_
  obtain ⟨fx_3, hfx_3⟩ := OW_0 ho
  refine w_calli (As := [.int (zI 99)]) (rest := []) (n := 1) (a_write (x := 99) ho (by omega) (by omega) ⟨by omega, by omega⟩ (by first | omega | with_reducible rfl) (by first | omega | (simp only [List.length_append, List.length_cons, List.length_nil]; omega))) gL_column_X10_write rfl rfl rfl (by decide +kernel) ⟨(Nat.le_of_ble_eq_true rfl), (Nat.le_of_ble_eq_true rfl)⟩ rfl (by omega) hfx_3 rfl (Nat.le_of_ble_eq_true rfl) ⟨Nat.zero_le _, Nat.zero_le _⟩ dL_column_3 rfl (fun g_1 hp_2 => ?_)
  obtain ⟨ho_4, hf_5⟩ := hp_2
  have hfr_6 : ∀ q, 141 ≤ q → g_1 q = g q := fun q hq => (hf_5 q (by omega)).trans (hfr_0 q hq)
  refine w_pop dL_column_6 rfl ?_
  refine w_aload_n dL_column_7 rfl 0 rfl ?_
  refine w_iload_n dL_column_8 rfl 1 rfl ?_
  refine w_bipush dL_column_9 (by decide) ?_
  refine w_callvS (As := [.ref (B + 0), .int (zI all), .int (zI 44)]) (rest := []) (n := 3) (c_number (v := all) (sign := 44) ho_4 (by omega) (by omega) (by first | omega | with_reducible rfl) (by first | omega | with_reducible rfl) (by first | omega | (simp only [List.length_append, List.length_cons, List.length_nil]; omega) | (simp only [List.length_append, List.length_cons, List.length_nil]; have h7 := @tno_len all 44; have h8 := @tno_len above 44; omega))) gL_column_L_number rfl rfl rfl (by decide +kernel) ⟨(Nat.le_of_ble_eq_true rfl), (Nat.le_of_ble_eq_true rfl)⟩ rfl (Nat.le_of_ble_eq_true rfl) ⟨Nat.zero_le _, Nat.zero_le _⟩ dL_column_11 rfl (fun g_7 hp_8 => ?_)
  obtain ⟨ho_9, hf_10⟩ := hp_8
  have hfr_11 : ∀ q, 141 ≤ q → g_7 q = g q := fun q hq => (hf_10 q (by omega)).trans (hfr_6 q hq)
  refine w_aload_n dL_column_14 rfl 0 rfl ?_
  refine w_iload_n dL_column_15 rfl 2 rfl ?_
  refine w_bipush dL_column_16 (by decide) ?_
  refine w_callvS (As := [.ref (B + 0), .int (zI above), .int (zI 44)]) (rest := []) (n := 3) (c_number (v := above) (sign := 44) ho_9 (by omega) (by omega) (by first | omega | with_reducible rfl) (by first | omega | with_reducible rfl) (by first | omega | (simp only [List.length_append, List.length_cons, List.length_nil]; omega) | (simp only [List.length_append, List.length_cons, List.length_nil]; have h7 := @tno_len all 44; have h8 := @tno_len above 44; omega))) gL_column_L_number rfl rfl rfl (by decide +kernel) ⟨(Nat.le_of_ble_eq_true rfl), (Nat.le_of_ble_eq_true rfl)⟩ rfl (Nat.le_of_ble_eq_true rfl) ⟨Nat.zero_le _, Nat.zero_le _⟩ dL_column_18 rfl (fun g_12 hp_13 => ?_)
  obtain ⟨ho_14, hf_15⟩ := hp_13
  have hfr_16 : ∀ q, 141 ≤ q → g_12 q = g q := fun q hq => (hf_15 q (by omega)).trans (hfr_11 q hq)
  refine w_aload_n dL_column_21 rfl 0 rfl ?_
  refine w_iload_n dL_column_22 rfl 3 rfl ?_
  refine w_bipush dL_column_23 (by decide) ?_
  refine w_callvS (As := [.ref (B + 0), .int (zI score), .int (zI 59)]) (rest := []) (n := 3) (c_number (v := score) (sign := 59) ho_14 (by omega) (by omega) (by first | omega | with_reducible rfl) (by first | omega | with_reducible rfl) (by first | omega | (simp only [List.length_append, List.length_cons, List.length_nil]; omega) | (simp only [List.length_append, List.length_cons, List.length_nil]; have h7 := @tno_len all 44; have h8 := @tno_len above 44; omega))) gL_column_L_number rfl rfl rfl (by decide +kernel) ⟨(Nat.le_of_ble_eq_true rfl), (Nat.le_of_ble_eq_true rfl)⟩ rfl (Nat.le_of_ble_eq_true rfl) ⟨Nat.zero_le _, Nat.zero_le _⟩ dL_column_25 rfl (fun g_17 hp_18 => ?_)
  obtain ⟨ho_19, hf_20⟩ := hp_18
  have hfr_21 : ∀ q, 141 ≤ q → g_17 q = g q := fun q hq => (hf_20 q (by omega)).trans (hfr_16 q hq)
  exact w_vret dL_column_28 rfl ⟨(by have h9 := ho_19; (unfold tcol; simpa [List.append_assoc] using h9)), hfr_21⟩

set_option maxHeartbeats 4000000 in
set_option maxRecDepth 100000 in
theorem c_says {l : Launch} {D : va_G} {cy : Nat → ClassId} {B N : Nat} {g : Nat → va_E} {b L : Nat} {xs : Nat → Int32} {W : List Int} {S : St} {P : List St} {M : Int} {a b1 c d : Int} (ho : OW cy B g 0 W S P M) (hN : 141 ≤ N) (hM : M < 2147480000) (hl : W.length + 4 ≤ 200) (ha : a = 0 ∨ (32 ≤ a ∧ a ≤ 126)) (hb1 : b1 = 0 ∨ (32 ≤ b1 ∧ b1 ≤ 126)) (hc : c = 0 ∨ (32 ≤ c ∧ c ≤ 126)) (hd : d = 0 ∨ (32 ≤ d ∧ d ≤ 126)) : CTvX l yL_says wsL_says (rmc 2 42 1 4) D cy B N g b L xs [.ref (B + 0), .int (zI a), .int (zI b1), .int (zI c), .int (zI d)] 1 4 (fun g' => OW cy B g' 0 (W ++ sayL a b1 c d) S P M ∧ (∀ q, 141 ≤ q ∧ q < N → g' q = g q)) := by
  refine WW_ofX (cc := cL_says) (maxL := 7) (ret := none) (own := RL) (by decide) rfl rfl (Nat.le_of_ble_eq_true rfl) rfl ?_
  intro pp ee ss mm bl me co hmn hsx
  have hfr_0 : ∀ q, 141 ≤ q ∧ q < N → g q = g q := fun _ _ => rfl
  refine w_iconst dL_says_0 ?_
  refine w_newI (n := 4) (by omega) (by omega) (List.mem_of_getElem? (i := 1) rfl) (Nat.le_of_ble_eq_true rfl) (Nat.le_of_ble_eq_true rfl) dL_says_1 (fun g_1 he_2 hn_3 => ?_)
  have ho_4 : OW cy B g_1 0 W S P M := OW_fr ho (fun q h1 h2 => hn_3 q (by omega))
  have hfr_5 : ∀ q, 141 ≤ q ∧ q < N → g_1 q = g q := fun q hq => (hn_3 q (by omega)).trans (hfr_0 q hq)
  have ha0_6 : vIA cy B g_1 N 4 (fun _ => 0) := he_2
  refine w_astore [(5, .ref (B + N)), (0, .ref (B + 0)), (1, .int (zI a)), (2, .int (zI b1)), (3, .int (zI c)), (4, .int (zI d))] dL_says_3 (by decide) rfl ?_
  refine w_aload dL_says_5 0 rfl ?_
  refine w_iconst dL_says_7 ?_
  refine w_iload_n dL_says_8 rfl 2 rfl ?_
  refine w_iast N (by first | omega | with_reducible rfl) ha0_6 (by first | omega | with_reducible rfl) dL_says_9 (fun g_7 he_8 hn_9 => ?_)
  have ho_10 : OW cy B g_7 0 W S P M := OW_fr ho_4 (fun q h1 h2 => hn_9 q (by omega))
  have ha0_11 : vIA cy B g_7 N 4 (uZ (fun _ => 0) 0 a) := he_8
  have hfr_12 : ∀ q, 141 ≤ q ∧ q < N → g_7 q = g q := fun q hq => (hn_9 q (by omega)).trans (hfr_5 q hq)
  refine w_aload dL_says_10 0 rfl ?_
  refine w_iconst dL_says_12 ?_
  refine w_iload_n dL_says_13 rfl 3 rfl ?_
  refine w_iast N (by first | omega | with_reducible rfl) ha0_11 (by first | omega | with_reducible rfl) dL_says_14 (fun g_13 he_14 hn_15 => ?_)
  have ho_16 : OW cy B g_13 0 W S P M := OW_fr ho_10 (fun q h1 h2 => hn_15 q (by omega))
  have ha0_17 : vIA cy B g_13 N 4 (uZ (uZ (fun _ => 0) 0 a) 1 b1) := he_14
  have hfr_18 : ∀ q, 141 ≤ q ∧ q < N → g_13 q = g q := fun q hq => (hn_15 q (by omega)).trans (hfr_12 q hq)
  refine w_aload dL_says_15 0 rfl ?_
  refine w_iconst dL_says_17 ?_
  refine w_iload_n dL_says_18 rfl 4 rfl ?_
  refine w_iast N (by first | omega | with_reducible rfl) ha0_17 (by first | omega | with_reducible rfl) dL_says_19 (fun g_19 he_20 hn_21 => ?_)
  have ho_22 : OW cy B g_19 0 W S P M := OW_fr ho_16 (fun q h1 h2 => hn_21 q (by omega))
  have ha0_23 : vIA cy B g_19 N 4 (uZ (uZ (uZ (fun _ => 0) 0 a) 1 b1) 2 c) := he_20
  have hfr_24 : ∀ q, 141 ≤ q ∧ q < N → g_19 q = g q := fun q hq => (hn_21 q (by omega)).trans (hfr_18 q hq)
  refine w_aload dL_says_20 0 rfl ?_
  refine w_iconst dL_says_22 ?_
  refine w_iload dL_says_23 5 rfl ?_
  refine w_iast N (by first | omega | with_reducible rfl) ha0_23 (by first | omega | with_reducible rfl) dL_says_25 (fun g_25 he_26 hn_27 => ?_)
  have ho_28 : OW cy B g_25 0 W S P M := OW_fr ho_22 (fun q h1 h2 => hn_27 q (by omega))
  have ha0_29 : vIA cy B g_25 N 4 (uZ (uZ (uZ (uZ (fun _ => 0) 0 a) 1 b1) 2 c) 3 d) := he_26
  have hfr_30 : ∀ q, 141 ≤ q ∧ q < N → g_25 q = g q := fun q hq => (hn_27 q (by omega)).trans (hfr_24 q hq)
  refine w_iconst dL_says_26 ?_
  refine w_istore [(6, .int (zI 0)), (5, .ref (B + N)), (0, .ref (B + 0)), (1, .int (zI a)), (2, .int (zI b1)), (3, .int (zI c)), (4, .int (zI d))] dL_says_27 (by decide) rfl ?_
  refine w_sub [(0, .ref (B + 0)), (1, .int (zI a)), (2, .int (zI b1)), (3, .int (zI c)), (4, .int (zI d)), (5, .ref (B + N)), (6, .int (zI 0))] [2, 3, 4, 5, 6, 1, 0] rfl ?_
  refine w_lv (lv' := [(0, .ref (B + 0)), (1, .int (zI a)), (2, .int (zI b1)), (3, .int (zI c)), (4, .int (zI d)), (5, .ref (B + N)), (6, .int (zI ((0 : Nat) : Int)))]) (lc_s (lc_s (lc_s (lc_s (lc_s (lc_s (lc_i (by first | omega | with_reducible rfl) rfl))))))) ?_
  refine w_loop2 (fun (k : Nat) (gl_31 : (Nat → va_E)) => OW cy B gl_31 0 (W ++ ([a, b1, c, d].take k).filter (fun x => decide (x ≠ 0))) S P M ∧ vIA cy B gl_31 N 4 (uZ (uZ (uZ (uZ (fun _ => 0) 0 a) 1 b1) 2 c) 3 d) ∧ (∀ q, 141 ≤ q ∧ q < N → gl_31 q = g q) ∧ k ≤ 4) (fun (k : Nat) (gl_31 : (Nat → va_E)) => 4 - k) (fun (k : Nat) (gl_31 : (Nat → va_E)) => gl_31) (fun (k : Nat) (gl_31 : (Nat → va_E)) => [(0, .ref (B + 0)), (1, .int (zI a)), (2, .int (zI b1)), (3, .int (zI c)), (4, .int (zI d)), (5, .ref (B + N)), (6, .int (zI ((k : Nat) : Int)))]) ?_ 0 g_25 ⟨(by have h9 := ho_28; simpa using h9), ha0_29, hfr_30, (by first | omega | with_reducible rfl)⟩
  rintro k gl_31 ⟨ho_32, ha0_33, hfr_34, hk⟩ ih_29
  refine w_iload dL_says_29 6 rfl ?_
  refine w_iconst dL_says_31 ?_
  refine w_icmp_ge 59 dL_says_32 (by decide) (by first | omega | with_reducible rfl) (by first | omega | with_reducible rfl) (fun c_32 => ?_) (fun c_32 => ?_)
  · exact w_vret dL_says_59 rfl ⟨(by have h9 := ho_32; (obtain rfl : k = 4 := by omega); exact h9), hfr_34⟩
  · refine w_aload dL_says_35 5 rfl ?_
    refine w_iload dL_says_37 6 rfl ?_
    refine w_iald N (by first | omega | with_reducible rfl) ha0_33 (by first | omega | with_reducible rfl) dL_says_39 ?_
    have hk4 : [a, b1, c, d].getD k 0 = 0 ∨ (32 ≤ [a, b1, c, d].getD k 0 ∧ [a, b1, c, d].getD k 0 ≤ 126) := by rcases (show k = 0 ∨ k = 1 ∨ k = 2 ∨ k = 3 by omega) with rfl | rfl | rfl | rfl; exact ha; exact hb1; exact hc; exact hd
    refine w_as (st' := [.int (zI ([a, b1, c, d].getD k 0))]) (sc_i (at4 (by omega)) rfl) ?_
    refine w_if_eq 53 dL_says_40 (by decide) (by first | omega | with_reducible rfl) (fun c_40 => ?_) (fun c_40 => ?_)
    · refine w_iinc 6 [(6, .int (zI (((k : Nat) : Int) + 1))), (0, .ref (B + 0)), (1, .int (zI a)), (2, .int (zI b1)), (3, .int (zI c)), (4, .int (zI d)), (5, .ref (B + N))] dL_says_53 rfl (by decide) rfl ?_
      refine w_goto 29 dL_says_56 (by decide) ?_
      refine w_sub [(0, .ref (B + 0)), (1, .int (zI a)), (2, .int (zI b1)), (3, .int (zI c)), (4, .int (zI d)), (5, .ref (B + N)), (6, .int (zI (((k : Nat) : Int) + 1)))] [1, 2, 3, 4, 5, 6, 0] rfl ?_
      refine w_lv (lv' := [(0, .ref (B + 0)), (1, .int (zI a)), (2, .int (zI b1)), (3, .int (zI c)), (4, .int (zI d)), (5, .ref (B + N)), (6, .int (zI (((k + 1) : Nat) : Int)))]) (lc_s (lc_s (lc_s (lc_s (lc_s (lc_s (lc_i (by first | omega | with_reducible rfl) rfl))))))) ?_
      exact ih_29 (k + 1) gl_31 ⟨(by have h9 := ho_32; (rw [filt4 (by omega)]; first | (rw [if_pos (by assumption), List.append_nil]; exact h9) | (rw [if_neg (by assumption)]; simpa [List.append_assoc] using h9))), ha0_33, hfr_34, (by first | omega | with_reducible rfl)⟩ (by first | omega | with_reducible rfl)
    · refine w_aload_n dL_says_43 rfl 0 rfl ?_
      refine w_aload dL_says_44 5 rfl ?_
      refine w_iload dL_says_46 6 rfl ?_
      refine w_iald N (by first | omega | with_reducible rfl) ha0_33 (by first | omega | with_reducible rfl) dL_says_48 ?_
      refine w_as (st' := [.int (zI ([a, b1, c, d].getD k 0)), .ref (B + 0)]) (sc_i (at4 (by omega)) rfl) ?_
      obtain ⟨fx_37, hfx_37⟩ := OW_0 ho_32
      refine w_calli (As := [.int (zI ([a, b1, c, d].getD k 0))]) (rest := []) (n := 1) (a_write (x := ([a, b1, c, d].getD k 0)) ho_32 (by omega) (by omega) ⟨by omega, by omega⟩ (by first | omega | with_reducible rfl) (by have h7 := @len4 a b1 c d k (by omega); rw [List.length_append]; omega)) gL_says_X10_write rfl rfl rfl (by decide +kernel) ⟨(Nat.le_of_ble_eq_true rfl), (Nat.le_of_ble_eq_true rfl)⟩ rfl (by omega) hfx_37 rfl (Nat.le_of_ble_eq_true rfl) ⟨(Nat.le_of_ble_eq_true rfl), (Nat.le_of_ble_eq_true rfl)⟩ dL_says_49 rfl (fun g_35 hp_36 => ?_)
      obtain ⟨ho_38, hf_39⟩ := hp_36
      have ha0_40 : vIA cy B g_35 N 4 (uZ (uZ (uZ (uZ (fun _ => 0) 0 a) 1 b1) 2 c) 3 d) := vIA_fr ha0_33 (fun q h1 h2 => hf_39 q (by omega))
      have hfr_41 : ∀ q, 141 ≤ q ∧ q < N → g_35 q = g q := fun q hq => (hf_39 q (by omega)).trans (hfr_34 q hq)
      refine w_pop dL_says_52 rfl ?_
      refine w_iinc 6 [(6, .int (zI (((k : Nat) : Int) + 1))), (0, .ref (B + 0)), (1, .int (zI a)), (2, .int (zI b1)), (3, .int (zI c)), (4, .int (zI d)), (5, .ref (B + N))] dL_says_53 rfl (by decide) rfl ?_
      refine w_goto 29 dL_says_56 (by decide) ?_
      refine w_sub [(0, .ref (B + 0)), (1, .int (zI a)), (2, .int (zI b1)), (3, .int (zI c)), (4, .int (zI d)), (5, .ref (B + N)), (6, .int (zI (((k : Nat) : Int) + 1)))] [1, 2, 3, 4, 5, 6, 0] rfl ?_
      refine w_lv (lv' := [(0, .ref (B + 0)), (1, .int (zI a)), (2, .int (zI b1)), (3, .int (zI c)), (4, .int (zI d)), (5, .ref (B + N)), (6, .int (zI (((k + 1) : Nat) : Int)))]) (lc_s (lc_s (lc_s (lc_s (lc_s (lc_s (lc_i (by first | omega | with_reducible rfl) rfl))))))) ?_
      exact ih_29 (k + 1) g_35 ⟨(by have h9 := ho_38; (rw [filt4 (by omega)]; first | (rw [if_pos (by assumption), List.append_nil]; exact h9) | (rw [if_neg (by assumption)]; simpa [List.append_assoc] using h9))), ha0_40, hfr_41, (by first | omega | with_reducible rfl)⟩ (by first | omega | with_reducible rfl)

set_option maxHeartbeats 8000000 in
set_option maxRecDepth 100000 in
theorem c_whole {l : Launch} {D : va_G} {cy : Nat → ClassId} {B N : Nat} {g : Nat → va_E} {W : List Int} {S : St} {P : List St} {M : Int} (ho : OW cy B g 0 W S P M) (hN : 141 ≤ N) (hM : M < 2147480000) : CTl l yL_whole wsL_whole (rmo 7 184) D cy B N g [.ref (B + 0)] (wh S) (fun g' => OW cy B g' 0 W S P M ∧ (∀ q, 141 ≤ q → g' q = g q)) := by
  refine WW_of (cc := cL_whole) (maxL := 6) (ret := (some .long)) (own := RL) (by decide) rfl rfl (Nat.le_of_ble_eq_true rfl) rfl ?_
  intro pp ee ss mm bl me co hmn
  have hfr_0 : ∀ q, 141 ≤ q → g q = g q := fun _ _ => rfl
  have hwf := OW_wf ho
  have hS := WF_S hwf
  have hS3 := hS.1
  refine w_ldc2 (z := 3) (List.mem_of_getElem? (i := 1) rfl) dL_whole_0 ?_
  refine w_lstore_n [(1, .long (zJ 3)), (0, .ref (B + 0))] dL_whole_3 rfl (by decide) rfl ?_
  refine w_iconst dL_whole_4 ?_
  refine w_istore_n [(3, .int (zI 0)), (1, .long (zJ 3)), (0, .ref (B + 0))] dL_whole_5 rfl (by decide) rfl ?_
  refine w_sub [(0, .ref (B + 0)), (1, .long (zJ 3)), (3, .int (zI 0))] [2, 1, 0] rfl ?_
  refine w_lv (lv' := [(0, .ref (B + 0)), (1, .long (zJ (hC S 0))), (3, .int (zI ((0 : Nat) : Int)))]) (lc_s (lc_l rfl (lc_i (by first | omega | with_reducible rfl) rfl))) ?_
  refine w_loop2 (fun (k : Nat) (gl_1 : (Nat → va_E)) => OW cy B gl_1 0 W S P M ∧ (∀ q, 141 ≤ q → gl_1 q = g q) ∧ k ≤ 5) (fun (k : Nat) (gl_1 : (Nat → va_E)) => 5 - k) (fun (k : Nat) (gl_1 : (Nat → va_E)) => gl_1) (fun (k : Nat) (gl_1 : (Nat → va_E)) => [(0, .ref (B + 0)), (1, .long (zJ (hC S k))), (3, .int (zI ((k : Nat) : Int)))]) ?_ 0 g ⟨ho, hfr_0, (by first | omega | with_reducible rfl)⟩
  rintro k gl_1 ⟨ho_2, hfr_3, hk⟩ ih_6
  refine w_iload_n dL_whole_6 rfl 2 rfl ?_
  refine w_iconst dL_whole_7 ?_
  refine w_icmp_ge 30 dL_whole_8 (by decide) (by first | omega | with_reducible rfl) (by first | omega | with_reducible rfl) (fun c_8 => ?_) (fun c_8 => ?_)
  · refine w_iconst dL_whole_30 ?_
    refine w_istore_n [(3, .int (zI 0)), (0, .ref (B + 0)), (1, .long (zJ (hC S k)))] dL_whole_31 rfl (by decide) rfl ?_
    refine w_sub [(0, .ref (B + 0)), (1, .long (zJ (hC S k))), (3, .int (zI 0))] [1, 2, 0] rfl ?_
    refine w_lv (lv' := [(0, .ref (B + 0)), (1, .long (zJ (hI S (hC S 5) 0))), (3, .int (zI ((0 : Nat) : Int)))]) (lc_s (lc_l (by rw [show k = 5 by omega]; rfl) (lc_i (by first | omega | with_reducible rfl) rfl))) ?_
    refine w_loop2 (fun (i : Nat) (gl_4 : (Nat → va_E)) => OW cy B gl_4 0 W S P M ∧ (∀ q, 141 ≤ q → gl_4 q = g q) ∧ i ≤ S.length) (fun (i : Nat) (gl_4 : (Nat → va_E)) => S.length - i) (fun (i : Nat) (gl_4 : (Nat → va_E)) => gl_4) (fun (i : Nat) (gl_4 : (Nat → va_E)) => [(0, .ref (B + 0)), (1, .long (zJ (hI S (hC S 5) i))), (3, .int (zI ((i : Nat) : Int)))]) ?_ 0 gl_1 ⟨ho_2, hfr_3, (Nat.zero_le _)⟩
    rintro i gl_4 ⟨ho_5, hfr_6, hi⟩ ih_32
    refine w_iload_n dL_whole_32 rfl 2 rfl ?_
    refine w_aload_n dL_whole_33 rfl 0 rfl ?_
    refine w_iconst dL_whole_34 ?_
    obtain ⟨fx_9, hfx_9⟩ := OW_0 ho_5
    refine w_calli (As := [.int (zI 0)]) (rest := [.int (zI ((i : Nat) : Int))]) (n := 1) (a_count (what := 0) ho_5 (by omega) (by omega) ⟨by omega, by omega⟩) gL_whole_X10_count rfl rfl rfl (by decide +kernel) ⟨(Nat.le_of_ble_eq_true rfl), (Nat.le_of_ble_eq_true rfl)⟩ rfl (by omega) hfx_9 rfl (Nat.le_of_ble_eq_true rfl) ⟨Nat.zero_le _, Nat.zero_le _⟩ dL_whole_35 rfl (fun g_7 hp_8 => ?_)
    obtain ⟨ho_10, hf_11⟩ := hp_8
    have hfr_12 : ∀ q, 141 ≤ q → g_7 q = g q := fun q hq => (hf_11 q (by omega)).trans (hfr_6 q hq)
    refine w_as (st' := [.int (zI ((S.length : Nat) : Int)), .int (zI ((i : Nat) : Int))]) (sc_i rfl rfl) ?_
    refine w_icmp_ge 154 dL_whole_38 (by decide) (by have := hS.1; omega) (by have := hS.1; omega) (fun c_38 => ?_) (fun c_38 => ?_)
    · refine w_lload_n dL_whole_154 rfl 1 rfl ?_
      exact w_lret dL_whole_155 rfl (by (rw [show i = S.length by omega]; rfl)) ⟨ho_10, hfr_12⟩
    · refine w_iconst dL_whole_41 ?_
      refine w_istore [(4, .int (zI 0)), (0, .ref (B + 0)), (1, .long (zJ (hI S (hC S 5) i))), (3, .int (zI ((i : Nat) : Int)))] dL_whole_42 (by decide) rfl ?_
      refine w_sub [(0, .ref (B + 0)), (1, .long (zJ (hI S (hC S 5) i))), (3, .int (zI ((i : Nat) : Int))), (4, .int (zI 0))] [1, 2, 3, 0] rfl ?_
      refine w_lv (lv' := [(0, .ref (B + 0)), (1, .long (zJ (hSt S ((i : Nat) : Int) (hI S (hC S 5) i) 0))), (3, .int (zI ((i : Nat) : Int))), (4, .int (zI ((0 : Nat) : Int)))]) (lc_s (lc_l rfl (lc_s (lc_i (by first | omega | with_reducible rfl) rfl)))) ?_
      refine w_loop2 (fun (k1 : Nat) (gl_13 : (Nat → va_E)) => OW cy B gl_13 0 W S P M ∧ (∀ q, 141 ≤ q → gl_13 q = g q) ∧ k1 ≤ 7) (fun (k1 : Nat) (gl_13 : (Nat → va_E)) => 7 - k1) (fun (k1 : Nat) (gl_13 : (Nat → va_E)) => gl_13) (fun (k1 : Nat) (gl_13 : (Nat → va_E)) => [(0, .ref (B + 0)), (1, .long (zJ (hSt S ((i : Nat) : Int) (hI S (hC S 5) i) k1))), (3, .int (zI ((i : Nat) : Int))), (4, .int (zI ((k1 : Nat) : Int)))]) ?_ 0 g_7 ⟨ho_10, hfr_12, (by first | omega | with_reducible rfl)⟩
      rintro k1 gl_13 ⟨ho_14, hfr_15, hk1⟩ ih_44
      refine w_iload dL_whole_44 3 rfl ?_
      refine w_bipush dL_whole_46 (by decide) ?_
      refine w_icmp_ge 72 dL_whole_48 (by decide) (by first | omega | with_reducible rfl) (by first | omega | with_reducible rfl) (fun c_48 => ?_) (fun c_48 => ?_)
      · refine w_iconst dL_whole_72 ?_
        refine w_istore [(4, .int (zI 0)), (0, .ref (B + 0)), (1, .long (zJ (hSt S ((i : Nat) : Int) (hI S (hC S 5) i) k1))), (3, .int (zI ((i : Nat) : Int)))] dL_whole_73 (by decide) rfl ?_
        refine w_sub [(0, .ref (B + 0)), (1, .long (zJ (hSt S ((i : Nat) : Int) (hI S (hC S 5) i) k1))), (3, .int (zI ((i : Nat) : Int))), (4, .int (zI 0))] [1, 2, 3, 0] rfl ?_
        refine w_lv (lv' := [(0, .ref (B + 0)), (1, .long (zJ (hJ S ((i : Nat) : Int) (hSt S ((i : Nat) : Int) (hI S (hC S 5) i) 7) 0))), (3, .int (zI ((i : Nat) : Int))), (4, .int (zI ((0 : Nat) : Int)))]) (lc_s (lc_l (by rw [show k1 = 7 by omega]; rfl) (lc_s (lc_i (by first | omega | with_reducible rfl) rfl)))) ?_
        refine w_loop2 (fun (j : Nat) (gl_16 : (Nat → va_E)) => OW cy B gl_16 0 W S P M ∧ (∀ q, 141 ≤ q → gl_16 q = g q) ∧ j ≤ (S.getD i []).length) (fun (j : Nat) (gl_16 : (Nat → va_E)) => (S.getD i []).length - j) (fun (j : Nat) (gl_16 : (Nat → va_E)) => gl_16) (fun (j : Nat) (gl_16 : (Nat → va_E)) => [(0, .ref (B + 0)), (1, .long (zJ (hJ S ((i : Nat) : Int) (hSt S ((i : Nat) : Int) (hI S (hC S 5) i) 7) j))), (3, .int (zI ((i : Nat) : Int))), (4, .int (zI ((j : Nat) : Int)))]) ?_ 0 gl_13 ⟨ho_14, hfr_15, (Nat.zero_le _)⟩
        rintro j gl_16 ⟨ho_17, hfr_18, hj⟩ ih_75
        refine w_iload dL_whole_75 3 rfl ?_
        refine w_aload_n dL_whole_77 rfl 0 rfl ?_
        refine w_iload_n dL_whole_78 rfl 2 rfl ?_
        refine w_iconst dL_whole_79 ?_
        obtain ⟨fx_21, hfx_21⟩ := OW_0 ho_17
        refine w_calli (As := [.int (zI ((i : Nat) : Int)), .int (zI 0)]) (rest := [.int (zI ((j : Nat) : Int))]) (n := 2) (a_stratum (s := ((i : Nat) : Int)) (what := 0) ho_17 (by omega) (by omega) ⟨by omega, by omega⟩ ⟨by omega, by omega⟩) gL_whole_X10_stratum rfl rfl rfl (by decide +kernel) ⟨(Nat.le_of_ble_eq_true rfl), (Nat.le_of_ble_eq_true rfl)⟩ rfl (by omega) hfx_21 rfl (Nat.le_of_ble_eq_true rfl) ⟨Nat.zero_le _, Nat.zero_le _⟩ dL_whole_80 rfl (fun g_19 hp_20 => ?_)
        obtain ⟨ho_22, hf_23⟩ := hp_20
        have hfr_24 : ∀ q, 141 ≤ q → g_19 q = g q := fun q hq => (hf_23 q (by omega)).trans (hfr_18 q hq)
        have hc := hS.2 i (by omega)
        have hc5 := hc.1.1
        refine w_as (st' := [.int (zI (((S.getD i []).length : Nat) : Int)), .int (zI ((j : Nat) : Int))]) (sc_i (eStr_0 (by omega)) rfl) ?_
        refine w_icmp_ge 124 dL_whole_83 (by decide) (by omega) (by omega) (fun c_83 => ?_) (fun c_83 => ?_)
        · refine w_ldc2 (z := 31) (List.mem_of_getElem? (i := 2) rfl) dL_whole_124 ?_
          refine w_ldc2 (z := 31) (List.mem_of_getElem? (i := 2) rfl) dL_whole_127 ?_
          refine w_lload_n dL_whole_130 rfl 1 rfl ?_
          refine w_lmul dL_whole_131 ?_
          refine w_aload_n dL_whole_132 rfl 0 rfl ?_
          refine w_iload_n dL_whole_133 rfl 2 rfl ?_
          refine w_iconst dL_whole_134 ?_
          obtain ⟨fx_27, hfx_27⟩ := OW_0 ho_22
          refine w_calll (As := [.int (zI ((i : Nat) : Int)), .int (zI 0)]) (rest := [.long (zJ (31 * (hJ S ((i : Nat) : Int) (hSt S ((i : Nat) : Int) (hI S (hC S 5) i) 7) j))), .long (zJ 31)]) (n := 2) (a_ways (s := ((i : Nat) : Int)) (what := 0) ho_22 (by omega) (by omega) ⟨by omega, by omega⟩ ⟨by omega, by omega⟩) gL_whole_X10_ways rfl rfl rfl (by decide +kernel) ⟨(Nat.le_of_ble_eq_true rfl), (Nat.le_of_ble_eq_true rfl)⟩ rfl (by omega) hfx_27 rfl (Nat.le_of_ble_eq_true rfl) ⟨Nat.zero_le _, Nat.zero_le _⟩ dL_whole_135 rfl (fun g_25 hp_26 => ?_)
          obtain ⟨ho_28, hf_29⟩ := hp_26
          have hfr_30 : ∀ q, 141 ≤ q → g_25 q = g q := fun q hq => (hf_29 q (by omega)).trans (hfr_24 q hq)
          refine w_ladd dL_whole_138 ?_
          refine w_lmul dL_whole_139 ?_
          refine w_aload_n dL_whole_140 rfl 0 rfl ?_
          refine w_iload_n dL_whole_141 rfl 2 rfl ?_
          obtain ⟨fx_33, hfx_33⟩ := OW_0 ho_28
          refine w_calli (As := [.int (zI ((i : Nat) : Int))]) (rest := [.long (zJ (31 * ((31 * (hJ S ((i : Nat) : Int) (hSt S ((i : Nat) : Int) (hI S (hC S 5) i) 7) j)) + (eWay S ((i : Nat) : Int) 0))))]) (n := 1) (a_rank (s := ((i : Nat) : Int)) ho_28 (by omega) (by omega) ⟨by omega, by omega⟩) gL_whole_X10_rank rfl rfl rfl (by decide +kernel) ⟨(Nat.le_of_ble_eq_true rfl), (Nat.le_of_ble_eq_true rfl)⟩ rfl (by omega) hfx_33 rfl (Nat.le_of_ble_eq_true rfl) ⟨Nat.zero_le _, Nat.zero_le _⟩ dL_whole_142 rfl (fun g_31 hp_32 => ?_)
          obtain ⟨ho_34, hf_35⟩ := hp_32
          have hfr_36 : ∀ q, 141 ≤ q → g_31 q = g q := fun q hq => (hf_35 q (by omega)).trans (hfr_30 q hq)
          have hr := eRan_rg hS ((i : Nat) : Int)
          refine w_i2l dL_whole_145 (by omega) ?_
          refine w_ladd dL_whole_146 ?_
          refine w_lstore_n [(1, .long (zJ ((31 * ((31 * (hJ S ((i : Nat) : Int) (hSt S ((i : Nat) : Int) (hI S (hC S 5) i) 7) j)) + (eWay S ((i : Nat) : Int) 0))) + (eRan S ((i : Nat) : Int))))), (0, .ref (B + 0)), (3, .int (zI ((i : Nat) : Int))), (4, .int (zI ((j : Nat) : Int)))] dL_whole_147 rfl (by decide) rfl ?_
          refine w_lv (lv' := [(1, .long (zJ ((31 * ((31 * (hJ S ((i : Nat) : Int) (hSt S ((i : Nat) : Int) (hI S (hC S 5) i) 7) j)) + (eWay S ((i : Nat) : Int) 0))) + (eRan S ((i : Nat) : Int))))), (0, .ref (B + 0)), (3, .int (zI ((i : Nat) : Int))), (4, .int (zI ((j : Nat) : Int)))]) (lc_s (lc_s (lc_s (lc_s rfl)))) ?_
          refine w_iinc 2 [(3, .int (zI (((i : Nat) : Int) + 1))), (1, .long (zJ ((31 * ((31 * (hJ S ((i : Nat) : Int) (hSt S ((i : Nat) : Int) (hI S (hC S 5) i) 7) j)) + (eWay S ((i : Nat) : Int) 0))) + (eRan S ((i : Nat) : Int))))), (0, .ref (B + 0)), (4, .int (zI ((j : Nat) : Int)))] dL_whole_148 rfl (by decide) rfl ?_
          refine w_goto 32 dL_whole_151 (by decide) ?_
          refine w_sub [(0, .ref (B + 0)), (1, .long (zJ ((31 * ((31 * (hJ S ((i : Nat) : Int) (hSt S ((i : Nat) : Int) (hI S (hC S 5) i) 7) j)) + (eWay S ((i : Nat) : Int) 0))) + (eRan S ((i : Nat) : Int))))), (3, .int (zI (((i : Nat) : Int) + 1)))] [2, 1, 0] rfl ?_
          refine w_lv (lv' := [(0, .ref (B + 0)), (1, .long (zJ (hI S (hC S 5) (i + 1)))), (3, .int (zI (((i + 1) : Nat) : Int)))]) (lc_s (lc_l (by rw [show j = (S.getD i []).length by omega]; rfl) (lc_i (by first | omega | with_reducible rfl) rfl))) ?_
          exact ih_32 (i + 1) g_31 ⟨ho_34, hfr_36, (by first | omega | with_reducible rfl)⟩ (by first | omega | with_reducible rfl)
        · refine w_iconst dL_whole_86 ?_
          refine w_istore [(5, .int (zI 0)), (0, .ref (B + 0)), (1, .long (zJ (hJ S ((i : Nat) : Int) (hSt S ((i : Nat) : Int) (hI S (hC S 5) i) 7) j))), (3, .int (zI ((i : Nat) : Int))), (4, .int (zI ((j : Nat) : Int)))] dL_whole_87 (by decide) rfl ?_
          refine w_sub [(0, .ref (B + 0)), (1, .long (zJ (hJ S ((i : Nat) : Int) (hSt S ((i : Nat) : Int) (hI S (hC S 5) i) 7) j))), (3, .int (zI ((i : Nat) : Int))), (4, .int (zI ((j : Nat) : Int))), (5, .int (zI 0))] [1, 2, 3, 4, 0] rfl ?_
          refine w_lv (lv' := [(0, .ref (B + 0)), (1, .long (zJ (hK S ((i : Nat) : Int) ((j : Nat) : Int) (hJ S ((i : Nat) : Int) (hSt S ((i : Nat) : Int) (hI S (hC S 5) i) 7) j) 0))), (3, .int (zI ((i : Nat) : Int))), (4, .int (zI ((j : Nat) : Int))), (5, .int (zI ((0 : Nat) : Int)))]) (lc_s (lc_l rfl (lc_s (lc_s (lc_i (by first | omega | with_reducible rfl) rfl))))) ?_
          refine w_loop2 (fun (k2 : Nat) (gl_37 : (Nat → va_E)) => OW cy B gl_37 0 W S P M ∧ (∀ q, 141 ≤ q → gl_37 q = g q) ∧ k2 ≤ 3) (fun (k2 : Nat) (gl_37 : (Nat → va_E)) => 3 - k2) (fun (k2 : Nat) (gl_37 : (Nat → va_E)) => gl_37) (fun (k2 : Nat) (gl_37 : (Nat → va_E)) => [(0, .ref (B + 0)), (1, .long (zJ (hK S ((i : Nat) : Int) ((j : Nat) : Int) (hJ S ((i : Nat) : Int) (hSt S ((i : Nat) : Int) (hI S (hC S 5) i) 7) j) k2))), (3, .int (zI ((i : Nat) : Int))), (4, .int (zI ((j : Nat) : Int))), (5, .int (zI ((k2 : Nat) : Int)))]) ?_ 0 g_19 ⟨ho_22, hfr_24, (by first | omega | with_reducible rfl)⟩
          rintro k2 gl_37 ⟨ho_38, hfr_39, hk2⟩ ih_89
          refine w_iload dL_whole_89 4 rfl ?_
          refine w_iconst dL_whole_91 ?_
          refine w_icmp_ge 118 dL_whole_92 (by decide) (by first | omega | with_reducible rfl) (by first | omega | with_reducible rfl) (fun c_92 => ?_) (fun c_92 => ?_)
          · refine w_iinc 3 [(4, .int (zI (((j : Nat) : Int) + 1))), (0, .ref (B + 0)), (1, .long (zJ (hK S ((i : Nat) : Int) ((j : Nat) : Int) (hJ S ((i : Nat) : Int) (hSt S ((i : Nat) : Int) (hI S (hC S 5) i) 7) j) k2))), (3, .int (zI ((i : Nat) : Int))), (5, .int (zI ((k2 : Nat) : Int)))] dL_whole_118 rfl (by decide) rfl ?_
            refine w_goto 75 dL_whole_121 (by decide) ?_
            refine w_sub [(0, .ref (B + 0)), (1, .long (zJ (hK S ((i : Nat) : Int) ((j : Nat) : Int) (hJ S ((i : Nat) : Int) (hSt S ((i : Nat) : Int) (hI S (hC S 5) i) 7) j) k2))), (3, .int (zI ((i : Nat) : Int))), (4, .int (zI (((j : Nat) : Int) + 1)))] [1, 2, 3, 0] rfl ?_
            refine w_lv (lv' := [(0, .ref (B + 0)), (1, .long (zJ (hJ S ((i : Nat) : Int) (hSt S ((i : Nat) : Int) (hI S (hC S 5) i) 7) (j + 1)))), (3, .int (zI ((i : Nat) : Int))), (4, .int (zI (((j + 1) : Nat) : Int)))]) (lc_s (lc_l (by rw [show k2 = 3 by omega]; rfl) (lc_s (lc_i (by first | omega | with_reducible rfl) rfl)))) ?_
            exact ih_75 (j + 1) gl_37 ⟨ho_38, hfr_39, (by first | omega | with_reducible rfl)⟩ (by first | omega | with_reducible rfl)
          · refine w_ldc2 (z := 31) (List.mem_of_getElem? (i := 2) rfl) dL_whole_95 ?_
            refine w_lload_n dL_whole_98 rfl 1 rfl ?_
            refine w_lmul dL_whole_99 ?_
            refine w_aload_n dL_whole_100 rfl 0 rfl ?_
            refine w_iload_n dL_whole_101 rfl 2 rfl ?_
            refine w_iload dL_whole_102 3 rfl ?_
            refine w_iload dL_whole_104 4 rfl ?_
            obtain ⟨fx_42, hfx_42⟩ := OW_0 ho_38
            refine w_calli (As := [.int (zI ((i : Nat) : Int)), .int (zI ((j : Nat) : Int)), .int (zI ((k2 : Nat) : Int))]) (rest := [.long (zJ (31 * (hK S ((i : Nat) : Int) ((j : Nat) : Int) (hJ S ((i : Nat) : Int) (hSt S ((i : Nat) : Int) (hI S (hC S 5) i) 7) j) k2)))]) (n := 3) (a_column (s := ((i : Nat) : Int)) (j := ((j : Nat) : Int)) (what := ((k2 : Nat) : Int)) ho_38 (by omega) (by omega) ⟨by omega, by omega⟩ ⟨by omega, by omega⟩ ⟨by omega, by omega⟩) gL_whole_X10_column rfl rfl rfl (by decide +kernel) ⟨(Nat.le_of_ble_eq_true rfl), (Nat.le_of_ble_eq_true rfl)⟩ rfl (by omega) hfx_42 rfl (Nat.le_of_ble_eq_true rfl) ⟨Nat.zero_le _, Nat.zero_le _⟩ dL_whole_106 rfl (fun g_40 hp_41 => ?_)
            obtain ⟨ho_43, hf_44⟩ := hp_41
            have hfr_45 : ∀ q, 141 ≤ q → g_40 q = g q := fun q hq => (hf_44 q (by omega)).trans (hfr_39 q hq)
            have hr := eCol_rg hS ((i : Nat) : Int) ((j : Nat) : Int) ((k2 : Nat) : Int)
            refine w_i2l dL_whole_109 (by omega) ?_
            refine w_ladd dL_whole_110 ?_
            refine w_lstore_n [(1, .long (zJ ((31 * (hK S ((i : Nat) : Int) ((j : Nat) : Int) (hJ S ((i : Nat) : Int) (hSt S ((i : Nat) : Int) (hI S (hC S 5) i) 7) j) k2)) + (eCol S ((i : Nat) : Int) ((j : Nat) : Int) ((k2 : Nat) : Int))))), (0, .ref (B + 0)), (3, .int (zI ((i : Nat) : Int))), (4, .int (zI ((j : Nat) : Int))), (5, .int (zI ((k2 : Nat) : Int)))] dL_whole_111 rfl (by decide) rfl ?_
            refine w_iinc 4 [(5, .int (zI (((k2 : Nat) : Int) + 1))), (1, .long (zJ ((31 * (hK S ((i : Nat) : Int) ((j : Nat) : Int) (hJ S ((i : Nat) : Int) (hSt S ((i : Nat) : Int) (hI S (hC S 5) i) 7) j) k2)) + (eCol S ((i : Nat) : Int) ((j : Nat) : Int) ((k2 : Nat) : Int))))), (0, .ref (B + 0)), (3, .int (zI ((i : Nat) : Int))), (4, .int (zI ((j : Nat) : Int)))] dL_whole_112 rfl (by decide) rfl ?_
            refine w_goto 89 dL_whole_115 (by decide) ?_
            refine w_sub [(0, .ref (B + 0)), (1, .long (zJ ((31 * (hK S ((i : Nat) : Int) ((j : Nat) : Int) (hJ S ((i : Nat) : Int) (hSt S ((i : Nat) : Int) (hI S (hC S 5) i) 7) j) k2)) + (eCol S ((i : Nat) : Int) ((j : Nat) : Int) ((k2 : Nat) : Int))))), (3, .int (zI ((i : Nat) : Int))), (4, .int (zI ((j : Nat) : Int))), (5, .int (zI (((k2 : Nat) : Int) + 1)))] [2, 1, 3, 4, 0] rfl ?_
            refine w_lv (lv' := [(0, .ref (B + 0)), (1, .long (zJ (hK S ((i : Nat) : Int) ((j : Nat) : Int) (hJ S ((i : Nat) : Int) (hSt S ((i : Nat) : Int) (hI S (hC S 5) i) 7) j) (k2 + 1)))), (3, .int (zI ((i : Nat) : Int))), (4, .int (zI ((j : Nat) : Int))), (5, .int (zI (((k2 + 1) : Nat) : Int)))]) (lc_s (lc_l rfl (lc_s (lc_s (lc_i (by first | omega | with_reducible rfl) rfl))))) ?_
            exact ih_89 (k2 + 1) g_40 ⟨ho_43, hfr_45, (by first | omega | with_reducible rfl)⟩ (by first | omega | with_reducible rfl)
      · refine w_ldc2 (z := 31) (List.mem_of_getElem? (i := 2) rfl) dL_whole_51 ?_
        refine w_lload_n dL_whole_54 rfl 1 rfl ?_
        refine w_lmul dL_whole_55 ?_
        refine w_aload_n dL_whole_56 rfl 0 rfl ?_
        refine w_iload_n dL_whole_57 rfl 2 rfl ?_
        refine w_iload dL_whole_58 3 rfl ?_
        obtain ⟨fx_48, hfx_48⟩ := OW_0 ho_14
        refine w_calli (As := [.int (zI ((i : Nat) : Int)), .int (zI ((k1 : Nat) : Int))]) (rest := [.long (zJ (31 * (hSt S ((i : Nat) : Int) (hI S (hC S 5) i) k1)))]) (n := 2) (a_stratum (s := ((i : Nat) : Int)) (what := ((k1 : Nat) : Int)) ho_14 (by omega) (by omega) ⟨by omega, by omega⟩ ⟨by omega, by omega⟩) gL_whole_X10_stratum rfl rfl rfl (by decide +kernel) ⟨(Nat.le_of_ble_eq_true rfl), (Nat.le_of_ble_eq_true rfl)⟩ rfl (by omega) hfx_48 rfl (Nat.le_of_ble_eq_true rfl) ⟨Nat.zero_le _, Nat.zero_le _⟩ dL_whole_60 rfl (fun g_46 hp_47 => ?_)
        obtain ⟨ho_49, hf_50⟩ := hp_47
        have hfr_51 : ∀ q, 141 ≤ q → g_46 q = g q := fun q hq => (hf_50 q (by omega)).trans (hfr_15 q hq)
        have hr := eStr_rg hS ((i : Nat) : Int) ((k1 : Nat) : Int)
        refine w_i2l dL_whole_63 (by omega) ?_
        refine w_ladd dL_whole_64 ?_
        refine w_lstore_n [(1, .long (zJ ((31 * (hSt S ((i : Nat) : Int) (hI S (hC S 5) i) k1)) + (eStr S ((i : Nat) : Int) ((k1 : Nat) : Int))))), (0, .ref (B + 0)), (3, .int (zI ((i : Nat) : Int))), (4, .int (zI ((k1 : Nat) : Int)))] dL_whole_65 rfl (by decide) rfl ?_
        refine w_iinc 3 [(4, .int (zI (((k1 : Nat) : Int) + 1))), (1, .long (zJ ((31 * (hSt S ((i : Nat) : Int) (hI S (hC S 5) i) k1)) + (eStr S ((i : Nat) : Int) ((k1 : Nat) : Int))))), (0, .ref (B + 0)), (3, .int (zI ((i : Nat) : Int)))] dL_whole_66 rfl (by decide) rfl ?_
        refine w_goto 44 dL_whole_69 (by decide) ?_
        refine w_sub [(0, .ref (B + 0)), (1, .long (zJ ((31 * (hSt S ((i : Nat) : Int) (hI S (hC S 5) i) k1)) + (eStr S ((i : Nat) : Int) ((k1 : Nat) : Int))))), (3, .int (zI ((i : Nat) : Int))), (4, .int (zI (((k1 : Nat) : Int) + 1)))] [2, 1, 3, 0] rfl ?_
        refine w_lv (lv' := [(0, .ref (B + 0)), (1, .long (zJ (hSt S ((i : Nat) : Int) (hI S (hC S 5) i) (k1 + 1)))), (3, .int (zI ((i : Nat) : Int))), (4, .int (zI (((k1 + 1) : Nat) : Int)))]) (lc_s (lc_l rfl (lc_s (lc_i (by first | omega | with_reducible rfl) rfl)))) ?_
        exact ih_44 (k1 + 1) g_46 ⟨ho_49, hfr_51, (by first | omega | with_reducible rfl)⟩ (by first | omega | with_reducible rfl)
  · refine w_ldc2 (z := 31) (List.mem_of_getElem? (i := 2) rfl) dL_whole_11 ?_
    refine w_lload_n dL_whole_14 rfl 1 rfl ?_
    refine w_lmul dL_whole_15 ?_
    refine w_aload_n dL_whole_16 rfl 0 rfl ?_
    refine w_iload_n dL_whole_17 rfl 2 rfl ?_
    obtain ⟨fx_54, hfx_54⟩ := OW_0 ho_2
    refine w_calli (As := [.int (zI ((k : Nat) : Int))]) (rest := [.long (zJ (31 * (hC S k)))]) (n := 1) (a_count (what := ((k : Nat) : Int)) ho_2 (by omega) (by omega) ⟨by omega, by omega⟩) gL_whole_X10_count rfl rfl rfl (by decide +kernel) ⟨(Nat.le_of_ble_eq_true rfl), (Nat.le_of_ble_eq_true rfl)⟩ rfl (by omega) hfx_54 rfl (Nat.le_of_ble_eq_true rfl) ⟨Nat.zero_le _, Nat.zero_le _⟩ dL_whole_18 rfl (fun g_52 hp_53 => ?_)
    obtain ⟨ho_55, hf_56⟩ := hp_53
    have hfr_57 : ∀ q, 141 ≤ q → g_52 q = g q := fun q hq => (hf_56 q (by omega)).trans (hfr_3 q hq)
    have hr := eCn0_rg hS ((k : Nat) : Int)
    refine w_as (st' := [.int (zI (eCn0 S ((k : Nat) : Int))), .long (zJ (31 * (hC S k)))]) (sc_i (eCnt_0 (by omega)) rfl) ?_
    refine w_i2l dL_whole_21 (by omega) ?_
    refine w_ladd dL_whole_22 ?_
    refine w_lstore_n [(1, .long (zJ ((31 * (hC S k)) + (eCn0 S ((k : Nat) : Int))))), (0, .ref (B + 0)), (3, .int (zI ((k : Nat) : Int)))] dL_whole_23 rfl (by decide) rfl ?_
    refine w_iinc 2 [(3, .int (zI (((k : Nat) : Int) + 1))), (1, .long (zJ ((31 * (hC S k)) + (eCn0 S ((k : Nat) : Int))))), (0, .ref (B + 0))] dL_whole_24 rfl (by decide) rfl ?_
    refine w_goto 6 dL_whole_27 (by decide) ?_
    refine w_sub [(0, .ref (B + 0)), (1, .long (zJ ((31 * (hC S k)) + (eCn0 S ((k : Nat) : Int))))), (3, .int (zI (((k : Nat) : Int) + 1)))] [2, 1, 0] rfl ?_
    refine w_lv (lv' := [(0, .ref (B + 0)), (1, .long (zJ (hC S (k + 1)))), (3, .int (zI (((k + 1) : Nat) : Int)))]) (lc_s (lc_l rfl (lc_i (by first | omega | with_reducible rfl) rfl))) ?_
    exact ih_6 (k + 1) g_52 ⟨ho_55, hfr_57, (by first | omega | with_reducible rfl)⟩ (by first | omega | with_reducible rfl)

set_option maxHeartbeats 4000000 in
set_option maxRecDepth 100000 in
theorem c_isFault {l : Launch} {D : va_G} {cy : Nat → ClassId} {B N : Nat} {g : Nat → va_E} {W : List Int} {S : St} {P : List St} {M : Int} {place : Int} (ho : OW cy B g 0 W S P M) (hN : 141 ≤ N) (hM : M < 2147480000) (hp : -2147483648 ≤ place ∧ place < 2147483648) (hE : eFau W = place) (hno : ¬ ((psW W).1 = -1 ∧ lyd (psW W).2)) : CTi l yL_isFault wsL_isFault (rmo 8 209) D cy B N g [.ref (B + 0), .int (zI place)] 1 (fun g' => OW cy B g' 0 ([]) S P M ∧ (∀ q, 141 ≤ q → g' q = g q)) := by
  refine WW_of (cc := cL_isFault) (maxL := 7) (ret := (some .boolean)) (own := RL) (by decide) rfl rfl (Nat.le_of_ble_eq_true rfl) rfl ?_
  intro pp ee ss mm bl me co hmn
  have hfr_0 : ∀ q, 141 ≤ q → g q = g q := fun _ _ => rfl
  refine w_aload_n dL_isFault_0 rfl 0 rfl ?_
  refine w_calllS (As := [.ref (B + 0)]) (rest := []) (n := 1) (c_whole ho (by omega) (by omega)) gL_isFault_L_whole rfl rfl rfl (by decide +kernel) ⟨(Nat.le_of_ble_eq_true rfl), (Nat.le_of_ble_eq_true rfl)⟩ rfl (Nat.le_of_ble_eq_true rfl) ⟨Nat.zero_le _, Nat.zero_le _⟩ dL_isFault_1 rfl (fun g_1 hp_2 => ?_)
  obtain ⟨ho_3, hf_4⟩ := hp_2
  have hfr_5 : ∀ q, 141 ≤ q → g_1 q = g q := fun q hq => (hf_4 q (by omega)).trans (hfr_0 q hq)
  refine w_lstore_n [(2, .long (zJ (wh S))), (0, .ref (B + 0)), (1, .int (zI place))] dL_isFault_4 rfl (by decide) rfl ?_
  refine w_aload_n dL_isFault_5 rfl 1 rfl ?_
  refine w_bipush dL_isFault_6 (by decide) ?_
  obtain ⟨fx_8, hfx_8⟩ := OW_0 ho_3
  refine w_calli (As := [.int (zI 6)]) (rest := []) (n := 1) (a_count (what := 6) ho_3 (by omega) (by omega) ⟨by omega, by omega⟩) gL_isFault_X10_count rfl rfl rfl (by decide +kernel) ⟨(Nat.le_of_ble_eq_true rfl), (Nat.le_of_ble_eq_true rfl)⟩ rfl (by omega) hfx_8 rfl (Nat.le_of_ble_eq_true rfl) ⟨Nat.zero_le _, Nat.zero_le _⟩ dL_isFault_8 rfl (fun g_6 hp_7 => ?_)
  obtain ⟨ho_9, hf_10⟩ := hp_7
  have hfr_11 : ∀ q, 141 ≤ q → g_6 q = g q := fun q hq => (hf_10 q (by omega)).trans (hfr_5 q hq)
  refine w_istore [(4, .int (zI (eCnt W S P 6))), (2, .long (zJ (wh S))), (0, .ref (B + 0)), (1, .int (zI place))] dL_isFault_11 (by decide) rfl ?_
  refine w_aload_n dL_isFault_13 rfl 2 rfl ?_
  refine w_iconst dL_isFault_14 ?_
  obtain ⟨fx_14, hfx_14⟩ := OW_0 ho_9
  refine w_calli (As := [.int (zI 5)]) (rest := []) (n := 1) (a_count (what := 5) ho_9 (by omega) (by omega) ⟨by omega, by omega⟩) gL_isFault_X10_count rfl rfl rfl (by decide +kernel) ⟨(Nat.le_of_ble_eq_true rfl), (Nat.le_of_ble_eq_true rfl)⟩ rfl (by omega) hfx_14 rfl (Nat.le_of_ble_eq_true rfl) ⟨Nat.zero_le _, Nat.zero_le _⟩ dL_isFault_15 rfl (fun g_12 hp_13 => ?_)
  obtain ⟨ho_15, hf_16⟩ := hp_13
  have hfr_17 : ∀ q, 141 ≤ q → g_12 q = g q := fun q hq => (hf_16 q (by omega)).trans (hfr_11 q hq)
  refine w_istore [(5, .int (zI (eCnt W S P 5))), (4, .int (zI (eCnt W S P 6))), (2, .long (zJ (wh S))), (0, .ref (B + 0)), (1, .int (zI place))] dL_isFault_18 (by decide) rfl ?_
  refine w_aload_n dL_isFault_20 rfl 3 rfl ?_
  obtain ⟨fx_20, hfx_20⟩ := OW_0 ho_15
  refine w_calli (As := []) (rest := []) (n := 0) (a_fault ho_15 (by omega) (by omega)) gL_isFault_X10_fault rfl rfl rfl (by decide +kernel) ⟨(Nat.le_of_ble_eq_true rfl), (Nat.le_of_ble_eq_true rfl)⟩ rfl (by omega) hfx_20 rfl (Nat.le_of_ble_eq_true rfl) ⟨Nat.zero_le _, Nat.zero_le _⟩ dL_isFault_21 rfl (fun g_18 hp_19 => ?_)
  obtain ⟨ho_21, hf_22⟩ := hp_19
  have hfr_23 : ∀ q, 141 ≤ q → g_18 q = g q := fun q hq => (hf_22 q (by omega)).trans (hfr_17 q hq)
  refine w_iload_n dL_isFault_24 rfl 4 rfl ?_
  refine w_as (st' := [.int (zI place), .int (zI place)]) (lc_s (sc_i hE rfl)) ?_
  refine w_icmp_neS 71 dL_isFault_25 (by decide) ?_
  refine w_aload_n dL_isFault_28 rfl 3 rfl ?_
  obtain ⟨fx_26, hfx_26⟩ := OW_0 ho_21
  refine w_calli (As := []) (rest := []) (n := 0) (n_lay ho_21 (by omega) (by omega) hno) gL_isFault_X10_lay rfl rfl rfl (by decide +kernel) ⟨(Nat.le_of_ble_eq_true rfl), (Nat.le_of_ble_eq_true rfl)⟩ rfl (by omega) hfx_26 rfl (Nat.le_of_ble_eq_true rfl) ⟨Nat.zero_le _, Nat.zero_le _⟩ dL_isFault_29 rfl (fun g_24 hp_25 => ?_)
  obtain ⟨ho_27, hf_28⟩ := hp_25
  have hfr_29 : ∀ q, 141 ≤ q → g_24 q = g q := fun q hq => (hf_28 q (by omega)).trans (hfr_23 q hq)
  refine w_bipush dL_isFault_32 (by decide) ?_
  refine w_icmp_neS 71 dL_isFault_34 (by decide) ?_
  refine w_aload_n dL_isFault_37 rfl 3 rfl ?_
  refine w_calllS (As := [.ref (B + 0)]) (rest := []) (n := 1) (c_whole ho_27 (by omega) (by omega)) gL_isFault_L_whole rfl rfl rfl (by decide +kernel) ⟨(Nat.le_of_ble_eq_true rfl), (Nat.le_of_ble_eq_true rfl)⟩ rfl (Nat.le_of_ble_eq_true rfl) ⟨Nat.zero_le _, Nat.zero_le _⟩ dL_isFault_38 rfl (fun g_30 hp_31 => ?_)
  obtain ⟨ho_32, hf_33⟩ := hp_31
  have hfr_34 : ∀ q, 141 ≤ q → g_30 q = g q := fun q hq => (hf_33 q (by omega)).trans (hfr_29 q hq)
  refine w_lload_n dL_isFault_41 rfl 2 rfl ?_
  refine w_lcmp_neS 71 dL_isFault_42 dL_isFault_43 (by decide) ?_
  refine w_aload_n dL_isFault_46 rfl 3 rfl ?_
  refine w_bipush dL_isFault_47 (by decide) ?_
  obtain ⟨fx_37, hfx_37⟩ := OW_0 ho_32
  refine w_calli (As := [.int (zI 6)]) (rest := []) (n := 1) (a_count (what := 6) ho_32 (by omega) (by omega) ⟨by omega, by omega⟩) gL_isFault_X10_count rfl rfl rfl (by decide +kernel) ⟨(Nat.le_of_ble_eq_true rfl), (Nat.le_of_ble_eq_true rfl)⟩ rfl (by omega) hfx_37 rfl (Nat.le_of_ble_eq_true rfl) ⟨Nat.zero_le _, Nat.zero_le _⟩ dL_isFault_49 rfl (fun g_35 hp_36 => ?_)
  obtain ⟨ho_38, hf_39⟩ := hp_36
  have hfr_40 : ∀ q, 141 ≤ q → g_35 q = g q := fun q hq => (hf_39 q (by omega)).trans (hfr_34 q hq)
  refine w_iload dL_isFault_52 1 rfl ?_
  refine w_icmp_neS 71 dL_isFault_54 (by decide) ?_
  refine w_aload_n dL_isFault_57 rfl 3 rfl ?_
  refine w_iconst dL_isFault_58 ?_
  obtain ⟨fx_43, hfx_43⟩ := OW_0 ho_38
  refine w_calli (As := [.int (zI 5)]) (rest := []) (n := 1) (a_count (what := 5) ho_38 (by omega) (by omega) ⟨by omega, by omega⟩) gL_isFault_X10_count rfl rfl rfl (by decide +kernel) ⟨(Nat.le_of_ble_eq_true rfl), (Nat.le_of_ble_eq_true rfl)⟩ rfl (by omega) hfx_43 rfl (Nat.le_of_ble_eq_true rfl) ⟨Nat.zero_le _, Nat.zero_le _⟩ dL_isFault_59 rfl (fun g_41 hp_42 => ?_)
  obtain ⟨ho_44, hf_45⟩ := hp_42
  have hfr_46 : ∀ q, 141 ≤ q → g_41 q = g q := fun q hq => (hf_45 q (by omega)).trans (hfr_40 q hq)
  refine w_iload dL_isFault_62 0 rfl ?_
  refine w_icmp_neS 71 dL_isFault_64 (by decide) ?_
  refine w_iconst dL_isFault_67 ?_
  refine w_goto 72 dL_isFault_68 (by decide) ?_
  refine w_istore [(6, .int (zI 1)), (5, .int (zI (eCnt W S P 5))), (4, .int (zI (eCnt W S P 6))), (2, .long (zJ (wh S))), (0, .ref (B + 0)), (1, .int (zI place))] dL_isFault_72 (by decide) rfl ?_
  refine w_iload dL_isFault_74 0 rfl ?_
  refine w_if_eq 101 dL_isFault_76 (by decide) (by first | omega | with_reducible rfl) (fun c_76 => ?_) (fun c_76 => ?_)
  · exfalso; omega
  · refine w_aload_n dL_isFault_79 rfl 4 rfl ?_
    obtain ⟨fx_49, hfx_49⟩ := OW_0 ho_44
    refine w_calli (As := []) (rest := []) (n := 0) (a_wipe ho_44 (by omega) (by omega)) gL_isFault_X10_wipe rfl rfl rfl (by decide +kernel) ⟨(Nat.le_of_ble_eq_true rfl), (Nat.le_of_ble_eq_true rfl)⟩ rfl (by omega) hfx_49 rfl (Nat.le_of_ble_eq_true rfl) ⟨Nat.zero_le _, Nat.zero_le _⟩ dL_isFault_80 rfl (fun g_47 hp_48 => ?_)
    obtain ⟨ho_50, hf_51⟩ := hp_48
    have hfr_52 : ∀ q, 141 ≤ q → g_47 q = g q := fun q hq => (hf_51 q (by omega)).trans (hfr_46 q hq)
    refine w_iload dL_isFault_83 2 rfl ?_
    refine w_as (st' := [.int (zI ((W.length : Nat) : Int)), .int (zI ((W.length : Nat) : Int))]) (sc_i rfl rfl) ?_
    refine w_icmp_neS 101 dL_isFault_85 (by decide) ?_
    refine w_aload_n dL_isFault_88 rfl 4 rfl ?_
    refine w_bipush dL_isFault_89 (by decide) ?_
    obtain ⟨fx_55, hfx_55⟩ := OW_0 ho_50
    refine w_calli (As := [.int (zI 6)]) (rest := []) (n := 1) (a_count (what := 6) ho_50 (by omega) (by omega) ⟨by omega, by omega⟩) gL_isFault_X10_count rfl rfl rfl (by decide +kernel) ⟨(Nat.le_of_ble_eq_true rfl), (Nat.le_of_ble_eq_true rfl)⟩ rfl (by omega) hfx_55 rfl (Nat.le_of_ble_eq_true rfl) ⟨Nat.zero_le _, Nat.zero_le _⟩ dL_isFault_91 rfl (fun g_53 hp_54 => ?_)
    obtain ⟨ho_56, hf_57⟩ := hp_54
    have hfr_58 : ∀ q, 141 ≤ q → g_53 q = g q := fun q hq => (hf_57 q (by omega)).trans (hfr_52 q hq)
    refine w_as (st' := [.int (zI 0)]) (sc_i rfl rfl) ?_
    refine w_if_ne 101 dL_isFault_94 (by decide) (by first | omega | with_reducible rfl) (fun c_94 => ?_) (fun c_94 => ?_)
    · exfalso; omega
    · refine w_iconst dL_isFault_97 ?_
      refine w_goto 102 dL_isFault_98 (by decide) ?_
      exact w_zret dL_isFault_102 rfl rfl (by rfl) ⟨ho_56, hfr_58⟩

