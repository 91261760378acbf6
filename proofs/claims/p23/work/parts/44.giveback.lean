/-! ===== Columns.tellAbove/tellScore at any column; Past.giveBack ===== -/
def tA (X : Int → Int) (n : Nat) (j x : Int) : Int → Int := if 0 ≤ j ∧ j < n then uZ X j x else X
def tV (ver : Int) (n : Nat) (j : Int) : Int := if 0 ≤ j ∧ j < n then ver + 1 else ver
theorem tA_st {X Rn : Int → Int} {n k : Nat} {o : Int} (h : ∀ y : Int, 0 ≤ y → y < n → y < k → X y = Rn (o + y)) : ∀ y : Int, 0 ≤ y → y < n → y < ((k + 1 : Nat) : Int) → tA X n ((k : Nat) : Int) (Rn (o + ((k : Nat) : Int))) y = Rn (o + y) := fun y h1 h2 h3 => by
  unfold tA
  by_cases hk : y = (k : Int)
  · rw [if_pos (by omega), hk, uZ_same]
  · by_cases hn : 0 ≤ ((k : Nat) : Int) ∧ ((k : Nat) : Int) < n
    · rw [if_pos hn, uZ_ne hk]
      exact h y h1 h2 (by omega)
    · rw [if_neg hn]
      exact h y h1 h2 (by omega)
theorem tV_2 {ver : Int} {n k : Nat} : tV (tV (ver + 2 * ((min k n : Nat) : Int)) n ((k : Nat) : Int)) n ((k : Nat) : Int) = ver + 2 * ((min (k + 1) n : Nat) : Int) := by
  unfold tV
  by_cases h : k < n
  · rw [if_pos (by omega), if_pos (by omega)]
    omega
  · rw [if_neg (by omega), if_neg (by omega)]
    omega
set_option maxHeartbeats 4000000 in
set_option maxRecDepth 100000 in
theorem c_X0_tellAbove_g {l : Launch} {D : va_G} {cy : Nat → ClassId} {B N : Nat} {g : Nat → va_E} {b sets n : Nat} {ver : Int} {T X V : Int → Int} {Wy : Nat → Int → Int} {j x : Int} (hc : vCol cy B g b sets n ver T X V Wy) (hN : b + 10 ≤ N) (hn : n ≤ 5) (h_j : -2147483648 ≤ j ∧ j < 2147483648) : CTv l yX0_tellAbove wsX0_tellAbove (rmo 1 21) D cy B N g [.ref (B + b), .int (zI j), .int (zI x)] (fun g' => vCol cy B g' b sets n (tV ver n j) T (tA X n j x) V Wy ∧ (∀ q, (q < b ∨ b + 10 ≤ q) → g' q = g q)) := by
  refine WW_of (cc := cX0_tellAbove) (maxL := 3) (ret := none) (own := RX0) (by decide) rfl rfl (Nat.le_of_ble_eq_true rfl) rfl ?_
  intro pp ee ss mm bl me co hmn
  have hfr_0 : ∀ q, (q < b ∨ b + 10 ≤ q) → g q = g q := fun _ _ => rfl
  refine w_aload_n dX0_tellAbove_0 rfl 0 rfl ?_
  refine w_iload_n dX0_tellAbove_1 rfl 1 rfl ?_
  refine w_calli (As := [.int (zI j)]) (rest := []) (n := 1) (c_X0_has hc (by first | omega | with_reducible rfl) (by first | omega | with_reducible rfl) (by first | omega | with_reducible rfl)) gX0_tellAbove_X0_has rfl rfl rfl (by decide +kernel) ⟨Nat.le_of_ble_eq_true rfl, Nat.le_of_ble_eq_true rfl⟩ rfl (by first | omega | with_reducible rfl) hc.1 rfl (Nat.le_of_ble_eq_true rfl) ⟨Nat.zero_le _, Nat.zero_le _⟩ dX0_tellAbove_2 rfl (fun g_1 hp_2 => ?_)
  subst g_1
  refine w_ifeqB 25 dX0_tellAbove_5 (by decide) (fun c_5 => ?_) (fun c_5 => ?_)
  · exact w_vret dX0_tellAbove_25 rfl ⟨(by have h9 := hc; unfold tA tV; first | (rw [if_pos (by omega), if_pos (by omega)]; exact h9) | (rw [if_neg (by omega), if_neg (by omega)]; exact h9)), hfr_0⟩
  · refine w_aload_n dX0_tellAbove_8 rfl 0 rfl ?_
    refine w_get (i := 2) (T := TX0) (NF := 7) b (by first | omega | with_reducible rfl) hc.1 rfl (fun _ h => (List.mem_cons_of_mem _ (List.mem_append_right _ h))) (by decide) (List.mem_of_getElem? (i := 1) rfl) rfl dX0_tellAbove_9 ?_
    refine w_iload_n dX0_tellAbove_12 rfl 1 rfl ?_
    refine w_iload_n dX0_tellAbove_13 rfl 2 rfl ?_
    refine w_iast (b + 2) (by first | omega | with_reducible rfl) hc.2.2.1 (by first | omega | with_reducible rfl) dX0_tellAbove_14 (fun g_3 he_4 hn_5 => ?_)
    have hc_6 : vCol cy B g_3 b sets n ver T (uZ X j x) V Wy := ⟨((hn_5 _ (by omega)).trans hc.1), ((hn_5 _ (by omega)).trans hc.2.1), he_4, ((hn_5 _ (by omega)).trans hc.2.2.2.1), ((hn_5 _ (by omega)).trans hc.2.2.2.2.1), (fun k hk => (hn_5 _ (by omega)).trans (hc.2.2.2.2.2 k hk))⟩
    have hfr_7 : ∀ q, (q < b ∨ b + 10 ≤ q) → g_3 q = g q := fun q hq => (hn_5 q (by omega)).trans (hfr_0 q hq)
    refine w_aload_n dX0_tellAbove_15 rfl 0 rfl ?_
    refine w_dup dX0_tellAbove_16 rfl ?_
    refine w_get (i := 6) (T := TX0) (NF := 7) b (by first | omega | with_reducible rfl) hc_6.1 rfl (fun _ h => (List.mem_cons_of_mem _ (List.mem_append_right _ h))) (by decide) (List.mem_of_getElem? (i := 2) rfl) rfl dX0_tellAbove_17 ?_
    refine w_iconst dX0_tellAbove_20 ?_
    refine w_iadd dX0_tellAbove_21 ?_
    refine w_put (i := 6) (T := TX0) (NF := 7) b (by first | omega | with_reducible rfl) hc_6.1 rfl (fun _ h => (List.mem_cons_of_mem _ (List.mem_append_right _ h))) tyX0 tyX0_ok nmX0 (by decide) (List.mem_of_getElem? (i := 2) rfl) rfl rfl rfl (Nat.le_of_ble_eq_true rfl) dX0_tellAbove_22 (fun g_8 he_9 hn_10 => ?_)
    have hc_11 : vCol cy B g_8 b sets n (ver + 1) T (uZ X j x) V Wy := ⟨he_9, ((hn_10 _ (by omega)).trans hc_6.2.1), ((hn_10 _ (by omega)).trans hc_6.2.2.1), ((hn_10 _ (by omega)).trans hc_6.2.2.2.1), ((hn_10 _ (by omega)).trans hc_6.2.2.2.2.1), (fun k hk => (hn_10 _ (by omega)).trans (hc_6.2.2.2.2.2 k hk))⟩
    have hfr_12 : ∀ q, (q < b ∨ b + 10 ≤ q) → g_8 q = g q := fun q hq => (hn_10 q (by omega)).trans (hfr_7 q hq)
    exact w_vret dX0_tellAbove_25 rfl ⟨(by have h9 := hc_11; unfold tA tV; first | (rw [if_pos (by omega), if_pos (by omega)]; exact h9) | (rw [if_neg (by omega), if_neg (by omega)]; exact h9)), hfr_12⟩
set_option maxHeartbeats 4000000 in
set_option maxRecDepth 100000 in
theorem c_X0_tellScore_g {l : Launch} {D : va_G} {cy : Nat → ClassId} {B N : Nat} {g : Nat → va_E} {b sets n : Nat} {ver : Int} {T X V : Int → Int} {Wy : Nat → Int → Int} {j x : Int} (hc : vCol cy B g b sets n ver T X V Wy) (hN : b + 10 ≤ N) (hn : n ≤ 5) (h_j : -2147483648 ≤ j ∧ j < 2147483648) : CTv l yX0_tellScore wsX0_tellScore (rmo 1 21) D cy B N g [.ref (B + b), .int (zI j), .int (zI x)] (fun g' => vCol cy B g' b sets n (tV ver n j) T X (tA V n j x) Wy ∧ (∀ q, (q < b ∨ b + 10 ≤ q) → g' q = g q)) := by
  refine WW_of (cc := cX0_tellScore) (maxL := 3) (ret := none) (own := RX0) (by decide) rfl rfl (Nat.le_of_ble_eq_true rfl) rfl ?_
  intro pp ee ss mm bl me co hmn
  have hfr_0 : ∀ q, (q < b ∨ b + 10 ≤ q) → g q = g q := fun _ _ => rfl
  refine w_aload_n dX0_tellScore_0 rfl 0 rfl ?_
  refine w_iload_n dX0_tellScore_1 rfl 1 rfl ?_
  refine w_calli (As := [.int (zI j)]) (rest := []) (n := 1) (c_X0_has hc (by first | omega | with_reducible rfl) (by first | omega | with_reducible rfl) (by first | omega | with_reducible rfl)) gX0_tellScore_X0_has rfl rfl rfl (by decide +kernel) ⟨Nat.le_of_ble_eq_true rfl, Nat.le_of_ble_eq_true rfl⟩ rfl (by first | omega | with_reducible rfl) hc.1 rfl (Nat.le_of_ble_eq_true rfl) ⟨Nat.zero_le _, Nat.zero_le _⟩ dX0_tellScore_2 rfl (fun g_1 hp_2 => ?_)
  subst g_1
  refine w_ifeqB 25 dX0_tellScore_5 (by decide) (fun c_5 => ?_) (fun c_5 => ?_)
  · exact w_vret dX0_tellScore_25 rfl ⟨(by have h9 := hc; unfold tA tV; first | (rw [if_pos (by omega), if_pos (by omega)]; exact h9) | (rw [if_neg (by omega), if_neg (by omega)]; exact h9)), hfr_0⟩
  · refine w_aload_n dX0_tellScore_8 rfl 0 rfl ?_
    refine w_get (i := 3) (T := TX0) (NF := 7) b (by first | omega | with_reducible rfl) hc.1 rfl (fun _ h => (List.mem_cons_of_mem _ (List.mem_append_right _ h))) (by decide) (List.mem_of_getElem? (i := 1) rfl) rfl dX0_tellScore_9 ?_
    refine w_iload_n dX0_tellScore_12 rfl 1 rfl ?_
    refine w_iload_n dX0_tellScore_13 rfl 2 rfl ?_
    refine w_iast (b + 3) (by first | omega | with_reducible rfl) hc.2.2.2.1 (by first | omega | with_reducible rfl) dX0_tellScore_14 (fun g_3 he_4 hn_5 => ?_)
    have hc_6 : vCol cy B g_3 b sets n ver T X (uZ V j x) Wy := ⟨((hn_5 _ (by omega)).trans hc.1), ((hn_5 _ (by omega)).trans hc.2.1), ((hn_5 _ (by omega)).trans hc.2.2.1), he_4, ((hn_5 _ (by omega)).trans hc.2.2.2.2.1), (fun k hk => (hn_5 _ (by omega)).trans (hc.2.2.2.2.2 k hk))⟩
    have hfr_7 : ∀ q, (q < b ∨ b + 10 ≤ q) → g_3 q = g q := fun q hq => (hn_5 q (by omega)).trans (hfr_0 q hq)
    refine w_aload_n dX0_tellScore_15 rfl 0 rfl ?_
    refine w_dup dX0_tellScore_16 rfl ?_
    refine w_get (i := 6) (T := TX0) (NF := 7) b (by first | omega | with_reducible rfl) hc_6.1 rfl (fun _ h => (List.mem_cons_of_mem _ (List.mem_append_right _ h))) (by decide) (List.mem_of_getElem? (i := 2) rfl) rfl dX0_tellScore_17 ?_
    refine w_iconst dX0_tellScore_20 ?_
    refine w_iadd dX0_tellScore_21 ?_
    refine w_put (i := 6) (T := TX0) (NF := 7) b (by first | omega | with_reducible rfl) hc_6.1 rfl (fun _ h => (List.mem_cons_of_mem _ (List.mem_append_right _ h))) tyX0 tyX0_ok nmX0 (by decide) (List.mem_of_getElem? (i := 2) rfl) rfl rfl rfl (Nat.le_of_ble_eq_true rfl) dX0_tellScore_22 (fun g_8 he_9 hn_10 => ?_)
    have hc_11 : vCol cy B g_8 b sets n (ver + 1) T X (uZ V j x) Wy := ⟨he_9, ((hn_10 _ (by omega)).trans hc_6.2.1), ((hn_10 _ (by omega)).trans hc_6.2.2.1), ((hn_10 _ (by omega)).trans hc_6.2.2.2.1), ((hn_10 _ (by omega)).trans hc_6.2.2.2.2.1), (fun k hk => (hn_10 _ (by omega)).trans (hc_6.2.2.2.2.2 k hk))⟩
    have hfr_12 : ∀ q, (q < b ∨ b + 10 ≤ q) → g_8 q = g q := fun q hq => (hn_10 q (by omega)).trans (hfr_7 q hq)
    exact w_vret dX0_tellScore_25 rfl ⟨(by have h9 := hc_11; unfold tA tV; first | (rw [if_pos (by omega), if_pos (by omega)]; exact h9) | (rw [if_neg (by omega), if_neg (by omega)]; exact h9)), hfr_12⟩
set_option maxHeartbeats 4000000 in
set_option maxRecDepth 100000 in
theorem c_X3_giveBack {l : Launch} {D : va_G} {cy : Nat → ClassId} {B N : Nat} {g : Nat → va_E} {b nx sz : Nat} {wh : Int → Int} {Rw : Nat → Int → Int} {cb sets n : Nat} {ver : Int} {T X V : Int → Int} {Wy : Nat → Int → Int} (hp : vPast cy B g b wh Rw nx sz) (hc : vCol cy B g cb sets n ver T X V Wy) (hB : b + 9 ≤ N) (hx : nx < 6) (hs : 0 < sz ∧ sz ≤ 6) (hN : cb + 10 ≤ N) (hn : n ≤ 5) (hd : cb + 10 ≤ b ∨ b + 9 ≤ cb) : CTv l yX3_giveBack wsX3_giveBack (rmo 2 43) D cy B N g [.ref (B + b), .ref (B + cb)] (fun g' => ∃ X1 : Int → Int, ∃ V1 : Int → Int, vPast cy B g' b wh Rw (lrow nx) (sz - 1) ∧ vCol cy B g' cb sets n (ver + 2 * ((n : Nat) : Int)) T X1 V1 Wy ∧ (∀ y : Int, 0 ≤ y → y < n → X1 y = Rw (lrow nx) y ∧ V1 y = Rw (lrow nx) (5 + y)) ∧ (∀ q, ((q < b ∨ b + 9 ≤ q) ∧ (q < cb ∨ cb + 10 ≤ q)) → g' q = g q)) := by
  refine WW_of (cc := cX3_giveBack) (maxL := 4) (ret := none) (own := RX3) (by decide) rfl rfl (Nat.le_of_ble_eq_true rfl) rfl ?_
  intro pp ee ss mm bl me co hmn
  have hfr_0 : ∀ q, ((q < b ∨ b + 9 ≤ q) ∧ (q < cb ∨ cb + 10 ≤ q)) → g q = g q := fun _ _ => rfl
  refine w_aload_n dX3_giveBack_0 rfl 0 rfl ?_
  refine w_get (i := 3) (T := TX3) (NF := 4) b (by first | omega | with_reducible rfl) hp.1 rfl (fun _ h => (List.mem_cons_of_mem _ (List.mem_append_left _ (List.mem_append_right _ h)))) (by decide) (List.mem_of_getElem? (i := 1) rfl) rfl dX3_giveBack_1 ?_
  refine w_if_gt 8 dX3_giveBack_4 (by decide) (by first | omega | with_reducible rfl) (fun c_4 => ?_) (fun c_4 => ?_)
  · refine w_aload_n dX3_giveBack_8 rfl 0 rfl ?_
    refine w_calli (As := []) (rest := []) (n := 0) (c_X3_latestRow hp (by first | omega | with_reducible rfl) (by first | omega | with_reducible rfl)) gX3_giveBack_X3_latestRow rfl rfl rfl (by decide +kernel) ⟨Nat.le_of_ble_eq_true rfl, Nat.le_of_ble_eq_true rfl⟩ rfl (by first | omega | with_reducible rfl) hp.1 rfl (Nat.le_of_ble_eq_true rfl) ⟨Nat.zero_le _, Nat.zero_le _⟩ dX3_giveBack_9 rfl (fun g_1 hp_2 => ?_)
    subst g_1
    have h8 := lrow_lt hx
    refine w_as (st' := [.int (zI ((lrow nx : Nat) : Int))]) (sc_i (lrow_z nx) rfl) ?_
    refine w_istore_n [(2, .int (zI ((lrow nx : Nat) : Int))), (0, .ref (B + b)), (1, .ref (B + cb))] dX3_giveBack_12 rfl (by decide) rfl ?_
    refine w_iconst dX3_giveBack_13 ?_
    refine w_istore_n [(3, .int (zI 0)), (2, .int (zI ((lrow nx : Nat) : Int))), (0, .ref (B + b)), (1, .ref (B + cb))] dX3_giveBack_14 rfl (by decide) rfl ?_
    refine w_sub [(0, .ref (B + b)), (1, .ref (B + cb)), (2, .int (zI ((lrow nx : Nat) : Int))), (3, .int (zI 0))] [2, 3, 1, 0] rfl ?_
    refine w_lv (lv' := [(0, .ref (B + b)), (1, .ref (B + cb)), (2, .int (zI ((lrow nx : Nat) : Int))), (3, .int (zI ((0 : Nat) : Int)))]) (lc_s (lc_s (lc_s (lc_i (by first | omega | with_reducible rfl) rfl)))) ?_
    refine w_loop4 (fun (k : Nat) (X1 : Int → Int) (V1 : Int → Int) (gl_3 : (Nat → va_E)) => vPast cy B gl_3 b wh Rw nx sz ∧ vCol cy B gl_3 cb sets n (ver + 2 * ((min k n : Nat) : Int)) T X1 V1 Wy ∧ (∀ q, ((q < b ∨ b + 9 ≤ q) ∧ (q < cb ∨ cb + 10 ≤ q)) → gl_3 q = g q) ∧ k ≤ 5 ∧ (∀ y : Int, 0 ≤ y → y < n → y < k → X1 y = Rw (lrow nx) (0 + y)) ∧ (∀ y : Int, 0 ≤ y → y < n → y < k → V1 y = Rw (lrow nx) (5 + y))) (fun (k : Nat) (X1 : Int → Int) (V1 : Int → Int) (gl_3 : (Nat → va_E)) => 5 - k) (fun (k : Nat) (X1 : Int → Int) (V1 : Int → Int) (gl_3 : (Nat → va_E)) => gl_3) (fun (k : Nat) (X1 : Int → Int) (V1 : Int → Int) (gl_3 : (Nat → va_E)) => [(0, .ref (B + b)), (1, .ref (B + cb)), (2, .int (zI ((lrow nx : Nat) : Int))), (3, .int (zI ((k : Nat) : Int)))]) ?_ 0 X V g ⟨hp, (by have h9 := hc; rw [show ver + 2 * ((min 0 n : Nat) : Int) = ver by omega]; exact h9), hfr_0, (by first | omega | with_reducible rfl), (fun y h1 h2 h3 => by omega), (fun y h1 h2 h3 => by omega)⟩
    rintro k X1 V1 gl_3 ⟨hp_4, hc_5, hfr_6, hk, hX1, hV1⟩ ih_15
    refine w_iload_n dX3_giveBack_15 rfl 3 rfl ?_
    refine w_iconst dX3_giveBack_16 ?_
    refine w_icmp_ge 54 dX3_giveBack_17 (by decide) (by first | omega | with_reducible rfl) (by first | omega | with_reducible rfl) (fun c_17 => ?_) (fun c_17 => ?_)
    · refine w_aload_n dX3_giveBack_54 rfl 0 rfl ?_
      refine w_iload_n dX3_giveBack_55 rfl 2 rfl ?_
      refine w_put (i := 2) (T := TX3) (NF := 4) b (by first | omega | with_reducible rfl) hp_4.1 rfl (fun _ h => (List.mem_cons_of_mem _ (List.mem_append_left _ (List.mem_append_right _ h)))) tyX3 tyX3_ok nmX3 (by decide) (List.mem_of_getElem? (i := 3) rfl) rfl rfl rfl (Nat.le_of_ble_eq_true rfl) dX3_giveBack_56 (fun g_7 he_8 hn_9 => ?_)
      have hp_10 : vPast cy B g_7 b wh Rw (lrow nx) sz := ⟨he_8, ((hn_9 _ (by omega)).trans hp_4.2.1), ((hn_9 _ (by omega)).trans hp_4.2.2.1), (fun k hk => (hn_9 _ (by omega)).trans (hp_4.2.2.2 k hk))⟩
      have hc_11 : vCol cy B g_7 cb sets n (ver + 2 * ((min k n : Nat) : Int)) T X1 V1 Wy := vCol_fr hc_5 (fun q h1 h2 => hn_9 q (by omega))
      have hfr_12 : ∀ q, ((q < b ∨ b + 9 ≤ q) ∧ (q < cb ∨ cb + 10 ≤ q)) → g_7 q = g q := fun q hq => (hn_9 q (by omega)).trans (hfr_6 q hq)
      refine w_aload_n dX3_giveBack_59 rfl 0 rfl ?_
      refine w_dup dX3_giveBack_60 rfl ?_
      refine w_get (i := 3) (T := TX3) (NF := 4) b (by first | omega | with_reducible rfl) hp_10.1 rfl (fun _ h => (List.mem_cons_of_mem _ (List.mem_append_left _ (List.mem_append_right _ h)))) (by decide) (List.mem_of_getElem? (i := 1) rfl) rfl dX3_giveBack_61 ?_
      refine w_iconst dX3_giveBack_64 ?_
      refine w_isub dX3_giveBack_65 ?_
      refine w_as (st' := [.int (zI (((sz - 1) : Nat) : Int)), .ref (B + b)]) (sc_i (by omega) rfl) ?_
      refine w_put (i := 3) (T := TX3) (NF := 4) b (by first | omega | with_reducible rfl) hp_10.1 rfl (fun _ h => (List.mem_cons_of_mem _ (List.mem_append_left _ (List.mem_append_right _ h)))) tyX3 tyX3_ok nmX3 (by decide) (List.mem_of_getElem? (i := 1) rfl) rfl rfl rfl (Nat.le_of_ble_eq_true rfl) dX3_giveBack_66 (fun g_13 he_14 hn_15 => ?_)
      have hp_16 : vPast cy B g_13 b wh Rw (lrow nx) (sz - 1) := ⟨he_14, ((hn_15 _ (by omega)).trans hp_10.2.1), ((hn_15 _ (by omega)).trans hp_10.2.2.1), (fun k hk => (hn_15 _ (by omega)).trans (hp_10.2.2.2 k hk))⟩
      have hc_17 : vCol cy B g_13 cb sets n (ver + 2 * ((min k n : Nat) : Int)) T X1 V1 Wy := vCol_fr hc_11 (fun q h1 h2 => hn_15 q (by omega))
      have hfr_18 : ∀ q, ((q < b ∨ b + 9 ≤ q) ∧ (q < cb ∨ cb + 10 ≤ q)) → g_13 q = g q := fun q hq => (hn_15 q (by omega)).trans (hfr_12 q hq)
      exact w_vret dX3_giveBack_69 rfl ⟨X1, V1, hp_16, (by have h9 := hc_17; rw [show ver + 2 * ((n : Nat) : Int) = ver + 2 * ((min k n : Nat) : Int) by omega]; exact h9), (fun y h1 h2 => ⟨by rw [hX1 y h1 h2 (by omega), Int.zero_add], hV1 y h1 h2 (by omega)⟩), hfr_18⟩
    · refine w_aload_n dX3_giveBack_20 rfl 1 rfl ?_
      refine w_iload_n dX3_giveBack_21 rfl 3 rfl ?_
      refine w_aload_n dX3_giveBack_22 rfl 0 rfl ?_
      refine w_get (i := 1) (T := TX3) (NF := 4) b (by first | omega | with_reducible rfl) hp_4.1 rfl (fun _ h => (List.mem_cons_of_mem _ (List.mem_append_left _ (List.mem_append_right _ h)))) (by decide) (List.mem_of_getElem? (i := 2) rfl) rfl dX3_giveBack_23 ?_
      refine w_iload_n dX3_giveBack_26 rfl 2 rfl ?_
      refine w_aald (j := (lrow nx)) (k' := (b + (lrow nx + 3))) (b + 2) (by first | omega | with_reducible rfl) hp_4.2.2.1 rfl rfl (by first | omega | with_reducible rfl) (by first | omega | with_reducible rfl) (by first | omega | with_reducible rfl) dX3_giveBack_27 ?_
      refine w_iload_n dX3_giveBack_28 rfl 3 rfl ?_
      refine w_iald (b + (lrow nx + 3)) (by first | omega | with_reducible rfl) (hp_4.2.2.2 (lrow nx) (by first | omega | with_reducible rfl)) (by first | omega | with_reducible rfl) dX3_giveBack_29 ?_
      refine w_as (st' := [.int (zI (Rw (lrow nx) (0 + ((k : Nat) : Int)))), .int (zI ((k : Nat) : Int)), .ref (B + cb)]) (sc_i (by rw [Int.zero_add]) rfl) ?_
      refine w_callv (As := [.int (zI ((k : Nat) : Int)), .int (zI (Rw (lrow nx) (0 + ((k : Nat) : Int))))]) (rest := []) (n := 2) (c_X0_tellAbove_g hc_5 (by first | omega | with_reducible rfl) (by first | omega | with_reducible rfl) (by first | omega | with_reducible rfl)) gX3_giveBack_X0_tellAbove rfl rfl rfl (by decide +kernel) ⟨Nat.le_of_ble_eq_true rfl, Nat.le_of_ble_eq_true rfl⟩ rfl (by first | omega | with_reducible rfl) hc_5.1 rfl (Nat.le_of_ble_eq_true rfl) ⟨Nat.zero_le _, Nat.zero_le _⟩ dX3_giveBack_30 rfl (fun g_19 hp_20 => ?_)
      obtain ⟨hc_21, hf_22⟩ := hp_20
      have hp_23 : vPast cy B g_19 b wh Rw nx sz := vPast_fr hp_4 (fun q h1 h2 => hf_22 q (by omega))
      have hfr_24 : ∀ q, ((q < b ∨ b + 9 ≤ q) ∧ (q < cb ∨ cb + 10 ≤ q)) → g_19 q = g q := fun q hq => (hf_22 q (by omega)).trans (hfr_6 q hq)
      refine w_aload_n dX3_giveBack_33 rfl 1 rfl ?_
      refine w_iload_n dX3_giveBack_34 rfl 3 rfl ?_
      refine w_aload_n dX3_giveBack_35 rfl 0 rfl ?_
      refine w_get (i := 1) (T := TX3) (NF := 4) b (by first | omega | with_reducible rfl) hp_23.1 rfl (fun _ h => (List.mem_cons_of_mem _ (List.mem_append_left _ (List.mem_append_right _ h)))) (by decide) (List.mem_of_getElem? (i := 2) rfl) rfl dX3_giveBack_36 ?_
      refine w_iload_n dX3_giveBack_39 rfl 2 rfl ?_
      refine w_aald (j := (lrow nx)) (k' := (b + (lrow nx + 3))) (b + 2) (by first | omega | with_reducible rfl) hp_23.2.2.1 rfl rfl (by first | omega | with_reducible rfl) (by first | omega | with_reducible rfl) (by first | omega | with_reducible rfl) dX3_giveBack_40 ?_
      refine w_iconst dX3_giveBack_41 ?_
      refine w_iload_n dX3_giveBack_42 rfl 3 rfl ?_
      refine w_iadd dX3_giveBack_43 ?_
      refine w_iald (b + (lrow nx + 3)) (by first | omega | with_reducible rfl) (hp_23.2.2.2 (lrow nx) (by first | omega | with_reducible rfl)) (by first | omega | with_reducible rfl) dX3_giveBack_44 ?_
      refine w_callv (As := [.int (zI ((k : Nat) : Int)), .int (zI ((Rw (lrow nx)) (5 + ((k : Nat) : Int))))]) (rest := []) (n := 2) (c_X0_tellScore_g hc_21 (by first | omega | with_reducible rfl) (by first | omega | with_reducible rfl) (by first | omega | with_reducible rfl)) gX3_giveBack_X0_tellScore rfl rfl rfl (by decide +kernel) ⟨Nat.le_of_ble_eq_true rfl, Nat.le_of_ble_eq_true rfl⟩ rfl (by first | omega | with_reducible rfl) hc_21.1 rfl (Nat.le_of_ble_eq_true rfl) ⟨Nat.zero_le _, Nat.zero_le _⟩ dX3_giveBack_45 rfl (fun g_25 hp_26 => ?_)
      obtain ⟨hc_27, hf_28⟩ := hp_26
      have hp_29 : vPast cy B g_25 b wh Rw nx sz := vPast_fr hp_23 (fun q h1 h2 => hf_28 q (by omega))
      have hfr_30 : ∀ q, ((q < b ∨ b + 9 ≤ q) ∧ (q < cb ∨ cb + 10 ≤ q)) → g_25 q = g q := fun q hq => (hf_28 q (by omega)).trans (hfr_24 q hq)
      refine w_iinc 3 [(3, .int (zI (((k : Nat) : Int) + 1))), (0, .ref (B + b)), (1, .ref (B + cb)), (2, .int (zI ((lrow nx : Nat) : Int)))] dX3_giveBack_48 rfl (by decide) rfl ?_
      refine w_goto 15 dX3_giveBack_51 (by decide) ?_
      refine w_sub [(0, .ref (B + b)), (1, .ref (B + cb)), (2, .int (zI ((lrow nx : Nat) : Int))), (3, .int (zI (((k : Nat) : Int) + 1)))] [1, 2, 3, 0] rfl ?_
      refine w_lv (lv' := [(0, .ref (B + b)), (1, .ref (B + cb)), (2, .int (zI ((lrow nx : Nat) : Int))), (3, .int (zI (((k + 1) : Nat) : Int)))]) (lc_s (lc_s (lc_s (lc_i (by first | omega | with_reducible rfl) rfl)))) ?_
      exact ih_15 (k + 1) (tA X1 n ((k : Nat) : Int) (Rw (lrow nx) (0 + ((k : Nat) : Int)))) (tA V1 n ((k : Nat) : Int) (Rw (lrow nx) (5 + ((k : Nat) : Int)))) g_25 ⟨hp_29, (by have h9 := hc_27; rw [tV_2] at h9; exact h9), hfr_30, (by first | omega | with_reducible rfl), (tA_st hX1), (tA_st hV1)⟩ (by first | omega | with_reducible rfl)
  · exfalso; omega
