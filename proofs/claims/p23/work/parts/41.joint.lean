/-! ===== Joint ===== -/
def spF (W Ws : Int → Int) (ah le f : Int) (k : Nat) : Int → Int := fun y => W y + (if le ≤ y - ah ∧ y - ah < le + (k : Int) then f * Ws (y - ah) else 0)
theorem spF_0 (W Ws : Int → Int) (ah le f : Int) : spF W Ws ah le f 0 = W := by
  funext y
  unfold spF
  rw [if_neg (by omega), Int.add_zero]
theorem spF_s (W Ws : Int → Int) (ah le f : Int) (k : Nat) : uZ (spF W Ws ah le f k) (ah + (le + (k : Int))) (spF W Ws ah le f k (ah + (le + (k : Int))) + f * Ws (le + (k : Int))) = spF W Ws ah le f (k + 1) := by
  funext y
  by_cases h : y = ah + (le + (k : Int))
  · rw [h, uZ_same]
    unfold spF
    rw [if_neg (by omega), if_pos (by omega), show ah + (le + (k : Int)) - ah = le + (k : Int) by omega]
    omega
  · rw [uZ_ne h]
    unfold spF
    by_cases h2 : le ≤ y - ah ∧ y - ah < le + (k : Int)
    · rw [if_pos h2, if_pos (by omega)]
    · rw [if_neg h2, if_neg (by omega)]
theorem j_clear {W : Int → Int} (h : ∀ y : Int, 0 ≤ y → y < ((1621 : Nat) : Int) → W y = 0) : ∀ y : Int, 0 ≤ y → y < 1621 → uZ W 0 1 y = if y = 0 then 1 else 0 := fun y h1 h2 => by
  unfold uZ
  by_cases hy : y = 0
  · rw [if_pos hy, if_pos hy]
  · rw [if_neg hy, if_neg hy]
    exact h y h1 (by omega)
def cvT (W Ws : Int → Int) (le gr y : Int) : Int → Int := fun a => if le ≤ y - a ∧ y - a ≤ gr then W a * Ws (y - a) else 0
theorem cv_step {W Ws Wk : Int → Int} {le gr y : Int} {k n : Nat} (hn : (n : Int) = gr + 1 - le) (h : Wk y = sm (cvT W Ws le gr y) k) : spF Wk Ws (k : Int) le (W (k : Int)) n y = sm (cvT W Ws le gr y) (k + 1) := by
  show _ = sm (cvT W Ws le gr y) k + cvT W Ws le gr y (k : Int)
  unfold spF
  rw [h]
  unfold cvT
  by_cases h2 : le ≤ y - (k : Int) ∧ y - (k : Int) ≤ gr
  · rw [if_pos h2, if_pos (by omega)]
  · rw [if_neg h2, if_neg (by omega)]
theorem cv_skip {W Ws Wk : Int → Int} {le gr y : Int} {k : Nat} (h0 : W (k : Int) = 0) (h : Wk y = sm (cvT W Ws le gr y) k) : Wk y = sm (cvT W Ws le gr y) (k + 1) := by
  show _ = sm (cvT W Ws le gr y) k + cvT W Ws le gr y (k : Int)
  have h1 : cvT W Ws le gr y (k : Int) = 0 := by
    unfold cvT
    rw [h0, Int.zero_mul]
    split <;> rfl
  rw [h1, h, Int.add_zero]
set_option maxHeartbeats 4000000 in
set_option maxRecDepth 100000 in
theorem c_X1_clear {l : Launch} {D : va_G} {cy : Nat → ClassId} {B N : Nat} {g : Nat → va_E} {jb : Nat} {W Wa : Int → Int} {gr0 : Int} (hj : vJoint cy B g jb W Wa gr0) (hJ : jb + 3 ≤ N) : CTv l yX1_clear wsX1_clear (rmo 1 24) D cy B N g [.ref (B + jb)] (fun g' => ∃ W1 : Int → Int, vJoint cy B g' jb W1 Wa 0 ∧ (∀ y : Int, 0 ≤ y → y < 1621 → W1 y = if y = 0 then 1 else 0) ∧ (∀ q, (q < jb ∨ jb + 3 ≤ q) → g' q = g q)) := by
  refine WW_of (cc := cX1_clear) (maxL := 1) (ret := none) (own := RX1) (by decide) rfl rfl (Nat.le_of_ble_eq_true rfl) rfl ?_
  intro pp ee ss mm bl me co hmn
  have hfr_0 : ∀ q, (q < jb ∨ jb + 3 ≤ q) → g q = g q := fun _ _ => rfl
  refine w_aload_n dX1_clear_0 rfl 0 rfl ?_
  refine w_get (i := 0) (T := TX1) (NF := 3) jb (by first | omega | with_reducible rfl) hj.1 rfl (fun _ h => (List.mem_cons_of_mem _ (List.mem_append_right _ h))) (by decide) (List.mem_of_getElem? (i := 1) rfl) rfl dX1_clear_1 ?_
  refine w_lconst0 dX1_clear_4 ?_
  refine w_callvS (As := [.ref (B + (jb + 1)), .long (zJ 0)]) (rest := []) (n := 2) (c_J7_fill_d0a16 hj.2.1 (by first | omega | with_reducible rfl) (by first | omega | with_reducible rfl)) gX1_clear_J7_fill_d0a16 rfl rfl rfl (by decide +kernel) ⟨Nat.le_of_ble_eq_true rfl, Nat.le_of_ble_eq_true rfl⟩ rfl (Nat.le_of_ble_eq_true rfl) ⟨Nat.zero_le _, Nat.zero_le _⟩ dX1_clear_5 rfl (fun g_1 hp_2 => ?_)
  obtain ⟨W1_3, fi_4, hfl_5, hf_5⟩ := hp_2
  have hq_6 : ∀ q, q ≠ (jb + 1) → g_1 q = g q := fun q h9 => hf_5 q (by omega)
  have hj_7 : vJoint cy B g_1 jb W1_3 Wa gr0 := ⟨((hq_6 _ (by omega)).trans hj.1), fi_4, ((hq_6 _ (by omega)).trans hj.2.2)⟩
  have hfr_8 : ∀ q, (q < jb ∨ jb + 3 ≤ q) → g_1 q = g q := fun q hq => (hq_6 q (by omega)).trans (hfr_0 q hq)
  refine w_aload_n dX1_clear_8 rfl 0 rfl ?_
  refine w_get (i := 0) (T := TX1) (NF := 3) jb (by first | omega | with_reducible rfl) hj_7.1 rfl (fun _ h => (List.mem_cons_of_mem _ (List.mem_append_right _ h))) (by decide) (List.mem_of_getElem? (i := 1) rfl) rfl dX1_clear_9 ?_
  refine w_iconst dX1_clear_12 ?_
  refine w_lconst1 dX1_clear_13 ?_
  refine w_last (jb + 1) (by first | omega | with_reducible rfl) hj_7.2.1 (by first | omega | with_reducible rfl) dX1_clear_14 (fun g_9 he_10 hn_11 => ?_)
  have hj_12 : vJoint cy B g_9 jb (uZ W1_3 0 1) Wa gr0 := ⟨((hn_11 _ (by omega)).trans hj_7.1), he_10, ((hn_11 _ (by omega)).trans hj_7.2.2)⟩
  have hfr_13 : ∀ q, (q < jb ∨ jb + 3 ≤ q) → g_9 q = g q := fun q hq => (hn_11 q (by omega)).trans (hfr_8 q hq)
  refine w_aload_n dX1_clear_15 rfl 0 rfl ?_
  refine w_iconst dX1_clear_16 ?_
  refine w_put (i := 2) (T := TX1) (NF := 3) jb (by first | omega | with_reducible rfl) hj_12.1 rfl (fun _ h => (List.mem_cons_of_mem _ (List.mem_append_right _ h))) tyX1 tyX1_ok nmX1 (by decide) (List.mem_of_getElem? (i := 2) rfl) rfl rfl rfl (Nat.le_of_ble_eq_true rfl) dX1_clear_17 (fun g_14 he_15 hn_16 => ?_)
  have hj_17 : vJoint cy B g_14 jb (uZ W1_3 0 1) Wa 0 := ⟨he_15, ((hn_16 _ (by omega)).trans hj_12.2.1), ((hn_16 _ (by omega)).trans hj_12.2.2)⟩
  have hfr_18 : ∀ q, (q < jb ∨ jb + 3 ≤ q) → g_14 q = g q := fun q hq => (hn_16 q (by omega)).trans (hfr_13 q hq)
  exact w_vret dX1_clear_20 rfl ⟨(uZ W1_3 0 1), hj_17, (j_clear hfl_5), hfr_18⟩
set_option maxHeartbeats 4000000 in
set_option maxRecDepth 100000 in
theorem c_X1_waysBy {l : Launch} {D : va_G} {cy : Nat → ClassId} {B N : Nat} {g : Nat → va_E} {jb : Nat} {W Wa : Int → Int} {gr0 : Int} {law seen : Int} (hj : vJoint cy B g jb W Wa gr0) (hJ : jb + 3 ≤ N) (h_law : -2147483648 ≤ law ∧ law < 2147483648) (h_seen : -2147483648 ≤ seen ∧ seen < 2147483648) : CTl l yX1_waysBy wsX1_waysBy (rmo 1 22) D cy B N g [.ref (B + jb), .int (zI law), .int (zI seen)] (sm (bw W law seen) 1621) (fun g' => g' = g) := by
  refine WW_of (cc := cX1_waysBy) (maxL := 6) (ret := (some .long)) (own := RX1) (by decide) rfl rfl (Nat.le_of_ble_eq_true rfl) rfl ?_
  intro pp ee ss mm bl me co hmn
  refine w_lconst0 dX1_waysBy_0 ?_
  refine w_lstore_n [(3, .long (zJ 0)), (0, .ref (B + jb)), (1, .int (zI law)), (2, .int (zI seen))] dX1_waysBy_1 rfl (by decide) rfl ?_
  refine w_iconst dX1_waysBy_2 ?_
  refine w_istore [(5, .int (zI 0)), (3, .long (zJ 0)), (0, .ref (B + jb)), (1, .int (zI law)), (2, .int (zI seen))] dX1_waysBy_3 (by decide) rfl ?_
  refine w_sub [(0, .ref (B + jb)), (1, .int (zI law)), (2, .int (zI seen)), (3, .long (zJ 0)), (5, .int (zI 0))] [2, 3, 4, 1, 0] rfl ?_
  refine w_lv (lv' := [(0, .ref (B + jb)), (1, .int (zI law)), (2, .int (zI seen)), (3, .long (zJ (sm (bw W law seen) 0))), (5, .int (zI ((0 : Nat) : Int)))]) (lc_s (lc_s (lc_s (lc_l rfl (lc_i (by first | omega | with_reducible rfl) rfl))))) ?_
  refine w_loop1 (fun (k : Nat) => k ≤ 1621) (fun (k : Nat) => 1621 - k) (fun (k : Nat) => g) (fun (k : Nat) => [(0, .ref (B + jb)), (1, .int (zI law)), (2, .int (zI seen)), (3, .long (zJ (sm (bw W law seen) k))), (5, .int (zI ((k : Nat) : Int)))]) ?_ 0 (by first | omega | with_reducible rfl)
  rintro k hk ih_5
  refine w_iload dX1_waysBy_5 4 rfl ?_
  refine w_aload_n dX1_waysBy_7 rfl 0 rfl ?_
  refine w_get (i := 0) (T := TX1) (NF := 3) jb (by first | omega | with_reducible rfl) hj.1 rfl (fun _ h => (List.mem_cons_of_mem _ (List.mem_append_right _ h))) (by decide) (List.mem_of_getElem? (i := 1) rfl) rfl dX1_waysBy_8 ?_
  refine w_alen (jb + 1) 2 (by first | omega | with_reducible rfl) hj.2.1 rfl dX1_waysBy_11 ?_
  refine w_icmp_ge 41 dX1_waysBy_12 (by decide) (by first | omega | with_reducible rfl) (by first | omega | with_reducible rfl) (fun c_12 => ?_) (fun c_12 => ?_)
  · refine w_lload_n dX1_waysBy_41 rfl 3 rfl ?_
    exact w_lret dX1_waysBy_42 rfl (by rw [show k = 1621 by omega]) rfl
  · refine w_iload_n dX1_waysBy_15 rfl 1 rfl ?_
    refine w_iload dX1_waysBy_16 4 rfl ?_
    refine w_iload_n dX1_waysBy_18 rfl 2 rfl ?_
    refine w_calliS (As := [.int (zI law), .int (zI ((k : Nat) : Int)), .int (zI seen)]) (rest := []) (n := 3) (c_X8_isStrange (by first | omega | with_reducible rfl) (by first | omega | with_reducible rfl) (by first | omega | with_reducible rfl)) gX1_waysBy_X8_isStrange rfl rfl rfl (by decide +kernel) ⟨Nat.le_of_ble_eq_true rfl, Nat.le_of_ble_eq_true rfl⟩ rfl (Nat.le_of_ble_eq_true rfl) ⟨Nat.zero_le _, Nat.zero_le _⟩ dX1_waysBy_19 rfl (fun g_1 hp_2 => ?_)
    subst g_1
    refine w_ifeqB 35 dX1_waysBy_22 (by decide) (fun c_22 => ?_) (fun c_22 => ?_)
    · refine w_iinc 4 [(5, .int (zI (((k : Nat) : Int) + 1))), (0, .ref (B + jb)), (1, .int (zI law)), (2, .int (zI seen)), (3, .long (zJ (sm (bw W law seen) k)))] dX1_waysBy_35 rfl (by decide) rfl ?_
      refine w_goto 5 dX1_waysBy_38 (by decide) ?_
      refine w_sub [(0, .ref (B + jb)), (1, .int (zI law)), (2, .int (zI seen)), (3, .long (zJ (sm (bw W law seen) k))), (5, .int (zI (((k : Nat) : Int) + 1)))] [1, 2, 3, 4, 0] rfl ?_
      refine w_lv (lv' := [(0, .ref (B + jb)), (1, .int (zI law)), (2, .int (zI seen)), (3, .long (zJ (sm (bw W law seen) (k + 1)))), (5, .int (zI (((k + 1) : Nat) : Int)))]) (lc_s (lc_s (lc_s (lc_l (by show _ = sm (bw W law seen) k + bw W law seen ((k : Nat) : Int); unfold bw; first | rw [if_pos c_22] | rw [if_neg c_22, Int.add_zero]) (lc_i (by first | omega | with_reducible rfl) rfl))))) ?_
      exact ih_5 (k + 1) (by first | omega | with_reducible rfl) (by first | omega | with_reducible rfl)
    · refine w_lload_n dX1_waysBy_25 rfl 3 rfl ?_
      refine w_aload_n dX1_waysBy_26 rfl 0 rfl ?_
      refine w_get (i := 0) (T := TX1) (NF := 3) jb (by first | omega | with_reducible rfl) hj.1 rfl (fun _ h => (List.mem_cons_of_mem _ (List.mem_append_right _ h))) (by decide) (List.mem_of_getElem? (i := 1) rfl) rfl dX1_waysBy_27 ?_
      refine w_iload dX1_waysBy_30 4 rfl ?_
      refine w_lald (jb + 1) (by first | omega | with_reducible rfl) hj.2.1 (by first | omega | with_reducible rfl) dX1_waysBy_32 ?_
      refine w_ladd dX1_waysBy_33 ?_
      refine w_lstore_n [(3, .long (zJ ((sm (bw W law seen) k) + (W ((k : Nat) : Int))))), (0, .ref (B + jb)), (1, .int (zI law)), (2, .int (zI seen)), (5, .int (zI ((k : Nat) : Int)))] dX1_waysBy_34 rfl (by decide) rfl ?_
      refine w_iinc 4 [(5, .int (zI (((k : Nat) : Int) + 1))), (3, .long (zJ ((sm (bw W law seen) k) + (W ((k : Nat) : Int))))), (0, .ref (B + jb)), (1, .int (zI law)), (2, .int (zI seen))] dX1_waysBy_35 rfl (by decide) rfl ?_
      refine w_goto 5 dX1_waysBy_38 (by decide) ?_
      refine w_sub [(0, .ref (B + jb)), (1, .int (zI law)), (2, .int (zI seen)), (3, .long (zJ ((sm (bw W law seen) k) + (W ((k : Nat) : Int))))), (5, .int (zI (((k : Nat) : Int) + 1)))] [2, 3, 4, 1, 0] rfl ?_
      refine w_lv (lv' := [(0, .ref (B + jb)), (1, .int (zI law)), (2, .int (zI seen)), (3, .long (zJ (sm (bw W law seen) (k + 1)))), (5, .int (zI (((k + 1) : Nat) : Int)))]) (lc_s (lc_s (lc_s (lc_l (by show _ = sm (bw W law seen) k + bw W law seen ((k : Nat) : Int); unfold bw; first | rw [if_pos c_22] | rw [if_neg c_22, Int.add_zero]) (lc_i (by first | omega | with_reducible rfl) rfl))))) ?_
      exact ih_5 (k + 1) (by first | omega | with_reducible rfl) (by first | omega | with_reducible rfl)
set_option maxHeartbeats 4000000 in
set_option maxRecDepth 100000 in
theorem c_X1_spread {l : Launch} {D : va_G} {cy : Nat → ClassId} {B N : Nat} {g : Nat → va_E} {jb : Nat} {W Wa : Int → Int} {gr0 : Int} {sb nb cb : Nat} {Ws Tb : Int → Int} {le gr sver : Int} {ah f : Int} {n : Nat} (hj : vJoint cy B g jb W Wa gr0) (hs : vSum cy B g sb cb nb Ws Tb le gr sver) (hJ : jb + 3 ≤ N) (hS : sb + 3 ≤ N) (hd : jb + 3 ≤ sb ∨ sb + 3 ≤ jb) (hle : 0 ≤ le ∧ le ≤ gr + 1 ∧ gr ≤ 540) (hah : 0 ≤ ah ∧ ah ≤ 1080) (hn : (n : Int) = gr + 1 - le) : CTv l yX1_spread wsX1_spread (rmo 1 21) D cy B N g [.ref (B + jb), .int (zI ah), .long (zJ f), .ref (B + sb)] (fun g' => vJoint cy B g' jb (spF W Ws ah le f n) Wa gr0 ∧ (∀ q, (q < jb ∨ jb + 3 ≤ q) → g' q = g q)) := by
  refine WW_of (cc := cX1_spread) (maxL := 7) (ret := none) (own := RX1) (by decide) rfl rfl (Nat.le_of_ble_eq_true rfl) rfl ?_
  intro pp ee ss mm bl me co hmn
  have hfr_0 : ∀ q, (q < jb ∨ jb + 3 ≤ q) → g q = g q := fun _ _ => rfl
  refine w_aload dX1_spread_0 3 rfl ?_
  refine w_calli (As := []) (rest := []) (n := 0) (c_X8_greatest hs (by first | omega | with_reducible rfl)) gX1_spread_X8_greatest rfl rfl rfl (by decide +kernel) ⟨Nat.le_of_ble_eq_true rfl, Nat.le_of_ble_eq_true rfl⟩ rfl (by first | omega | with_reducible rfl) hs.1 rfl (Nat.le_of_ble_eq_true rfl) ⟨Nat.zero_le _, Nat.zero_le _⟩ dX1_spread_2 rfl (fun g_1 hp_2 => ?_)
  subst g_1
  refine w_istore [(5, .int (zI gr)), (0, .ref (B + jb)), (1, .int (zI ah)), (2, .long (zJ f)), (4, .ref (B + sb))] dX1_spread_5 (by decide) rfl ?_
  refine w_aload dX1_spread_7 4 rfl ?_
  refine w_calli (As := []) (rest := []) (n := 0) (c_X8_least hs (by first | omega | with_reducible rfl)) gX1_spread_X8_least rfl rfl rfl (by decide +kernel) ⟨Nat.le_of_ble_eq_true rfl, Nat.le_of_ble_eq_true rfl⟩ rfl (by first | omega | with_reducible rfl) hs.1 rfl (Nat.le_of_ble_eq_true rfl) ⟨Nat.zero_le _, Nat.zero_le _⟩ dX1_spread_9 rfl (fun g_3 hp_4 => ?_)
  subst g_3
  refine w_istore [(6, .int (zI le)), (5, .int (zI gr)), (0, .ref (B + jb)), (1, .int (zI ah)), (2, .long (zJ f)), (4, .ref (B + sb))] dX1_spread_12 (by decide) rfl ?_
  refine w_sub [(0, .ref (B + jb)), (1, .int (zI ah)), (2, .long (zJ f)), (4, .ref (B + sb)), (5, .int (zI gr)), (6, .int (zI le))] [2, 3, 4, 5, 1, 0] rfl ?_
  refine w_lv (lv' := [(0, .ref (B + jb)), (1, .int (zI ah)), (2, .long (zJ f)), (4, .ref (B + sb)), (5, .int (zI gr)), (6, .int (zI (le + ((0 : Nat) : Int))))]) (lc_s (lc_s (lc_s (lc_s (lc_s (lc_i (by first | omega | with_reducible rfl) rfl)))))) ?_
  refine w_loop2 (fun (k : Nat) (gl_5 : (Nat → va_E)) => vJoint cy B gl_5 jb (spF W Ws ah le f k) Wa gr0 ∧ vSum cy B gl_5 sb cb nb Ws Tb le gr sver ∧ (∀ q, (q < jb ∨ jb + 3 ≤ q) → gl_5 q = g q) ∧ k ≤ n) (fun (k : Nat) (gl_5 : (Nat → va_E)) => n - k) (fun (k : Nat) (gl_5 : (Nat → va_E)) => gl_5) (fun (k : Nat) (gl_5 : (Nat → va_E)) => [(0, .ref (B + jb)), (1, .int (zI ah)), (2, .long (zJ f)), (4, .ref (B + sb)), (5, .int (zI gr)), (6, .int (zI (le + ((k : Nat) : Int))))]) ?_ 0 g ⟨(by have h9 := hj; rw [spF_0]; exact h9), hs, hfr_0, (by first | omega | with_reducible rfl)⟩
  rintro k gl_5 ⟨hj_6, hs_7, hfr_8, hk⟩ ih_14
  refine w_iload dX1_spread_14 5 rfl ?_
  refine w_iload dX1_spread_16 4 rfl ?_
  refine w_icmp_gt 67 dX1_spread_18 (by decide) (by first | omega | with_reducible rfl) (by first | omega | with_reducible rfl) (fun c_18 => ?_) (fun c_18 => ?_)
  · exact w_vret dX1_spread_67 rfl ⟨(by have h9 := hj_6; rw [show k = n by omega] at h9; exact h9), hfr_8⟩
  · refine w_iload_n dX1_spread_21 rfl 1 rfl ?_
    refine w_iload dX1_spread_22 5 rfl ?_
    refine w_iadd dX1_spread_24 ?_
    refine w_if_lt 61 dX1_spread_25 (by decide) (by first | omega | with_reducible rfl) (fun c_25 => ?_) (fun c_25 => ?_)
    · exfalso; omega
    · refine w_iload_n dX1_spread_28 rfl 1 rfl ?_
      refine w_iload dX1_spread_29 5 rfl ?_
      refine w_iadd dX1_spread_31 ?_
      refine w_aload_n dX1_spread_32 rfl 0 rfl ?_
      refine w_get (i := 0) (T := TX1) (NF := 3) jb (by first | omega | with_reducible rfl) hj_6.1 rfl (fun _ h => (List.mem_cons_of_mem _ (List.mem_append_left _ (List.mem_append_right _ h)))) (by decide) (List.mem_of_getElem? (i := 1) rfl) rfl dX1_spread_33 ?_
      refine w_alen (jb + 1) 2 (by first | omega | with_reducible rfl) hj_6.2.1 rfl dX1_spread_36 ?_
      refine w_icmp_ge 61 dX1_spread_37 (by decide) (by first | omega | with_reducible rfl) (by first | omega | with_reducible rfl) (fun c_37 => ?_) (fun c_37 => ?_)
      · exfalso; omega
      · refine w_aload_n dX1_spread_40 rfl 0 rfl ?_
        refine w_get (i := 0) (T := TX1) (NF := 3) jb (by first | omega | with_reducible rfl) hj_6.1 rfl (fun _ h => (List.mem_cons_of_mem _ (List.mem_append_left _ (List.mem_append_right _ h)))) (by decide) (List.mem_of_getElem? (i := 1) rfl) rfl dX1_spread_41 ?_
        refine w_iload_n dX1_spread_44 rfl 1 rfl ?_
        refine w_iload dX1_spread_45 5 rfl ?_
        refine w_iadd dX1_spread_47 ?_
        refine w_dup2 dX1_spread_48 rfl rfl ?_
        refine w_lald (jb + 1) (by first | omega | with_reducible rfl) hj_6.2.1 (by first | omega | with_reducible rfl) dX1_spread_49 ?_
        refine w_lload_n dX1_spread_50 rfl 2 rfl ?_
        refine w_aload dX1_spread_51 3 rfl ?_
        refine w_iload dX1_spread_53 5 rfl ?_
        refine w_calll (As := [.int (zI (le + ((k : Nat) : Int)))]) (rest := [.long (zJ f), .long (zJ ((spF W Ws ah le f k) (ah + (le + ((k : Nat) : Int))))), .int (zI (ah + (le + ((k : Nat) : Int)))), .ref (B + (jb + 1))]) (n := 1) (c_X8_waysOf hs_7 (by first | omega | with_reducible rfl) (by first | omega | with_reducible rfl)) gX1_spread_X8_waysOf rfl rfl rfl (by decide +kernel) ⟨Nat.le_of_ble_eq_true rfl, Nat.le_of_ble_eq_true rfl⟩ rfl (by first | omega | with_reducible rfl) hs_7.1 rfl (Nat.le_of_ble_eq_true rfl) ⟨Nat.zero_le _, Nat.zero_le _⟩ dX1_spread_55 rfl (fun g_9 hp_10 => ?_)
        subst g_9
        refine w_as (st' := [.long (zJ (Ws (le + ((k : Nat) : Int)))), .long (zJ f), .long (zJ ((spF W Ws ah le f k) (ah + (le + ((k : Nat) : Int))))), .int (zI (ah + (le + ((k : Nat) : Int)))), .ref (B + (jb + 1))]) (sc_l (by unfold inS; rw [if_pos (by omega)]) rfl) ?_
        refine w_lmul dX1_spread_58 ?_
        refine w_ladd dX1_spread_59 ?_
        refine w_last (jb + 1) (by first | omega | with_reducible rfl) hj_6.2.1 (by first | omega | with_reducible rfl) dX1_spread_60 (fun g_11 he_12 hn_13 => ?_)
        have hj_14 : vJoint cy B g_11 jb (uZ (spF W Ws ah le f k) (ah + (le + ((k : Nat) : Int))) (((spF W Ws ah le f k) (ah + (le + ((k : Nat) : Int)))) + (f * (Ws (le + ((k : Nat) : Int)))))) Wa gr0 := ⟨((hn_13 _ (by omega)).trans hj_6.1), he_12, ((hn_13 _ (by omega)).trans hj_6.2.2)⟩
        have hs_15 : vSum cy B g_11 sb cb nb Ws Tb le gr sver := vSum_fr hs_7 (fun q h1 h2 => hn_13 q (by omega))
        have hfr_16 : ∀ q, (q < jb ∨ jb + 3 ≤ q) → g_11 q = g q := fun q hq => (hn_13 q (by omega)).trans (hfr_8 q hq)
        refine w_iinc 5 [(6, .int (zI ((le + ((k : Nat) : Int)) + 1))), (0, .ref (B + jb)), (1, .int (zI ah)), (2, .long (zJ f)), (4, .ref (B + sb)), (5, .int (zI gr))] dX1_spread_61 rfl (by decide) rfl ?_
        refine w_goto 14 dX1_spread_64 (by decide) ?_
        refine w_sub [(0, .ref (B + jb)), (1, .int (zI ah)), (2, .long (zJ f)), (4, .ref (B + sb)), (5, .int (zI gr)), (6, .int (zI ((le + ((k : Nat) : Int)) + 1)))] [1, 2, 3, 4, 5, 0] rfl ?_
        refine w_lv (lv' := [(0, .ref (B + jb)), (1, .int (zI ah)), (2, .long (zJ f)), (4, .ref (B + sb)), (5, .int (zI gr)), (6, .int (zI (le + (((k + 1) : Nat) : Int))))]) (lc_s (lc_s (lc_s (lc_s (lc_s (lc_i (by first | omega | with_reducible rfl) rfl)))))) ?_
        exact ih_14 (k + 1) g_11 ⟨(by have h9 := hj_14; rw [spF_s] at h9; exact h9), hs_15, hfr_16, (by first | omega | with_reducible rfl)⟩ (by first | omega | with_reducible rfl)
set_option maxHeartbeats 4000000 in
set_option maxRecDepth 100000 in
theorem c_X1_add {l : Launch} {D : va_G} {cy : Nat → ClassId} {B N : Nat} {g : Nat → va_E} {jb : Nat} {W Wa : Int → Int} {gr0 : Int} {sb nb cb : Nat} {Ws Tb : Int → Int} {le gr sver : Int} (hj : vJoint cy B g jb W Wa gr0) (hs : vSum cy B g sb cb nb Ws Tb le gr sver) (hJ : jb + 3 ≤ N) (hS : sb + 3 ≤ N) (hd : jb + 3 ≤ sb ∨ sb + 3 ≤ jb) (hle : 0 ≤ le ∧ le ≤ gr + 1 ∧ gr ≤ 540) (hg0 : 0 ≤ gr0 ∧ gr0 ≤ 1080) (hWr : ∀ a : Int, 0 ≤ a → a ≤ gr0 → 0 ≤ W a ∧ W a < 9223372036854775808) : CTv l yX1_add wsX1_add (rmo 2 60) D cy B N g [.ref (B + jb), .ref (B + sb)] (fun g' => ∃ W2 : Int → Int, ∃ Wa2 : Int → Int, vJoint cy B g' jb W2 Wa2 (gr0 + gr) ∧ (∀ y : Int, 0 ≤ y → y < 1621 → W2 y = sm (cvT W Ws le gr y) (gr0.toNat + 1)) ∧ (∀ q, (q < jb ∨ jb + 3 ≤ q) → g' q = g q)) := by
  refine WW_of (cc := cX1_add) (maxL := 3) (ret := none) (own := RX1) (by decide) rfl rfl (Nat.le_of_ble_eq_true rfl) rfl ?_
  intro pp ee ss mm bl me co hmn
  have hfr_0 : ∀ q, (q < jb ∨ jb + 3 ≤ q) → g q = g q := fun _ _ => rfl
  refine w_aload_n dX1_add_0 rfl 0 rfl ?_
  refine w_get (i := 2) (T := TX1) (NF := 3) jb (by first | omega | with_reducible rfl) hj.1 rfl (fun _ h => (List.mem_cons_of_mem _ (List.mem_append_left _ (List.mem_append_right _ h)))) (by decide) (List.mem_of_getElem? (i := 1) rfl) rfl dX1_add_1 ?_
  refine w_if_lt 23 dX1_add_4 (by decide) (by first | omega | with_reducible rfl) (fun c_4 => ?_) (fun c_4 => ?_)
  · exfalso; omega
  · refine w_aload_n dX1_add_7 rfl 0 rfl ?_
    refine w_get (i := 2) (T := TX1) (NF := 3) jb (by first | omega | with_reducible rfl) hj.1 rfl (fun _ h => (List.mem_cons_of_mem _ (List.mem_append_left _ (List.mem_append_right _ h)))) (by decide) (List.mem_of_getElem? (i := 1) rfl) rfl dX1_add_8 ?_
    refine w_sipush dX1_add_11 (by decide) ?_
    refine w_iadd dX1_add_14 ?_
    refine w_aload_n dX1_add_15 rfl 0 rfl ?_
    refine w_get (i := 0) (T := TX1) (NF := 3) jb (by first | omega | with_reducible rfl) hj.1 rfl (fun _ h => (List.mem_cons_of_mem _ (List.mem_append_left _ (List.mem_append_right _ h)))) (by decide) (List.mem_of_getElem? (i := 2) rfl) rfl dX1_add_16 ?_
    refine w_alen (jb + 1) 2 (by first | omega | with_reducible rfl) hj.2.1 rfl dX1_add_19 ?_
    refine w_icmp_lt 24 dX1_add_20 (by decide) (by first | omega | with_reducible rfl) (by first | omega | with_reducible rfl) (fun c_20 => ?_) (fun c_20 => ?_)
    · refine w_aload_n dX1_add_24 rfl 0 rfl ?_
      refine w_get (i := 0) (T := TX1) (NF := 3) jb (by first | omega | with_reducible rfl) hj.1 rfl (fun _ h => (List.mem_cons_of_mem _ (List.mem_append_left _ (List.mem_append_right _ h)))) (by decide) (List.mem_of_getElem? (i := 2) rfl) rfl dX1_add_25 ?_
      refine w_iconst dX1_add_28 ?_
      refine w_aload_n dX1_add_29 rfl 0 rfl ?_
      refine w_get (i := 1) (T := TX1) (NF := 3) jb (by first | omega | with_reducible rfl) hj.1 rfl (fun _ h => (List.mem_cons_of_mem _ (List.mem_append_left _ (List.mem_append_right _ h)))) (by decide) (List.mem_of_getElem? (i := 3) rfl) rfl dX1_add_30 ?_
      refine w_iconst dX1_add_33 ?_
      refine w_aload_n dX1_add_34 rfl 0 rfl ?_
      refine w_get (i := 2) (T := TX1) (NF := 3) jb (by first | omega | with_reducible rfl) hj.1 rfl (fun _ h => (List.mem_cons_of_mem _ (List.mem_append_left _ (List.mem_append_right _ h)))) (by decide) (List.mem_of_getElem? (i := 1) rfl) rfl dX1_add_35 ?_
      refine w_iconst dX1_add_38 ?_
      refine w_iadd dX1_add_39 ?_
      refine w_copyJ (jb + 1) (jb + 2) (by first | omega | with_reducible rfl) (by first | omega | with_reducible rfl) hj.2.1 hj.2.2 (by first | omega | with_reducible rfl) (List.mem_of_getElem? (i := 4) rfl) (List.mem_of_getElem? (i := 5) rfl) (List.mem_of_getElem? (i := 6) rfl) (List.mem_of_getElem? (i := 7) rfl) (Nat.le_of_ble_eq_true rfl) (Nat.le_of_ble_eq_true rfl) dX1_add_40 (fun g_1 he_2 hn_3 => ?_)
      have hj_4 : vJoint cy B g_1 jb W (cpZ W Wa (gr0 + 1)) gr0 := ⟨((hn_3 _ (by omega)).trans hj.1), ((hn_3 _ (by omega)).trans hj.2.1), he_2⟩
      have hs_5 : vSum cy B g_1 sb cb nb Ws Tb le gr sver := vSum_fr hs (fun q h1 h2 => hn_3 q (by omega))
      have hfr_6 : ∀ q, (q < jb ∨ jb + 3 ≤ q) → g_1 q = g q := fun q hq => (hn_3 q (by omega)).trans (hfr_0 q hq)
      refine w_aload_n dX1_add_43 rfl 0 rfl ?_
      refine w_get (i := 0) (T := TX1) (NF := 3) jb (by first | omega | with_reducible rfl) hj_4.1 rfl (fun _ h => (List.mem_cons_of_mem _ (List.mem_append_left _ (List.mem_append_right _ h)))) (by decide) (List.mem_of_getElem? (i := 2) rfl) rfl dX1_add_44 ?_
      refine w_lconst0 dX1_add_47 ?_
      refine w_callvS (As := [.ref (B + (jb + 1)), .long (zJ 0)]) (rest := []) (n := 2) (c_J7_fill_d0a16 hj_4.2.1 (by first | omega | with_reducible rfl) (by first | omega | with_reducible rfl)) gX1_add_J7_fill_d0a16 rfl rfl rfl (by decide +kernel) ⟨Nat.le_of_ble_eq_true rfl, Nat.le_of_ble_eq_true rfl⟩ rfl (Nat.le_of_ble_eq_true rfl) ⟨Nat.zero_le _, Nat.zero_le _⟩ dX1_add_48 rfl (fun g_7 hp_8 => ?_)
      obtain ⟨W1_9, fi_10, hfl_48, hf_11⟩ := hp_8
      have hq_12 : ∀ q, q ≠ (jb + 1) → g_7 q = g_1 q := fun q h9 => hf_11 q (by omega)
      have hj_13 : vJoint cy B g_7 jb W1_9 (cpZ W Wa (gr0 + 1)) gr0 := ⟨((hq_12 _ (by omega)).trans hj_4.1), fi_10, ((hq_12 _ (by omega)).trans hj_4.2.2)⟩
      have hs_14 : vSum cy B g_7 sb cb nb Ws Tb le gr sver := vSum_fr hs_5 (fun q h1 h2 => hq_12 q (by omega))
      have hfr_15 : ∀ q, (q < jb ∨ jb + 3 ≤ q) → g_7 q = g q := fun q hq => (hq_12 q (by omega)).trans (hfr_6 q hq)
      refine w_iconst dX1_add_51 ?_
      refine w_istore_n [(2, .int (zI 0)), (0, .ref (B + jb)), (1, .ref (B + sb))] dX1_add_52 rfl (by decide) rfl ?_
      refine w_sub [(0, .ref (B + jb)), (1, .ref (B + sb)), (2, .int (zI 0))] [1, 2, 0] rfl ?_
      refine w_lv (lv' := [(0, .ref (B + jb)), (1, .ref (B + sb)), (2, .int (zI ((0 : Nat) : Int)))]) (lc_s (lc_s (lc_i (by first | omega | with_reducible rfl) rfl))) ?_
      refine w_loop3 (fun (k : Nat) (Wk : Int → Int) (gl_16 : (Nat → va_E)) => vJoint cy B gl_16 jb Wk (cpZ W Wa (gr0 + 1)) gr0 ∧ vSum cy B gl_16 sb cb nb Ws Tb le gr sver ∧ (∀ q, (q < jb ∨ jb + 3 ≤ q) → gl_16 q = g q) ∧ (k : Int) ≤ gr0 + 1 ∧ (∀ y : Int, 0 ≤ y → y < 1621 → Wk y = sm (cvT W Ws le gr y) k)) (fun (k : Nat) (Wk : Int → Int) (gl_16 : (Nat → va_E)) => (gr0 + 1).toNat - k) (fun (k : Nat) (Wk : Int → Int) (gl_16 : (Nat → va_E)) => gl_16) (fun (k : Nat) (Wk : Int → Int) (gl_16 : (Nat → va_E)) => [(0, .ref (B + jb)), (1, .ref (B + sb)), (2, .int (zI ((k : Nat) : Int)))]) ?_ 0 W1_9 g_7 ⟨hj_13, hs_14, hfr_15, (by first | omega | with_reducible rfl), (fun y h1 h2 => by rw [hfl_48 y h1 (by omega)]; rfl)⟩
      rintro k Wk gl_16 ⟨hj_17, hs_18, hfr_19, hk, hw⟩ ih_53
      refine w_iload_n dX1_add_53 rfl 2 rfl ?_
      refine w_aload_n dX1_add_54 rfl 0 rfl ?_
      refine w_get (i := 2) (T := TX1) (NF := 3) jb (by first | omega | with_reducible rfl) hj_17.1 rfl (fun _ h => (List.mem_cons_of_mem _ (List.mem_append_left _ (List.mem_append_right _ h)))) (by decide) (List.mem_of_getElem? (i := 1) rfl) rfl dX1_add_55 ?_
      refine w_icmp_gt 90 dX1_add_58 (by decide) (by first | omega | with_reducible rfl) (by first | omega | with_reducible rfl) (fun c_58 => ?_) (fun c_58 => ?_)
      · refine w_aload_n dX1_add_90 rfl 0 rfl ?_
        refine w_dup dX1_add_91 rfl ?_
        refine w_get (i := 2) (T := TX1) (NF := 3) jb (by first | omega | with_reducible rfl) hj_17.1 rfl (fun _ h => (List.mem_cons_of_mem _ (List.mem_append_left _ (List.mem_append_right _ h)))) (by decide) (List.mem_of_getElem? (i := 1) rfl) rfl dX1_add_92 ?_
        refine w_aload_n dX1_add_95 rfl 1 rfl ?_
        refine w_calli (As := []) (rest := [.int (zI gr0), .ref (B + jb)]) (n := 0) (c_X8_greatest hs_18 (by first | omega | with_reducible rfl)) gX1_add_X8_greatest rfl rfl rfl (by decide +kernel) ⟨Nat.le_of_ble_eq_true rfl, Nat.le_of_ble_eq_true rfl⟩ rfl (by first | omega | with_reducible rfl) hs_18.1 rfl (Nat.le_of_ble_eq_true rfl) ⟨Nat.zero_le _, Nat.zero_le _⟩ dX1_add_96 rfl (fun g_20 hp_21 => ?_)
        subst g_20
        refine w_iadd dX1_add_99 ?_
        refine w_put (i := 2) (T := TX1) (NF := 3) jb (by first | omega | with_reducible rfl) hj_17.1 rfl (fun _ h => (List.mem_cons_of_mem _ (List.mem_append_left _ (List.mem_append_right _ h)))) tyX1 tyX1_ok nmX1 (by decide) (List.mem_of_getElem? (i := 1) rfl) rfl rfl rfl (Nat.le_of_ble_eq_true rfl) dX1_add_100 (fun g_22 he_23 hn_24 => ?_)
        have hj_25 : vJoint cy B g_22 jb Wk (cpZ W Wa (gr0 + 1)) (gr0 + gr) := ⟨he_23, ((hn_24 _ (by omega)).trans hj_17.2.1), ((hn_24 _ (by omega)).trans hj_17.2.2)⟩
        have hs_26 : vSum cy B g_22 sb cb nb Ws Tb le gr sver := vSum_fr hs_18 (fun q h1 h2 => hn_24 q (by omega))
        have hfr_27 : ∀ q, (q < jb ∨ jb + 3 ≤ q) → g_22 q = g q := fun q hq => (hn_24 q (by omega)).trans (hfr_19 q hq)
        exact w_vret dX1_add_103 rfl ⟨Wk, (cpZ W Wa (gr0 + 1)), hj_25, (by rw [show gr0.toNat + 1 = k by omega]; exact hw), hfr_27⟩
      · refine w_aload_n dX1_add_61 rfl 0 rfl ?_
        refine w_get (i := 1) (T := TX1) (NF := 3) jb (by first | omega | with_reducible rfl) hj_17.1 rfl (fun _ h => (List.mem_cons_of_mem _ (List.mem_append_left _ (List.mem_append_right _ h)))) (by decide) (List.mem_of_getElem? (i := 3) rfl) rfl dX1_add_62 ?_
        refine w_iload_n dX1_add_65 rfl 2 rfl ?_
        refine w_lald (jb + 2) (by first | omega | with_reducible rfl) hj_17.2.2 (by first | omega | with_reducible rfl) dX1_add_66 ?_
        have hWk := hWr ((k : Nat) : Int) (by omega) (by omega)
        refine w_as (st' := [.long (zJ (W ((k : Nat) : Int)))]) (sc_l (by unfold cpZ; rw [if_pos (by omega)]) rfl) ?_
        refine w_lconst0 dX1_add_67 ?_
        refine w_lcmp_eq 84 dX1_add_68 dX1_add_69 (by decide) (by first | omega | with_reducible rfl) (by first | omega | with_reducible rfl) (fun c_68 => ?_) (fun c_68 => ?_)
        · refine w_iinc 2 [(2, .int (zI (((k : Nat) : Int) + 1))), (0, .ref (B + jb)), (1, .ref (B + sb))] dX1_add_84 rfl (by decide) rfl ?_
          refine w_goto 53 dX1_add_87 (by decide) ?_
          refine w_sub [(0, .ref (B + jb)), (1, .ref (B + sb)), (2, .int (zI (((k : Nat) : Int) + 1)))] [1, 2, 0] rfl ?_
          refine w_lv (lv' := [(0, .ref (B + jb)), (1, .ref (B + sb)), (2, .int (zI (((k + 1) : Nat) : Int)))]) (lc_s (lc_s (lc_i (by first | omega | with_reducible rfl) rfl))) ?_
          exact ih_53 (k + 1) Wk gl_16 ⟨hj_17, hs_18, hfr_19, (by first | omega | with_reducible rfl), (fun y h1 h2 => cv_skip c_68 (hw y h1 h2))⟩ (by first | omega | with_reducible rfl)
        · refine w_aload_n dX1_add_72 rfl 0 rfl ?_
          refine w_iload_n dX1_add_73 rfl 2 rfl ?_
          refine w_aload_n dX1_add_74 rfl 0 rfl ?_
          refine w_get (i := 1) (T := TX1) (NF := 3) jb (by first | omega | with_reducible rfl) hj_17.1 rfl (fun _ h => (List.mem_cons_of_mem _ (List.mem_append_left _ (List.mem_append_right _ h)))) (by decide) (List.mem_of_getElem? (i := 3) rfl) rfl dX1_add_75 ?_
          refine w_iload_n dX1_add_78 rfl 2 rfl ?_
          refine w_lald (jb + 2) (by first | omega | with_reducible rfl) hj_17.2.2 (by first | omega | with_reducible rfl) dX1_add_79 ?_
          refine w_as (st' := [.long (zJ (W ((k : Nat) : Int))), .int (zI ((k : Nat) : Int)), .ref (B + jb)]) (sc_l (by unfold cpZ; rw [if_pos (by omega)]) rfl) ?_
          refine w_aload_n dX1_add_80 rfl 1 rfl ?_
          refine w_callv (As := [.int (zI ((k : Nat) : Int)), .long (zJ (W ((k : Nat) : Int))), .ref (B + sb)]) (rest := []) (n := 3) (c_X1_spread (n := (gr + 1 - le).toNat) hj_17 hs_18 (by first | omega | with_reducible rfl) (by first | omega | with_reducible rfl) (by first | omega | with_reducible rfl) (by first | omega | with_reducible rfl) (by first | omega | with_reducible rfl) (by first | omega | with_reducible rfl)) gX1_add_X1_spread rfl rfl rfl (by decide +kernel) ⟨Nat.le_of_ble_eq_true rfl, Nat.le_of_ble_eq_true rfl⟩ rfl (by first | omega | with_reducible rfl) hj_17.1 rfl (Nat.le_of_ble_eq_true rfl) ⟨Nat.zero_le _, Nat.zero_le _⟩ dX1_add_81 rfl (fun g_28 hp_29 => ?_)
          obtain ⟨hj_30, hf_31⟩ := hp_29
          have hs_32 : vSum cy B g_28 sb cb nb Ws Tb le gr sver := vSum_fr hs_18 (fun q h1 h2 => hf_31 q (by omega))
          have hfr_33 : ∀ q, (q < jb ∨ jb + 3 ≤ q) → g_28 q = g q := fun q hq => (hf_31 q (by omega)).trans (hfr_19 q hq)
          refine w_iinc 2 [(2, .int (zI (((k : Nat) : Int) + 1))), (0, .ref (B + jb)), (1, .ref (B + sb))] dX1_add_84 rfl (by decide) rfl ?_
          refine w_goto 53 dX1_add_87 (by decide) ?_
          refine w_sub [(0, .ref (B + jb)), (1, .ref (B + sb)), (2, .int (zI (((k : Nat) : Int) + 1)))] [1, 2, 0] rfl ?_
          refine w_lv (lv' := [(0, .ref (B + jb)), (1, .ref (B + sb)), (2, .int (zI (((k + 1) : Nat) : Int)))]) (lc_s (lc_s (lc_i (by first | omega | with_reducible rfl) rfl))) ?_
          exact ih_53 (k + 1) (spF Wk Ws ((k : Nat) : Int) le (W ((k : Nat) : Int)) ((gr + 1 - le).toNat)) g_28 ⟨hj_30, hs_32, hfr_33, (by first | omega | with_reducible rfl), (fun y h1 h2 => cv_step (by omega) (hw y h1 h2))⟩ (by first | omega | with_reducible rfl)
    · exfalso; omega
