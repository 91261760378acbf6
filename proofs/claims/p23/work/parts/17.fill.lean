/-! ===== java/util/Arrays.fill ===== -/
theorem step_fl {W : Int → Int} {k : Nat} {v : Int} (h : ∀ y : Int, 0 ≤ y → y < k → W y = v) : ∀ y : Int, 0 ≤ y → y < ((k + 1 : Nat) : Int) → uZ W ((k : Nat) : Int) v y = v := step_uz (f := fun _ => v) h rfl
set_option maxHeartbeats 4000000 in
set_option maxRecDepth 100000 in
theorem c_J7_fill_d0a16 {l : Launch} {D : va_G} {cy : Nat → ClassId} {B N : Nat} {g : Nat → va_E} {b n : Nat} {W : Int → Int} {v : Int} (hv : vLA cy B g b n W) (hB : b + 1 ≤ N) (hn : n ≤ 2000) : CTv l yJ7_fill_d0a16 wsJ7_fill_d0a16 (rmo 0 0) D cy B N g [.ref (B + b), .long (zJ v)] (fun g' => ∃ W1 : Int → Int, vLA cy B g' b n W1 ∧ (∀ y : Int, 0 ≤ y → y < n → W1 y = v) ∧ (∀ q, (q < b ∨ b + 1 ≤ q) → g' q = g q)) := by
  refine WW_of (cc := cJ7_fill_d0a16) (maxL := 5) (ret := none) (own := RJ7) (by decide) rfl rfl (Nat.le_of_ble_eq_true rfl) rfl ?_
  intro pp ee ss mm bl me co hmn
  have hfr_0 : ∀ q, (q < b ∨ b + 1 ≤ q) → g q = g q := fun _ _ => rfl
  refine w_iconst dJ7_fill_d0a16_0 ?_
  refine w_istore_n [(3, .int (zI 0)), (0, .ref (B + b)), (1, .long (zJ v))] dJ7_fill_d0a16_1 rfl (by decide) rfl ?_
  refine w_aload_n dJ7_fill_d0a16_2 rfl 1 rfl ?_
  refine w_alen b 2 (by first | omega | with_reducible rfl) hv rfl dJ7_fill_d0a16_3 ?_
  refine w_istore [(4, .int (zI ((n : Nat) : Int))), (3, .int (zI 0)), (0, .ref (B + b)), (1, .long (zJ v))] dJ7_fill_d0a16_4 (by decide) rfl ?_
  refine w_sub [(0, .ref (B + b)), (1, .long (zJ v)), (3, .int (zI 0)), (4, .int (zI ((n : Nat) : Int)))] [2, 3, 1, 0] rfl ?_
  refine w_lv (lv' := [(0, .ref (B + b)), (1, .long (zJ v)), (3, .int (zI ((0 : Nat) : Int))), (4, .int (zI ((n : Nat) : Int)))]) (lc_s (lc_s (lc_i (by first | omega | with_reducible rfl) (lc_s rfl)))) ?_
  refine w_loop3 (fun (k : Nat) (W1 : Int → Int) (gl_1 : (Nat → va_E)) => vLA cy B gl_1 b n W1 ∧ (∀ q, (q < b ∨ b + 1 ≤ q) → gl_1 q = g q) ∧ k ≤ n ∧ (∀ y : Int, 0 ≤ y → y < k → W1 y = v)) (fun (k : Nat) (W1 : Int → Int) (gl_1 : (Nat → va_E)) => n - k) (fun (k : Nat) (W1 : Int → Int) (gl_1 : (Nat → va_E)) => gl_1) (fun (k : Nat) (W1 : Int → Int) (gl_1 : (Nat → va_E)) => [(0, .ref (B + b)), (1, .long (zJ v)), (3, .int (zI ((k : Nat) : Int))), (4, .int (zI ((n : Nat) : Int)))]) ?_ 0 W g ⟨hv, hfr_0, (by first | omega | with_reducible rfl), (fun y h1 h2 => by omega)⟩
  rintro k W1 gl_1 ⟨hv_2, hfr_3, hk, hw⟩ ih_6
  refine w_iload_n dJ7_fill_d0a16_6 rfl 2 rfl ?_
  refine w_iload dJ7_fill_d0a16_7 3 rfl ?_
  refine w_icmp_ge 22 dJ7_fill_d0a16_9 (by decide) (by first | omega | with_reducible rfl) (by first | omega | with_reducible rfl) (fun c_9 => ?_) (fun c_9 => ?_)
  · exact w_vret dJ7_fill_d0a16_22 rfl ⟨W1, hv_2, (fun y h1 h2 => hw y h1 (by omega)), hfr_3⟩
  · refine w_aload_n dJ7_fill_d0a16_12 rfl 0 rfl ?_
    refine w_iload_n dJ7_fill_d0a16_13 rfl 2 rfl ?_
    refine w_lload_n dJ7_fill_d0a16_14 rfl 1 rfl ?_
    refine w_last b (by first | omega | with_reducible rfl) hv_2 (by first | omega | with_reducible rfl) dJ7_fill_d0a16_15 (fun g_4 he_5 hn_6 => ?_)
    have hv_7 : vLA cy B g_4 b n (uZ W1 ((k : Nat) : Int) v) := he_5
    have hfr_8 : ∀ q, (q < b ∨ b + 1 ≤ q) → g_4 q = g q := fun q hq => (hn_6 q (by omega)).trans (hfr_3 q hq)
    refine w_iinc 2 [(3, .int (zI (((k : Nat) : Int) + 1))), (0, .ref (B + b)), (1, .long (zJ v)), (4, .int (zI ((n : Nat) : Int)))] dJ7_fill_d0a16_16 rfl (by decide) rfl ?_
    refine w_goto 6 dJ7_fill_d0a16_19 (by decide) ?_
    refine w_sub [(0, .ref (B + b)), (1, .long (zJ v)), (3, .int (zI (((k : Nat) : Int) + 1))), (4, .int (zI ((n : Nat) : Int)))] [1, 2, 0, 3] rfl ?_
    refine w_lv (lv' := [(0, .ref (B + b)), (1, .long (zJ v)), (3, .int (zI (((k + 1) : Nat) : Int))), (4, .int (zI ((n : Nat) : Int)))]) (lc_s (lc_s (lc_i (by first | omega | with_reducible rfl) (lc_s rfl)))) ?_
    exact ih_6 (k + 1) (uZ W1 ((k : Nat) : Int) v) g_4 ⟨hv_7, hfr_8, (by first | omega | with_reducible rfl), (step_fl hw)⟩ (by first | omega | with_reducible rfl)
set_option maxHeartbeats 4000000 in
set_option maxRecDepth 100000 in
theorem c_J7_fill_53178 {l : Launch} {D : va_G} {cy : Nat → ClassId} {B N : Nat} {g : Nat → va_E} {b n : Nat} {W : Int → Int} {v : Int} (hv : vIA cy B g b n W) (hB : b + 1 ≤ N) (hn : n ≤ 2000) : CTv l yJ7_fill_53178 wsJ7_fill_53178 (rmo 0 0) D cy B N g [.ref (B + b), .int (zI v)] (fun g' => ∃ W1 : Int → Int, vIA cy B g' b n W1 ∧ (∀ y : Int, 0 ≤ y → y < n → W1 y = v) ∧ (∀ q, (q < b ∨ b + 1 ≤ q) → g' q = g q)) := by
  refine WW_of (cc := cJ7_fill_53178) (maxL := 4) (ret := none) (own := RJ7) (by decide) rfl rfl (Nat.le_of_ble_eq_true rfl) rfl ?_
  intro pp ee ss mm bl me co hmn
  have hfr_0 : ∀ q, (q < b ∨ b + 1 ≤ q) → g q = g q := fun _ _ => rfl
  refine w_iconst dJ7_fill_53178_0 ?_
  refine w_istore_n [(2, .int (zI 0)), (0, .ref (B + b)), (1, .int (zI v))] dJ7_fill_53178_1 rfl (by decide) rfl ?_
  refine w_aload_n dJ7_fill_53178_2 rfl 1 rfl ?_
  refine w_alen b 1 (by first | omega | with_reducible rfl) hv rfl dJ7_fill_53178_3 ?_
  refine w_istore_n [(3, .int (zI ((n : Nat) : Int))), (2, .int (zI 0)), (0, .ref (B + b)), (1, .int (zI v))] dJ7_fill_53178_4 rfl (by decide) rfl ?_
  refine w_sub [(0, .ref (B + b)), (1, .int (zI v)), (2, .int (zI 0)), (3, .int (zI ((n : Nat) : Int)))] [2, 3, 1, 0] rfl ?_
  refine w_lv (lv' := [(0, .ref (B + b)), (1, .int (zI v)), (2, .int (zI ((0 : Nat) : Int))), (3, .int (zI ((n : Nat) : Int)))]) (lc_s (lc_s (lc_i (by first | omega | with_reducible rfl) (lc_s rfl)))) ?_
  refine w_loop3 (fun (k : Nat) (W1 : Int → Int) (gl_1 : (Nat → va_E)) => vIA cy B gl_1 b n W1 ∧ (∀ q, (q < b ∨ b + 1 ≤ q) → gl_1 q = g q) ∧ k ≤ n ∧ (∀ y : Int, 0 ≤ y → y < k → W1 y = v)) (fun (k : Nat) (W1 : Int → Int) (gl_1 : (Nat → va_E)) => n - k) (fun (k : Nat) (W1 : Int → Int) (gl_1 : (Nat → va_E)) => gl_1) (fun (k : Nat) (W1 : Int → Int) (gl_1 : (Nat → va_E)) => [(0, .ref (B + b)), (1, .int (zI v)), (2, .int (zI ((k : Nat) : Int))), (3, .int (zI ((n : Nat) : Int)))]) ?_ 0 W g ⟨hv, hfr_0, (by first | omega | with_reducible rfl), (fun y h1 h2 => by omega)⟩
  rintro k W1 gl_1 ⟨hv_2, hfr_3, hk, hw⟩ ih_5
  refine w_iload_n dJ7_fill_53178_5 rfl 2 rfl ?_
  refine w_iload_n dJ7_fill_53178_6 rfl 3 rfl ?_
  refine w_icmp_ge 20 dJ7_fill_53178_7 (by decide) (by first | omega | with_reducible rfl) (by first | omega | with_reducible rfl) (fun c_7 => ?_) (fun c_7 => ?_)
  · exact w_vret dJ7_fill_53178_20 rfl ⟨W1, hv_2, (fun y h1 h2 => hw y h1 (by omega)), hfr_3⟩
  · refine w_aload_n dJ7_fill_53178_10 rfl 0 rfl ?_
    refine w_iload_n dJ7_fill_53178_11 rfl 2 rfl ?_
    refine w_iload_n dJ7_fill_53178_12 rfl 1 rfl ?_
    refine w_iast b (by first | omega | with_reducible rfl) hv_2 (by first | omega | with_reducible rfl) dJ7_fill_53178_13 (fun g_4 he_5 hn_6 => ?_)
    have hv_7 : vIA cy B g_4 b n (uZ W1 ((k : Nat) : Int) v) := he_5
    have hfr_8 : ∀ q, (q < b ∨ b + 1 ≤ q) → g_4 q = g q := fun q hq => (hn_6 q (by omega)).trans (hfr_3 q hq)
    refine w_iinc 2 [(2, .int (zI (((k : Nat) : Int) + 1))), (0, .ref (B + b)), (1, .int (zI v)), (3, .int (zI ((n : Nat) : Int)))] dJ7_fill_53178_14 rfl (by decide) rfl ?_
    refine w_goto 5 dJ7_fill_53178_17 (by decide) ?_
    refine w_sub [(0, .ref (B + b)), (1, .int (zI v)), (2, .int (zI (((k : Nat) : Int) + 1))), (3, .int (zI ((n : Nat) : Int)))] [1, 2, 0, 3] rfl ?_
    refine w_lv (lv' := [(0, .ref (B + b)), (1, .int (zI v)), (2, .int (zI (((k + 1) : Nat) : Int))), (3, .int (zI ((n : Nat) : Int)))]) (lc_s (lc_s (lc_i (by first | omega | with_reducible rfl) (lc_s rfl)))) ?_
    exact ih_5 (k + 1) (uZ W1 ((k : Nat) : Int) v) g_4 ⟨hv_7, hfr_8, (by first | omega | with_reducible rfl), (step_fl hw)⟩ (by first | omega | with_reducible rfl)
