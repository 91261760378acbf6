/-! ===== Columns.add, Columns.copyOf ===== -/
theorem step_uz {W : Int → Int} {f : Int → Int} {k : Nat} {v : Int} (h : ∀ y : Int, 0 ≤ y → y < k → W y = f y) (hv : v = f (k : Int)) : ∀ y : Int, 0 ≤ y → y < ((k + 1 : Nat) : Int) → uZ W ((k : Nat) : Int) v y = f y := by
  intro y h1 h2
  by_cases hy : y = k
  · subst hy
    rw [uZ_same, hv]
  · rw [uZ_ne hy]
    exact h y h1 (by omega)
theorem copy_st {Cn : Nat → Int → Int} {oT oX oV T1 X1 V1 : Int → Int} {W1 : Nat → Int → Int} {R1 : Int → Int} {k : Nat} (h : ∀ j : Int, 0 ≤ j → j < k → T1 j = oT j ∧ X1 j = oX j ∧ V1 j = oV j ∧ ∀ y : Int, 0 ≤ y → y ≤ 12 → W1 j.toNat y = setA Cn (oT j) y) (hr : ∀ y : Int, 0 ≤ y → y ≤ 12 → R1 y = setA Cn (oT ((k : Nat) : Int)) y) : ∀ j : Int, 0 ≤ j → j < ((k + 1 : Nat) : Int) → uZ T1 ((k : Nat) : Int) (oT ((k : Nat) : Int)) j = oT j ∧ uZ X1 ((k : Nat) : Int) (oX ((k : Nat) : Int)) j = oX j ∧ uZ V1 ((k : Nat) : Int) (oV ((k : Nat) : Int)) j = oV j ∧ ∀ y : Int, 0 ≤ y → y ≤ 12 → uF W1 k R1 j.toNat y = setA Cn (oT j) y := by
  intro j h1 h2
  by_cases hj : j = k
  · subst hj
    refine ⟨uZ_same _ _ _, uZ_same _ _ _, uZ_same _ _ _, fun y h3 h4 => ?_⟩
    rw [Int.toNat_natCast, uF_same]
    exact hr y h3 h4
  · obtain ⟨e1, e2, e3, e4⟩ := h j h1 (by omega)
    refine ⟨by rw [uZ_ne hj, e1], by rw [uZ_ne hj, e2], by rw [uZ_ne hj, e3], fun y h3 h4 => ?_⟩
    rw [uF_ne (by omega)]
    exact e4 y h3 h4
set_option maxHeartbeats 4000000 in
set_option maxRecDepth 100000 in
theorem c_X0_add_full {l : Launch} {D : va_G} {cy : Nat → ClassId} {B N : Nat} {g : Nat → va_E} {b sets n : Nat} {ver : Int} {T X V : Int → Int} {Wy : Nat → Int → Int} {Cn : Nat → Int → Int} {t x v : Int} (hc : vCol cy B g b sets n ver T X V Wy) (hs : vSets cy B g sets Cn) (hN : b + 10 ≤ N) (hSn : sets + 15 ≤ N) (hd : sets + 15 ≤ b ∨ b + 10 ≤ sets) (hn : n = 5) : CTi l yX0_add wsX0_add (rmo 0 0) D cy B N g [.ref (B + b), .int (zI t), .int (zI x), .int (zI v)] 0 (fun g' => g' = g) := by
  refine WW_of (cc := cX0_add) (maxL := 5) (ret := (some .boolean)) (own := RX0) (by decide) rfl rfl (Nat.le_of_ble_eq_true rfl) rfl ?_
  intro pp ee ss mm bl me co hmn
  refine w_aload_n dX0_add_0 rfl 0 rfl ?_
  refine w_get (i := 5) (T := TX0) (NF := 7) b (by first | omega | with_reducible rfl) hc.1 rfl (fun _ h => (List.mem_cons_of_mem _ (List.mem_append_left _ (List.mem_append_right _ h)))) (by decide) (List.mem_of_getElem? (i := 1) rfl) rfl dX0_add_1 ?_
  refine w_if_lt 15 dX0_add_4 (by decide) (by first | omega | with_reducible rfl) (fun c_4 => ?_) (fun c_4 => ?_)
  · exfalso; omega
  · refine w_aload_n dX0_add_7 rfl 0 rfl ?_
    refine w_get (i := 5) (T := TX0) (NF := 7) b (by first | omega | with_reducible rfl) hc.1 rfl (fun _ h => (List.mem_cons_of_mem _ (List.mem_append_left _ (List.mem_append_right _ h)))) (by decide) (List.mem_of_getElem? (i := 1) rfl) rfl dX0_add_8 ?_
    refine w_iconst dX0_add_11 ?_
    refine w_icmp_lt 17 dX0_add_12 (by decide) (by first | omega | with_reducible rfl) (by first | omega | with_reducible rfl) (fun c_12 => ?_) (fun c_12 => ?_)
    · exfalso; omega
    · refine w_iconst dX0_add_15 ?_
      exact w_zret dX0_add_16 rfl rfl (by first | with_reducible rfl | omega | (split <;> omega)) rfl
set_option maxHeartbeats 4000000 in
set_option maxRecDepth 100000 in
theorem c_X0_add_ok {l : Launch} {D : va_G} {cy : Nat → ClassId} {B N : Nat} {g : Nat → va_E} {b sets n : Nat} {ver : Int} {T X V : Int → Int} {Wy : Nat → Int → Int} {Cn : Nat → Int → Int} {t x v : Int} (hc : vCol cy B g b sets n ver T X V Wy) (hs : vSets cy B g sets Cn) (hN : b + 10 ≤ N) (hSn : sets + 15 ≤ N) (hd : sets + 15 ≤ b ∨ b + 10 ≤ sets) (hn : n < 5) (h_t : -2147483648 ≤ t ∧ t < 2147483648) (h_x : -2147483648 ≤ x ∧ x < 2147483648) (h_v : -2147483648 ≤ v ∧ v < 2147483648) : CTi l yX0_add wsX0_add (rmo 1 22) D cy B N g [.ref (B + b), .int (zI t), .int (zI x), .int (zI v)] 1 (fun g' => ∃ W1 : Int → Int, vCol cy B g' b sets (n + 1) (ver + 1) (uZ T ((n : Nat) : Int) t) (uZ X ((n : Nat) : Int) x) (uZ V ((n : Nat) : Int) v) (uF Wy n W1) ∧ (∀ y : Int, 0 ≤ y → y ≤ 12 → W1 y = setA Cn t y) ∧ (∀ q, (q < b ∨ b + 10 ≤ q) → g' q = g q)) := by
  refine WW_of (cc := cX0_add) (maxL := 5) (ret := (some .boolean)) (own := RX0) (by decide) rfl rfl (Nat.le_of_ble_eq_true rfl) rfl ?_
  intro pp ee ss mm bl me co hmn
  have hfr_0 : ∀ q, (q < b ∨ b + 10 ≤ q) → g q = g q := fun _ _ => rfl
  refine w_aload_n dX0_add_0 rfl 0 rfl ?_
  refine w_get (i := 5) (T := TX0) (NF := 7) b (by first | omega | with_reducible rfl) hc.1 rfl (fun _ h => (List.mem_cons_of_mem _ (List.mem_append_left _ (List.mem_append_right _ h)))) (by decide) (List.mem_of_getElem? (i := 1) rfl) rfl dX0_add_1 ?_
  refine w_if_lt 15 dX0_add_4 (by decide) (by first | omega | with_reducible rfl) (fun c_4 => ?_) (fun c_4 => ?_)
  · exfalso; omega
  · refine w_aload_n dX0_add_7 rfl 0 rfl ?_
    refine w_get (i := 5) (T := TX0) (NF := 7) b (by first | omega | with_reducible rfl) hc.1 rfl (fun _ h => (List.mem_cons_of_mem _ (List.mem_append_left _ (List.mem_append_right _ h)))) (by decide) (List.mem_of_getElem? (i := 1) rfl) rfl dX0_add_8 ?_
    refine w_iconst dX0_add_11 ?_
    refine w_icmp_lt 17 dX0_add_12 (by decide) (by first | omega | with_reducible rfl) (by first | omega | with_reducible rfl) (fun c_12 => ?_) (fun c_12 => ?_)
    · refine w_aload_n dX0_add_17 rfl 0 rfl ?_
      refine w_get (i := 1) (T := TX0) (NF := 7) b (by first | omega | with_reducible rfl) hc.1 rfl (fun _ h => (List.mem_cons_of_mem _ (List.mem_append_left _ (List.mem_append_right _ h)))) (by decide) (List.mem_of_getElem? (i := 2) rfl) rfl dX0_add_18 ?_
      refine w_aload_n dX0_add_21 rfl 0 rfl ?_
      refine w_get (i := 5) (T := TX0) (NF := 7) b (by first | omega | with_reducible rfl) hc.1 rfl (fun _ h => (List.mem_cons_of_mem _ (List.mem_append_left _ (List.mem_append_right _ h)))) (by decide) (List.mem_of_getElem? (i := 1) rfl) rfl dX0_add_22 ?_
      refine w_iload_n dX0_add_25 rfl 1 rfl ?_
      refine w_iast (b + 1) (by first | omega | with_reducible rfl) hc.2.1 (by first | omega | with_reducible rfl) dX0_add_26 (fun g_1 he_2 hn_3 => ?_)
      have hc_4 : vCol cy B g_1 b sets n ver (uZ T ((n : Nat) : Int) t) X V Wy := ⟨((hn_3 _ (by omega)).trans hc.1), he_2, ((hn_3 _ (by omega)).trans hc.2.2.1), ((hn_3 _ (by omega)).trans hc.2.2.2.1), ((hn_3 _ (by omega)).trans hc.2.2.2.2.1), (fun k hk => (hn_3 _ (by omega)).trans (hc.2.2.2.2.2 k hk))⟩
      have hs_5 : vSets cy B g_1 sets Cn := vSets_fr hs (fun q h1 h2 => hn_3 q (by omega))
      have hfr_6 : ∀ q, (q < b ∨ b + 10 ≤ q) → g_1 q = g q := fun q hq => (hn_3 q (by omega)).trans (hfr_0 q hq)
      refine w_aload_n dX0_add_27 rfl 0 rfl ?_
      refine w_get (i := 2) (T := TX0) (NF := 7) b (by first | omega | with_reducible rfl) hc_4.1 rfl (fun _ h => (List.mem_cons_of_mem _ (List.mem_append_left _ (List.mem_append_right _ h)))) (by decide) (List.mem_of_getElem? (i := 3) rfl) rfl dX0_add_28 ?_
      refine w_aload_n dX0_add_31 rfl 0 rfl ?_
      refine w_get (i := 5) (T := TX0) (NF := 7) b (by first | omega | with_reducible rfl) hc_4.1 rfl (fun _ h => (List.mem_cons_of_mem _ (List.mem_append_left _ (List.mem_append_right _ h)))) (by decide) (List.mem_of_getElem? (i := 1) rfl) rfl dX0_add_32 ?_
      refine w_iload_n dX0_add_35 rfl 2 rfl ?_
      refine w_iast (b + 2) (by first | omega | with_reducible rfl) hc_4.2.2.1 (by first | omega | with_reducible rfl) dX0_add_36 (fun g_7 he_8 hn_9 => ?_)
      have hc_10 : vCol cy B g_7 b sets n ver (uZ T ((n : Nat) : Int) t) (uZ X ((n : Nat) : Int) x) V Wy := ⟨((hn_9 _ (by omega)).trans hc_4.1), ((hn_9 _ (by omega)).trans hc_4.2.1), he_8, ((hn_9 _ (by omega)).trans hc_4.2.2.2.1), ((hn_9 _ (by omega)).trans hc_4.2.2.2.2.1), (fun k hk => (hn_9 _ (by omega)).trans (hc_4.2.2.2.2.2 k hk))⟩
      have hs_11 : vSets cy B g_7 sets Cn := vSets_fr hs_5 (fun q h1 h2 => hn_9 q (by omega))
      have hfr_12 : ∀ q, (q < b ∨ b + 10 ≤ q) → g_7 q = g q := fun q hq => (hn_9 q (by omega)).trans (hfr_6 q hq)
      refine w_aload_n dX0_add_37 rfl 0 rfl ?_
      refine w_get (i := 3) (T := TX0) (NF := 7) b (by first | omega | with_reducible rfl) hc_10.1 rfl (fun _ h => (List.mem_cons_of_mem _ (List.mem_append_left _ (List.mem_append_right _ h)))) (by decide) (List.mem_of_getElem? (i := 4) rfl) rfl dX0_add_38 ?_
      refine w_aload_n dX0_add_41 rfl 0 rfl ?_
      refine w_get (i := 5) (T := TX0) (NF := 7) b (by first | omega | with_reducible rfl) hc_10.1 rfl (fun _ h => (List.mem_cons_of_mem _ (List.mem_append_left _ (List.mem_append_right _ h)))) (by decide) (List.mem_of_getElem? (i := 1) rfl) rfl dX0_add_42 ?_
      refine w_iload_n dX0_add_45 rfl 3 rfl ?_
      refine w_iast (b + 3) (by first | omega | with_reducible rfl) hc_10.2.2.2.1 (by first | omega | with_reducible rfl) dX0_add_46 (fun g_13 he_14 hn_15 => ?_)
      have hc_16 : vCol cy B g_13 b sets n ver (uZ T ((n : Nat) : Int) t) (uZ X ((n : Nat) : Int) x) (uZ V ((n : Nat) : Int) v) Wy := ⟨((hn_15 _ (by omega)).trans hc_10.1), ((hn_15 _ (by omega)).trans hc_10.2.1), ((hn_15 _ (by omega)).trans hc_10.2.2.1), he_14, ((hn_15 _ (by omega)).trans hc_10.2.2.2.2.1), (fun k hk => (hn_15 _ (by omega)).trans (hc_10.2.2.2.2.2 k hk))⟩
      have hs_17 : vSets cy B g_13 sets Cn := vSets_fr hs_11 (fun q h1 h2 => hn_15 q (by omega))
      have hfr_18 : ∀ q, (q < b ∨ b + 10 ≤ q) → g_13 q = g q := fun q hq => (hn_15 q (by omega)).trans (hfr_12 q hq)
      refine w_iconst dX0_add_47 ?_
      refine w_istore [(4, .int (zI 0)), (0, .ref (B + b)), (1, .int (zI t)), (2, .int (zI x)), (3, .int (zI v))] dX0_add_48 (by decide) rfl ?_
      refine w_sub [(0, .ref (B + b)), (1, .int (zI t)), (2, .int (zI x)), (3, .int (zI v)), (4, .int (zI 0))] [1, 2, 3, 4, 0] rfl ?_
      refine w_lv (lv' := [(0, .ref (B + b)), (1, .int (zI t)), (2, .int (zI x)), (3, .int (zI v)), (4, .int (zI ((0 : Nat) : Int)))]) (lc_s (lc_s (lc_s (lc_s (lc_i (by first | omega | with_reducible rfl) rfl))))) ?_
      refine w_loop3 (fun (k : Nat) (W1 : Int → Int) (gl_19 : (Nat → va_E)) => vCol cy B gl_19 b sets n ver (uZ T ((n : Nat) : Int) t) (uZ X ((n : Nat) : Int) x) (uZ V ((n : Nat) : Int) v) (uF Wy n W1) ∧ vSets cy B gl_19 sets Cn ∧ (∀ q, (q < b ∨ b + 10 ≤ q) → gl_19 q = g q) ∧ k ≤ 13 ∧ (∀ y : Int, 0 ≤ y → y < k → W1 y = setA Cn t y)) (fun (k : Nat) (W1 : Int → Int) (gl_19 : (Nat → va_E)) => 13 - k) (fun (k : Nat) (W1 : Int → Int) (gl_19 : (Nat → va_E)) => gl_19) (fun (k : Nat) (W1 : Int → Int) (gl_19 : (Nat → va_E)) => [(0, .ref (B + b)), (1, .int (zI t)), (2, .int (zI x)), (3, .int (zI v)), (4, .int (zI ((k : Nat) : Int)))]) ?_ 0 (Wy n) g_13 ⟨(by have h9 := hc_16; rw [uF_id]; exact h9), hs_17, hfr_18, (by first | omega | with_reducible rfl), (fun y h1 h2 => by omega)⟩
      rintro k W1 gl_19 ⟨hc_20, hs_21, hfr_22, hk, hw⟩ ih_50
      refine w_iload dX0_add_50 4 rfl ?_
      refine w_bipush dX0_add_52 (by decide) ?_
      refine w_icmp_gt 85 dX0_add_54 (by decide) (by first | omega | with_reducible rfl) (by first | omega | with_reducible rfl) (fun c_54 => ?_) (fun c_54 => ?_)
      · refine w_aload_n dX0_add_85 rfl 0 rfl ?_
        refine w_dup dX0_add_86 rfl ?_
        refine w_get (i := 5) (T := TX0) (NF := 7) b (by first | omega | with_reducible rfl) hc_20.1 rfl (fun _ h => (List.mem_cons_of_mem _ (List.mem_append_left _ (List.mem_append_right _ h)))) (by decide) (List.mem_of_getElem? (i := 1) rfl) rfl dX0_add_87 ?_
        refine w_iconst dX0_add_90 ?_
        refine w_iadd dX0_add_91 ?_
        refine w_as (st' := [.int (zI (((n + 1) : Nat) : Int)), .ref (B + b)]) (sc_i (by first | omega | with_reducible rfl) rfl) ?_
        refine w_put (i := 5) (T := TX0) (NF := 7) b (by first | omega | with_reducible rfl) hc_20.1 rfl (fun _ h => (List.mem_cons_of_mem _ (List.mem_append_left _ (List.mem_append_right _ h)))) tyX0 tyX0_ok nmX0 (by decide) (List.mem_of_getElem? (i := 1) rfl) rfl rfl rfl (Nat.le_of_ble_eq_true rfl) dX0_add_92 (fun g_23 he_24 hn_25 => ?_)
        have hc_26 : vCol cy B g_23 b sets (n + 1) ver (uZ T ((n : Nat) : Int) t) (uZ X ((n : Nat) : Int) x) (uZ V ((n : Nat) : Int) v) (uF Wy n W1) := ⟨he_24, ((hn_25 _ (by omega)).trans hc_20.2.1), ((hn_25 _ (by omega)).trans hc_20.2.2.1), ((hn_25 _ (by omega)).trans hc_20.2.2.2.1), ((hn_25 _ (by omega)).trans hc_20.2.2.2.2.1), (fun k hk => (hn_25 _ (by omega)).trans (hc_20.2.2.2.2.2 k hk))⟩
        have hs_27 : vSets cy B g_23 sets Cn := vSets_fr hs_21 (fun q h1 h2 => hn_25 q (by omega))
        have hfr_28 : ∀ q, (q < b ∨ b + 10 ≤ q) → g_23 q = g q := fun q hq => (hn_25 q (by omega)).trans (hfr_22 q hq)
        refine w_aload_n dX0_add_95 rfl 0 rfl ?_
        refine w_dup dX0_add_96 rfl ?_
        refine w_get (i := 6) (T := TX0) (NF := 7) b (by first | omega | with_reducible rfl) hc_26.1 rfl (fun _ h => (List.mem_cons_of_mem _ (List.mem_append_left _ (List.mem_append_right _ h)))) (by decide) (List.mem_of_getElem? (i := 7) rfl) rfl dX0_add_97 ?_
        refine w_iconst dX0_add_100 ?_
        refine w_iadd dX0_add_101 ?_
        refine w_put (i := 6) (T := TX0) (NF := 7) b (by first | omega | with_reducible rfl) hc_26.1 rfl (fun _ h => (List.mem_cons_of_mem _ (List.mem_append_left _ (List.mem_append_right _ h)))) tyX0 tyX0_ok nmX0 (by decide) (List.mem_of_getElem? (i := 7) rfl) rfl rfl rfl (Nat.le_of_ble_eq_true rfl) dX0_add_102 (fun g_29 he_30 hn_31 => ?_)
        have hc_32 : vCol cy B g_29 b sets (n + 1) (ver + 1) (uZ T ((n : Nat) : Int) t) (uZ X ((n : Nat) : Int) x) (uZ V ((n : Nat) : Int) v) (uF Wy n W1) := ⟨he_30, ((hn_31 _ (by omega)).trans hc_26.2.1), ((hn_31 _ (by omega)).trans hc_26.2.2.1), ((hn_31 _ (by omega)).trans hc_26.2.2.2.1), ((hn_31 _ (by omega)).trans hc_26.2.2.2.2.1), (fun k hk => (hn_31 _ (by omega)).trans (hc_26.2.2.2.2.2 k hk))⟩
        have hs_33 : vSets cy B g_29 sets Cn := vSets_fr hs_27 (fun q h1 h2 => hn_31 q (by omega))
        have hfr_34 : ∀ q, (q < b ∨ b + 10 ≤ q) → g_29 q = g q := fun q hq => (hn_31 q (by omega)).trans (hfr_28 q hq)
        refine w_iconst dX0_add_105 ?_
        exact w_zret dX0_add_106 rfl rfl (by first | with_reducible rfl | omega | (split <;> omega)) ⟨W1, hc_32, (fun y h1 h2 => hw y h1 (by omega)), hfr_34⟩
      · refine w_aload_n dX0_add_57 rfl 0 rfl ?_
        refine w_get (i := 4) (T := TX0) (NF := 7) b (by first | omega | with_reducible rfl) hc_20.1 rfl (fun _ h => (List.mem_cons_of_mem _ (List.mem_append_left _ (List.mem_append_right _ h)))) (by decide) (List.mem_of_getElem? (i := 5) rfl) rfl dX0_add_58 ?_
        refine w_aload_n dX0_add_61 rfl 0 rfl ?_
        refine w_get (i := 5) (T := TX0) (NF := 7) b (by first | omega | with_reducible rfl) hc_20.1 rfl (fun _ h => (List.mem_cons_of_mem _ (List.mem_append_left _ (List.mem_append_right _ h)))) (by decide) (List.mem_of_getElem? (i := 1) rfl) rfl dX0_add_62 ?_
        refine w_aald (j := n) (k' := (b + (n + 5))) (b + 4) (by first | omega | with_reducible rfl) hc_20.2.2.2.2.1 rfl rfl (by first | omega | with_reducible rfl) (by first | omega | with_reducible rfl) (by first | omega | with_reducible rfl) dX0_add_65 ?_
        refine w_iload dX0_add_66 4 rfl ?_
        refine w_aload_n dX0_add_68 rfl 0 rfl ?_
        refine w_get (i := 0) (T := TX0) (NF := 7) b (by first | omega | with_reducible rfl) hc_20.1 rfl (fun _ h => (List.mem_cons_of_mem _ (List.mem_append_left _ (List.mem_append_right _ h)))) (by decide) (List.mem_of_getElem? (i := 6) rfl) rfl dX0_add_69 ?_
        refine w_iload_n dX0_add_72 rfl 1 rfl ?_
        refine w_iload dX0_add_73 4 rfl ?_
        refine w_calll (As := [.int (zI t), .int (zI ((k : Nat) : Int))]) (rest := [.int (zI ((k : Nat) : Int)), .ref (B + (b + (n + 5)))]) (n := 2) (c_X6_of hs_21 (by first | omega | with_reducible rfl) (by first | omega | with_reducible rfl) (by first | omega | with_reducible rfl)) gX0_add_X6_of rfl rfl rfl (by decide +kernel) ⟨Nat.le_of_ble_eq_true rfl, Nat.le_of_ble_eq_true rfl⟩ rfl (by first | omega | with_reducible rfl) hs_21.1 rfl (Nat.le_of_ble_eq_true rfl) ⟨Nat.zero_le _, Nat.zero_le _⟩ dX0_add_75 rfl (fun g_35 hp_36 => ?_)
        subst g_35
        refine w_last (b + (n + 5)) (by first | omega | with_reducible rfl) (hc_20.2.2.2.2.2 n (by first | omega | with_reducible rfl)) (by first | omega | with_reducible rfl) dX0_add_78 (fun g_37 he_38 hn_39 => ?_)
        have hc_40 : vCol cy B g_37 b sets n ver (uZ T ((n : Nat) : Int) t) (uZ X ((n : Nat) : Int) x) (uZ V ((n : Nat) : Int) v) (uF (uF Wy n W1) n (uZ ((uF Wy n W1) n) ((k : Nat) : Int) (setA Cn t ((k : Nat) : Int)))) := ⟨((hn_39 _ (by omega)).trans hc_20.1), ((hn_39 _ (by omega)).trans hc_20.2.1), ((hn_39 _ (by omega)).trans hc_20.2.2.1), ((hn_39 _ (by omega)).trans hc_20.2.2.2.1), ((hn_39 _ (by omega)).trans hc_20.2.2.2.2.1), (fam_put (F := fun z9 => cJ (cy 2) 13 z9) (P := (uF Wy n W1)) (b := b) (o := 5) hc_20.2.2.2.2.2 he_38 hn_39)⟩
        have hs_41 : vSets cy B g_37 sets Cn := vSets_fr hs_21 (fun q h1 h2 => hn_39 q (by omega))
        have hfr_42 : ∀ q, (q < b ∨ b + 10 ≤ q) → g_37 q = g q := fun q hq => (hn_39 q (by omega)).trans (hfr_22 q hq)
        refine w_iinc 4 [(4, .int (zI (((k : Nat) : Int) + 1))), (0, .ref (B + b)), (1, .int (zI t)), (2, .int (zI x)), (3, .int (zI v))] dX0_add_79 rfl (by decide) rfl ?_
        refine w_goto 50 dX0_add_82 (by decide) ?_
        refine w_sub [(0, .ref (B + b)), (1, .int (zI t)), (2, .int (zI x)), (3, .int (zI v)), (4, .int (zI (((k : Nat) : Int) + 1)))] [1, 2, 3, 4, 0] rfl ?_
        refine w_lv (lv' := [(0, .ref (B + b)), (1, .int (zI t)), (2, .int (zI x)), (3, .int (zI v)), (4, .int (zI (((k + 1) : Nat) : Int)))]) (lc_s (lc_s (lc_s (lc_s (lc_i (by first | omega | with_reducible rfl) rfl))))) ?_
        exact ih_50 (k + 1) (uZ W1 ((k : Nat) : Int) (setA Cn t ((k : Nat) : Int))) g_37 ⟨(by have h9 := hc_40; simp only [uF_uF, uF_same] at h9; exact h9), hs_41, hfr_42, (by first | omega | with_reducible rfl), (step_uz hw rfl)⟩ (by first | omega | with_reducible rfl)
    · exfalso; omega
set_option maxHeartbeats 4000000 in
set_option maxRecDepth 100000 in
theorem c_X0_copyOf {l : Launch} {D : va_G} {cy : Nat → ClassId} {B N : Nat} {g : Nat → va_E} {b sets n : Nat} {ver : Int} {T X V : Int → Int} {Wy : Nat → Int → Int} {ob on : Nat} {over : Int} {oT oX oV : Int → Int} {oW : Nat → Int → Int} {Cn : Nat → Int → Int} (hc : vCol cy B g b sets n ver T X V Wy) (ho : vCol cy B g ob sets on over oT oX oV oW) (hs : vSets cy B g sets Cn) (hN : b + 10 ≤ N) (hoN : ob + 10 ≤ N) (hSn : sets + 15 ≤ N) (hd : sets + 15 ≤ b ∨ b + 10 ≤ sets) (hd2 : sets + 15 ≤ ob ∨ ob + 10 ≤ sets) (hd3 : b + 10 ≤ ob ∨ ob + 10 ≤ b) (hon : on ≤ 5) (hoT : ∀ j : Int, 0 ≤ j → j < on → (1 ≤ oT j ∧ oT j ≤ 12) ∧ (0 ≤ oX j ∧ oX j ≤ 12) ∧ (0 ≤ oV j ∧ oV j ≤ 9)) : CTv l yX0_copyOf wsX0_copyOf (rmo 2 46) D cy B N g [.ref (B + b), .ref (B + ob)] (fun g' => ∃ T1 : Int → Int, ∃ X1 : Int → Int, ∃ V1 : Int → Int, ∃ W1 : Nat → Int → Int, vCol cy B g' b sets on (ver + 1 + ((on : Nat) : Int)) T1 X1 V1 W1 ∧ (∀ j : Int, 0 ≤ j → j < on → T1 j = oT j ∧ X1 j = oX j ∧ V1 j = oV j ∧ ∀ y : Int, 0 ≤ y → y ≤ 12 → W1 j.toNat y = setA Cn (oT j) y) ∧ (∀ q, (q < b ∨ b + 10 ≤ q) → g' q = g q)) := by
  refine WW_of (cc := cX0_copyOf) (maxL := 3) (ret := none) (own := RX0) (by decide) rfl rfl (Nat.le_of_ble_eq_true rfl) rfl ?_
  intro pp ee ss mm bl me co hmn
  have hfr_0 : ∀ q, (q < b ∨ b + 10 ≤ q) → g q = g q := fun _ _ => rfl
  refine w_aload_n dX0_copyOf_0 rfl 1 rfl ?_
  refine w_ifnonnull 5 dX0_copyOf_1 (by decide) ?_
  refine w_aload_n dX0_copyOf_5 rfl 0 rfl ?_
  refine w_callv (As := []) (rest := []) (n := 0) (c_X0_clear hc (by first | omega | with_reducible rfl)) gX0_copyOf_X0_clear rfl rfl rfl (by decide +kernel) ⟨Nat.le_of_ble_eq_true rfl, Nat.le_of_ble_eq_true rfl⟩ rfl (by first | omega | with_reducible rfl) hc.1 rfl (Nat.le_of_ble_eq_true rfl) ⟨Nat.zero_le _, Nat.zero_le _⟩ dX0_copyOf_6 rfl (fun g_1 hp_2 => ?_)
  obtain ⟨hc_3, hf_4⟩ := hp_2
  have ho_5 : vCol cy B g_1 ob sets on over oT oX oV oW := vCol_fr ho (fun q h1 h2 => hf_4 q (by omega))
  have hs_6 : vSets cy B g_1 sets Cn := vSets_fr hs (fun q h1 h2 => hf_4 q (by omega))
  have hfr_7 : ∀ q, (q < b ∨ b + 10 ≤ q) → g_1 q = g q := fun q hq => (hf_4 q (by omega)).trans (hfr_0 q hq)
  refine w_iconst dX0_copyOf_9 ?_
  refine w_istore_n [(2, .int (zI 0)), (0, .ref (B + b)), (1, .ref (B + ob))] dX0_copyOf_10 rfl (by decide) rfl ?_
  refine w_sub [(0, .ref (B + b)), (1, .ref (B + ob)), (2, .int (zI 0))] [1, 2, 0] rfl ?_
  refine w_lv (lv' := [(0, .ref (B + b)), (1, .ref (B + ob)), (2, .int (zI ((0 : Nat) : Int)))]) (lc_s (lc_s (lc_i (by first | omega | with_reducible rfl) rfl))) ?_
  refine w_loop6 (fun (k : Nat) (T1 : Int → Int) (X1 : Int → Int) (V1 : Int → Int) (W1 : Nat → Int → Int) (gl_8 : (Nat → va_E)) => vCol cy B gl_8 b sets k (ver + 1 + ((k : Nat) : Int)) T1 X1 V1 W1 ∧ vCol cy B gl_8 ob sets on over oT oX oV oW ∧ vSets cy B gl_8 sets Cn ∧ (∀ q, (q < b ∨ b + 10 ≤ q) → gl_8 q = g q) ∧ k ≤ on ∧ (∀ j : Int, 0 ≤ j → j < k → T1 j = oT j ∧ X1 j = oX j ∧ V1 j = oV j ∧ ∀ y : Int, 0 ≤ y → y ≤ 12 → W1 j.toNat y = setA Cn (oT j) y)) (fun (k : Nat) (T1 : Int → Int) (X1 : Int → Int) (V1 : Int → Int) (W1 : Nat → Int → Int) (gl_8 : (Nat → va_E)) => on - k) (fun (k : Nat) (T1 : Int → Int) (X1 : Int → Int) (V1 : Int → Int) (W1 : Nat → Int → Int) (gl_8 : (Nat → va_E)) => gl_8) (fun (k : Nat) (T1 : Int → Int) (X1 : Int → Int) (V1 : Int → Int) (W1 : Nat → Int → Int) (gl_8 : (Nat → va_E)) => [(0, .ref (B + b)), (1, .ref (B + ob)), (2, .int (zI ((k : Nat) : Int)))]) ?_ 0 T X V Wy g_1 ⟨(by have h9 := hc_3; simpa using h9), ho_5, hs_6, hfr_7, (by first | omega | with_reducible rfl), (fun y h1 h2 => by omega)⟩
  rintro k T1 X1 V1 W1 gl_8 ⟨hc_9, ho_10, hs_11, hfr_12, hk, hw⟩ ih_11
  refine w_iload_n dX0_copyOf_11 rfl 2 rfl ?_
  refine w_aload_n dX0_copyOf_12 rfl 1 rfl ?_
  refine w_calli (As := []) (rest := [.int (zI ((k : Nat) : Int))]) (n := 0) (c_X0_size ho_10 (by first | omega | with_reducible rfl)) gX0_copyOf_X0_size rfl rfl rfl (by decide +kernel) ⟨Nat.le_of_ble_eq_true rfl, Nat.le_of_ble_eq_true rfl⟩ rfl (by first | omega | with_reducible rfl) ho_10.1 rfl (Nat.le_of_ble_eq_true rfl) ⟨Nat.zero_le _, Nat.zero_le _⟩ dX0_copyOf_13 rfl (fun g_13 hp_14 => ?_)
  subst g_13
  refine w_icmp_ge 45 dX0_copyOf_16 (by decide) (by first | omega | with_reducible rfl) (by first | omega | with_reducible rfl) (fun c_16 => ?_) (fun c_16 => ?_)
  · have hk9 : k = on := by omega
    exact w_vret dX0_copyOf_45 rfl ⟨T1, X1, V1, W1, (by have h9 := hc_9; rw [hk9] at h9; exact h9), (fun j h1 h2 => hw j h1 (by omega)), hfr_12⟩
  · have hk1 := hoT (k : Int) (by omega) (by omega)
    refine w_aload_n dX0_copyOf_19 rfl 0 rfl ?_
    refine w_aload_n dX0_copyOf_20 rfl 1 rfl ?_
    refine w_iload_n dX0_copyOf_21 rfl 2 rfl ?_
    refine w_calli (As := [.int (zI ((k : Nat) : Int))]) (rest := [.ref (B + b)]) (n := 1) (c_X0_totalOf ho_10 (by first | omega | with_reducible rfl) (by first | omega | with_reducible rfl) (by first | omega | with_reducible rfl)) gX0_copyOf_X0_totalOf rfl rfl rfl (by decide +kernel) ⟨Nat.le_of_ble_eq_true rfl, Nat.le_of_ble_eq_true rfl⟩ rfl (by first | omega | with_reducible rfl) ho_10.1 rfl (Nat.le_of_ble_eq_true rfl) ⟨Nat.zero_le _, Nat.zero_le _⟩ dX0_copyOf_22 rfl (fun g_15 hp_16 => ?_)
    subst g_15
    refine w_as (st' := [.int (zI (oT ((k : Nat) : Int))), .ref (B + b)]) (sc_i (inA_in (by omega)) rfl) ?_
    refine w_aload_n dX0_copyOf_25 rfl 1 rfl ?_
    refine w_iload_n dX0_copyOf_26 rfl 2 rfl ?_
    refine w_calli (As := [.int (zI ((k : Nat) : Int))]) (rest := [.int (zI (oT ((k : Nat) : Int))), .ref (B + b)]) (n := 1) (c_X0_aboveOf ho_10 (by first | omega | with_reducible rfl) (by first | omega | with_reducible rfl) (by first | omega | with_reducible rfl)) gX0_copyOf_X0_aboveOf rfl rfl rfl (by decide +kernel) ⟨Nat.le_of_ble_eq_true rfl, Nat.le_of_ble_eq_true rfl⟩ rfl (by first | omega | with_reducible rfl) ho_10.1 rfl (Nat.le_of_ble_eq_true rfl) ⟨Nat.zero_le _, Nat.zero_le _⟩ dX0_copyOf_27 rfl (fun g_17 hp_18 => ?_)
    subst g_17
    refine w_as (st' := [.int (zI (oX ((k : Nat) : Int))), .int (zI (oT ((k : Nat) : Int))), .ref (B + b)]) (sc_i (inA_in (by omega)) rfl) ?_
    refine w_aload_n dX0_copyOf_30 rfl 1 rfl ?_
    refine w_iload_n dX0_copyOf_31 rfl 2 rfl ?_
    refine w_calli (As := [.int (zI ((k : Nat) : Int))]) (rest := [.int (zI (oX ((k : Nat) : Int))), .int (zI (oT ((k : Nat) : Int))), .ref (B + b)]) (n := 1) (c_X0_scoreOf ho_10 (by first | omega | with_reducible rfl) (by first | omega | with_reducible rfl) (by first | omega | with_reducible rfl)) gX0_copyOf_X0_scoreOf rfl rfl rfl (by decide +kernel) ⟨Nat.le_of_ble_eq_true rfl, Nat.le_of_ble_eq_true rfl⟩ rfl (by first | omega | with_reducible rfl) ho_10.1 rfl (Nat.le_of_ble_eq_true rfl) ⟨Nat.zero_le _, Nat.zero_le _⟩ dX0_copyOf_32 rfl (fun g_19 hp_20 => ?_)
    subst g_19
    refine w_as (st' := [.int (zI (oV ((k : Nat) : Int))), .int (zI (oX ((k : Nat) : Int))), .int (zI (oT ((k : Nat) : Int))), .ref (B + b)]) (sc_i (inA_in (by omega)) rfl) ?_
    refine w_calli (As := [.int (zI (oT ((k : Nat) : Int))), .int (zI (oX ((k : Nat) : Int))), .int (zI (oV ((k : Nat) : Int)))]) (rest := []) (n := 3) (c_X0_add_ok hc_9 hs_11 (by first | omega | with_reducible rfl) (by first | omega | with_reducible rfl) (by first | omega | with_reducible rfl) (by first | omega | with_reducible rfl) (by first | omega | with_reducible rfl) (by first | omega | with_reducible rfl) (by first | omega | with_reducible rfl)) gX0_copyOf_X0_add rfl rfl rfl (by decide +kernel) ⟨Nat.le_of_ble_eq_true rfl, Nat.le_of_ble_eq_true rfl⟩ rfl (by first | omega | with_reducible rfl) hc_9.1 rfl (Nat.le_of_ble_eq_true rfl) ⟨Nat.zero_le _, Nat.zero_le _⟩ dX0_copyOf_35 rfl (fun g_21 hp_22 => ?_)
    obtain ⟨W1_23, hc_24, hW_35, hf_25⟩ := hp_22
    have ho_26 : vCol cy B g_21 ob sets on over oT oX oV oW := vCol_fr ho_10 (fun q h1 h2 => hf_25 q (by omega))
    have hs_27 : vSets cy B g_21 sets Cn := vSets_fr hs_11 (fun q h1 h2 => hf_25 q (by omega))
    have hfr_28 : ∀ q, (q < b ∨ b + 10 ≤ q) → g_21 q = g q := fun q hq => (hf_25 q (by omega)).trans (hfr_12 q hq)
    refine w_pop dX0_copyOf_38 rfl ?_
    refine w_iinc 2 [(2, .int (zI (((k : Nat) : Int) + 1))), (0, .ref (B + b)), (1, .ref (B + ob))] dX0_copyOf_39 rfl (by decide) rfl ?_
    refine w_goto 11 dX0_copyOf_42 (by decide) ?_
    refine w_sub [(0, .ref (B + b)), (1, .ref (B + ob)), (2, .int (zI (((k : Nat) : Int) + 1)))] [1, 2, 0] rfl ?_
    refine w_lv (lv' := [(0, .ref (B + b)), (1, .ref (B + ob)), (2, .int (zI (((k + 1) : Nat) : Int)))]) (lc_s (lc_s (lc_i (by first | omega | with_reducible rfl) rfl))) ?_
    exact ih_11 (k + 1) (uZ T1 ((k : Nat) : Int) (oT ((k : Nat) : Int))) (uZ X1 ((k : Nat) : Int) (oX ((k : Nat) : Int))) (uZ V1 ((k : Nat) : Int) (oV ((k : Nat) : Int))) (uF W1 k W1_23) g_21 ⟨(by have h9 := hc_24; rw [show ver + 1 + ((k : Nat) : Int) + 1 = ver + 1 + (((k + 1) : Nat) : Int) by omega] at h9; exact h9), ho_26, hs_27, hfr_28, (by first | omega | with_reducible rfl), (copy_st hw hW_35)⟩ (by first | omega | with_reducible rfl)
