/-! ===== Net.countAhead, Net.refresh ===== -/
set_option maxHeartbeats 4000000 in
set_option maxRecDepth 100000 in
theorem c_X2_countAhead {l : Launch} {D : va_G} {cy : Nat → ClassId} {B N : Nat} {g : Nat → va_E} {b cb : Nat} {tf : Int → Int} {ver : Int} {G : Nat → Int → Int} {sets n R : Nat} {cver : Int} {T X V : Int → Int} {Wy : Nat → Int → Int} (hn : vNet cy B g b cb tf ((R : Nat) : Int) ver G) (hc : vCol cy B g cb sets n cver T X V Wy) (hB : b + 11 ≤ N) (hN : cb + 10 ≤ N) (hdis : cb + 10 ≤ b ∨ b + 11 ≤ cb) (hok : okT T V n) (hR : R ≤ 60) (hRt : R ≤ tsum (clL T V 0 n)) (htf : ∀ j : Nat, j ≤ 5 → tf ((j : Nat) : Int) = ((tsum (clL T V j (n - j)) : Nat) : Int)) (hWy : ∀ j : Nat, j < n → ∀ x : Nat, x ≤ 12 → Wy j ((x : Nat) : Int) = ((ch (T ((j : Nat) : Int)).toNat x : Nat) : Int)) (hb : NBr T V n R G 0) (hz : Z0 G) : CTv l yX2_countAhead wsX2_countAhead (rmo 2 48) D cy B N g [.ref (B + b)] (fun g' => ∃ G1 : Nat → Int → Int, vNet cy B g' b cb tf ((R : Nat) : Int) ver G1 ∧ (NF T V n R G1) ∧ (∀ q, (q < b ∨ b + 11 ≤ q) → g' q = g q)) := by
  refine WW_of (cc := cX2_countAhead) (maxL := 3) (ret := none) (own := RX2) (by decide) rfl rfl (Nat.le_of_ble_eq_true rfl) rfl ?_
  intro pp ee ss mm bl me co hmn
  have hfr_0 : ∀ q, (q < b ∨ b + 11 ≤ q) → g q = g q := fun _ _ => rfl
  have hn5 : n ≤ 5 := hok.1
  refine w_aload_n dX2_countAhead_0 rfl 0 rfl ?_
  refine w_iconst dX2_countAhead_1 ?_
  refine w_iconst dX2_countAhead_2 ?_
  refine w_iconst dX2_countAhead_3 ?_
  refine w_lconst1 dX2_countAhead_4 ?_
  refine w_callv (As := [.int (zI 0), .int (zI 0), .int (zI 0), .long (zJ 1)]) (rest := []) (n := 4) (c_X2_put (kn := 0) hn (by first | omega | with_reducible rfl) (by first | omega | with_reducible rfl) (by first | omega | with_reducible rfl) (by first | omega | with_reducible rfl)) gX2_countAhead_X2_put rfl rfl rfl (by decide +kernel) ⟨Nat.le_of_ble_eq_true rfl, Nat.le_of_ble_eq_true rfl⟩ rfl (by first | omega | with_reducible rfl) hn.1 rfl (Nat.le_of_ble_eq_true rfl) ⟨Nat.zero_le _, Nat.zero_le _⟩ dX2_countAhead_5 rfl (fun g_1 hp_2 => ?_)
  obtain ⟨hn_3, hf_4⟩ := hp_2
  have hc_5 : vCol cy B g_1 cb sets n cver T X V Wy := vCol_fr hc (fun q h1 h2 => hf_4 q (by omega))
  have hfr_6 : ∀ q, (q < b ∨ b + 11 ≤ q) → g_1 q = g q := fun q hq => (hf_4 q (by omega)).trans (hfr_0 q hq)
  refine w_iconst dX2_countAhead_8 ?_
  refine w_istore_n [(1, .int (zI 1)), (0, .ref (B + b))] dX2_countAhead_9 rfl (by decide) rfl ?_
  refine w_sub [(0, .ref (B + b)), (1, .int (zI 1))] [1, 0] rfl ?_
  refine w_lv (lv' := [(0, .ref (B + b)), (1, .int (zI (((0 + 1) : Nat) : Int)))]) (lc_s (lc_i (by first | omega | with_reducible rfl) rfl)) ?_
  refine w_loop3 (fun (jm : Nat) (Gj : Nat → Int → Int) (gl_7 : (Nat → va_E)) => vNet cy B gl_7 b cb tf ((R : Nat) : Int) ver Gj ∧ vCol cy B gl_7 cb sets n cver T X V Wy ∧ (∀ q, (q < b ∨ b + 11 ≤ q) → gl_7 q = g q) ∧ jm ≤ n ∧ NAi T V n R Gj (jm + 1) 0 ∧ NBr T V n R Gj 0) (fun (jm : Nat) (Gj : Nat → Int → Int) (gl_7 : (Nat → va_E)) => n - jm) (fun (jm : Nat) (Gj : Nat → Int → Int) (gl_7 : (Nat → va_E)) => gl_7) (fun (jm : Nat) (Gj : Nat → Int → Int) (gl_7 : (Nat → va_E)) => [(0, .ref (B + b)), (1, .int (zI (((jm + 1) : Nat) : Int)))]) ?_ 0 (pG G 0 (0 * 61 + 0) 1) g_1 ⟨hn_3, hc_5, hfr_6, (by first | omega | with_reducible rfl), (NA_start hRt hz), (NBr_pG0 hb)⟩
  rintro jm Gj gl_7 ⟨hn_8, hc_9, hfr_10, hjm, hj, hbj⟩ ih_10
  refine w_iload_n dX2_countAhead_10 rfl 1 rfl ?_
  refine w_aload_n dX2_countAhead_11 rfl 0 rfl ?_
  refine w_get (i := 0) (T := TX2) (NF := 5) b (by first | omega | with_reducible rfl) hn_8.1 rfl (fun _ h => (List.mem_cons_of_mem _ (List.mem_append_left _ (List.mem_append_right _ h)))) (by decide) (List.mem_of_getElem? (i := 1) rfl) rfl dX2_countAhead_12 ?_
  refine w_calli (As := []) (rest := [.int (zI (((jm + 1) : Nat) : Int))]) (n := 0) (c_X0_size hc_9 (by first | omega | with_reducible rfl)) gX2_countAhead_X0_size rfl rfl rfl (by decide +kernel) ⟨Nat.le_of_ble_eq_true rfl, Nat.le_of_ble_eq_true rfl⟩ rfl (by first | omega | with_reducible rfl) hc_9.1 rfl (Nat.le_of_ble_eq_true rfl) ⟨Nat.zero_le _, Nat.zero_le _⟩ dX2_countAhead_15 rfl (fun g_11 hp_12 => ?_)
  subst g_11
  refine w_icmp_gt 65 dX2_countAhead_18 (by decide) (by first | omega | with_reducible rfl) (by first | omega | with_reducible rfl) (fun c_18 => ?_) (fun c_18 => ?_)
  · exact w_vret dX2_countAhead_65 rfl ⟨Gj, hn_8, (NF_of hj (by omega) hbj), hfr_10⟩
  · refine w_iconst dX2_countAhead_21 ?_
    refine w_istore_n [(2, .int (zI 0)), (0, .ref (B + b)), (1, .int (zI (((jm + 1) : Nat) : Int)))] dX2_countAhead_22 rfl (by decide) rfl ?_
    refine w_sub [(0, .ref (B + b)), (1, .int (zI (((jm + 1) : Nat) : Int))), (2, .int (zI 0))] [1, 2, 0] rfl ?_
    refine w_lv (lv' := [(0, .ref (B + b)), (1, .int (zI (((jm + 1) : Nat) : Int))), (2, .int (zI ((0 : Nat) : Int)))]) (lc_s (lc_s (lc_i (by first | omega | with_reducible rfl) rfl))) ?_
    refine w_loop3 (fun (a : Nat) (Ga : Nat → Int → Int) (gl_13 : (Nat → va_E)) => vNet cy B gl_13 b cb tf ((R : Nat) : Int) ver Ga ∧ vCol cy B gl_13 cb sets n cver T X V Wy ∧ (∀ q, (q < b ∨ b + 11 ≤ q) → gl_13 q = g q) ∧ a ≤ R + 1 ∧ NAi T V n R Ga (jm + 1) a ∧ NBr T V n R Ga 0) (fun (a : Nat) (Ga : Nat → Int → Int) (gl_13 : (Nat → va_E)) => R + 1 - a) (fun (a : Nat) (Ga : Nat → Int → Int) (gl_13 : (Nat → va_E)) => gl_13) (fun (a : Nat) (Ga : Nat → Int → Int) (gl_13 : (Nat → va_E)) => [(0, .ref (B + b)), (1, .int (zI (((jm + 1) : Nat) : Int))), (2, .int (zI ((a : Nat) : Int)))]) ?_ 0 Gj gl_7 ⟨hn_8, hc_9, hfr_10, (by first | omega | with_reducible rfl), hj, hbj⟩
    rintro a Ga gl_13 ⟨hn_14, hc_15, hfr_16, ha, hi, hba⟩ ih_23
    refine w_iload_n dX2_countAhead_23 rfl 2 rfl ?_
    refine w_aload_n dX2_countAhead_24 rfl 0 rfl ?_
    refine w_get (i := 3) (T := TX2) (NF := 5) b (by first | omega | with_reducible rfl) hn_14.1 rfl (fun _ h => (List.mem_cons_of_mem _ (List.mem_append_left _ (List.mem_append_right _ h)))) (by decide) (List.mem_of_getElem? (i := 2) rfl) rfl dX2_countAhead_25 ?_
    refine w_icmp_gt 59 dX2_countAhead_28 (by decide) (by first | omega | with_reducible rfl) (by first | omega | with_reducible rfl) (fun c_28 => ?_) (fun c_28 => ?_)
    · refine w_iinc 1 [(1, .int (zI ((((jm + 1) : Nat) : Int) + 1))), (0, .ref (B + b)), (2, .int (zI ((a : Nat) : Int)))] dX2_countAhead_59 rfl (by decide) rfl ?_
      refine w_goto 10 dX2_countAhead_62 (by decide) ?_
      refine w_sub [(0, .ref (B + b)), (1, .int (zI ((((jm + 1) : Nat) : Int) + 1)))] [1, 0] rfl ?_
      refine w_lv (lv' := [(0, .ref (B + b)), (1, .int (zI ((((jm + 1) + 1) : Nat) : Int)))]) (lc_s (lc_i (by first | omega | with_reducible rfl) rfl)) ?_
      exact ih_10 (jm + 1) Ga gl_13 ⟨hn_14, hc_15, hfr_16, (by first | omega | with_reducible rfl), (NA_end hi (by omega)), hba⟩ (by first | omega | with_reducible rfl)
    · refine w_aload_n dX2_countAhead_31 rfl 0 rfl ?_
      refine w_iload_n dX2_countAhead_32 rfl 1 rfl ?_
      refine w_iload_n dX2_countAhead_33 rfl 2 rfl ?_
      refine w_calli (As := [.int (zI (((jm + 1) : Nat) : Int)), .int (zI ((a : Nat) : Int))]) (rest := []) (n := 2) (c_X2_isThere hn_14 (by first | omega | with_reducible rfl) (by first | omega | with_reducible rfl) (by first | omega | with_reducible rfl) (NBr_rg hba hok)) gX2_countAhead_X2_isThere rfl rfl rfl (by decide +kernel) ⟨Nat.le_of_ble_eq_true rfl, Nat.le_of_ble_eq_true rfl⟩ rfl (by first | omega | with_reducible rfl) hn_14.1 rfl (Nat.le_of_ble_eq_true rfl) ⟨Nat.zero_le _, Nat.zero_le _⟩ dX2_countAhead_34 rfl (fun g_17 hp_18 => ?_)
      subst g_17
      refine w_ifeqB 53 dX2_countAhead_37 (by decide) (fun c_37 => ?_) (fun c_37 => ?_)
      · refine w_iinc 2 [(2, .int (zI (((a : Nat) : Int) + 1))), (0, .ref (B + b)), (1, .int (zI (((jm + 1) : Nat) : Int)))] dX2_countAhead_53 rfl (by decide) rfl ?_
        refine w_goto 23 dX2_countAhead_56 (by decide) ?_
        refine w_sub [(0, .ref (B + b)), (1, .int (zI (((jm + 1) : Nat) : Int))), (2, .int (zI (((a : Nat) : Int) + 1)))] [1, 2, 0] rfl ?_
        refine w_lv (lv' := [(0, .ref (B + b)), (1, .int (zI (((jm + 1) : Nat) : Int))), (2, .int (zI (((a + 1) : Nat) : Int)))]) (lc_s (lc_s (lc_i (by first | omega | with_reducible rfl) rfl))) ?_
        exact ih_23 (a + 1) Ga gl_13 ⟨hn_14, hc_15, hfr_16, (by first | omega | with_reducible rfl), (NA_skip hi (fun h2 => c_37 ((NBr_1 hba (by omega) hn5 (by omega)).1 h2))), (by first | omega | with_reducible rfl)⟩ (by first | omega | with_reducible rfl)
      · have hth := (NBr_1 hba (by omega) hn5 (by omega)).2 c_37
        have hq1 := hok.2 ((jm : Nat) : Int) (by omega) (by omega)
        refine w_aload_n dX2_countAhead_40 rfl 0 rfl ?_
        refine w_iconst dX2_countAhead_41 ?_
        refine w_iload_n dX2_countAhead_42 rfl 1 rfl ?_
        refine w_iload_n dX2_countAhead_43 rfl 2 rfl ?_
        refine w_aload_n dX2_countAhead_44 rfl 0 rfl ?_
        refine w_iload_n dX2_countAhead_45 rfl 1 rfl ?_
        refine w_iload_n dX2_countAhead_46 rfl 2 rfl ?_
        refine w_calll (As := [.int (zI (((jm + 1) : Nat) : Int)), .int (zI ((a : Nat) : Int))]) (rest := [.int (zI ((a : Nat) : Int)), .int (zI (((jm + 1) : Nat) : Int)), .int (zI 0), .ref (B + b)]) (n := 2) (c_X2_waysAhead (a := a) (j := jm) (c := ((T ((jm : Nat) : Int)).toNat, (V ((jm : Nat) : Int)).toNat)) (cs := (clR T V jm)) hn_14 hc_15 (by first | omega | with_reducible rfl) (by first | omega | with_reducible rfl) (by first | omega | with_reducible rfl) (by first | omega | with_reducible rfl) (by first | omega | with_reducible rfl) (by show T ((jm : Nat) : Int) = (((T ((jm : Nat) : Int)).toNat : Nat) : Int); omega) (by show (T ((jm : Nat) : Int)).toNat ≤ 12; omega) (hWy _ (by omega)) (fun x h1 h2 => NA_row hi (by omega) hn5 (by omega) hth h1 h2)) gX2_countAhead_X2_waysAhead rfl rfl rfl (by decide +kernel) ⟨Nat.le_of_ble_eq_true rfl, Nat.le_of_ble_eq_true rfl⟩ rfl (by first | omega | with_reducible rfl) hn_14.1 rfl (Nat.le_of_ble_eq_true rfl) ⟨Nat.zero_le _, Nat.zero_le _⟩ dX2_countAhead_47 rfl (fun g_19 hp_20 => ?_)
        subst g_19
        refine w_callv (As := [.int (zI 0), .int (zI (((jm + 1) : Nat) : Int)), .int (zI ((a : Nat) : Int)), .long (zJ (ah (((T ((jm : Nat) : Int)).toNat, (V ((jm : Nat) : Int)).toNat) :: (clR T V jm)) a))]) (rest := []) (n := 4) (c_X2_put (kn := 0) hn_14 (by first | omega | with_reducible rfl) (by first | omega | with_reducible rfl) (by first | omega | with_reducible rfl) (by first | omega | with_reducible rfl)) gX2_countAhead_X2_put rfl rfl rfl (by decide +kernel) ⟨Nat.le_of_ble_eq_true rfl, Nat.le_of_ble_eq_true rfl⟩ rfl (by first | omega | with_reducible rfl) hn_14.1 rfl (Nat.le_of_ble_eq_true rfl) ⟨Nat.zero_le _, Nat.zero_le _⟩ dX2_countAhead_50 rfl (fun g_21 hp_22 => ?_)
        obtain ⟨hn_23, hf_24⟩ := hp_22
        have hc_25 : vCol cy B g_21 cb sets n cver T X V Wy := vCol_fr hc_15 (fun q h1 h2 => hf_24 q (by omega))
        have hfr_26 : ∀ q, (q < b ∨ b + 11 ≤ q) → g_21 q = g q := fun q hq => (hf_24 q (by omega)).trans (hfr_16 q hq)
        refine w_iinc 2 [(2, .int (zI (((a : Nat) : Int) + 1))), (0, .ref (B + b)), (1, .int (zI (((jm + 1) : Nat) : Int)))] dX2_countAhead_53 rfl (by decide) rfl ?_
        refine w_goto 23 dX2_countAhead_56 (by decide) ?_
        refine w_sub [(0, .ref (B + b)), (1, .int (zI (((jm + 1) : Nat) : Int))), (2, .int (zI (((a : Nat) : Int) + 1)))] [1, 2, 0] rfl ?_
        refine w_lv (lv' := [(0, .ref (B + b)), (1, .int (zI (((jm + 1) : Nat) : Int))), (2, .int (zI (((a + 1) : Nat) : Int)))]) (lc_s (lc_s (lc_i (by first | omega | with_reducible rfl) rfl))) ?_
        exact ih_23 (a + 1) (pG Ga 0 ((((jm + 1) : Nat) : Int) * 61 + ((a : Nat) : Int)) (ah (((T ((jm : Nat) : Int)).toNat, (V ((jm : Nat) : Int)).toNat) :: (clR T V jm)) a)) g_21 ⟨hn_23, hc_25, hfr_26, (by first | omega | with_reducible rfl), (NA_step hi (by omega) (by omega) hth rfl), (NBr_pG0 hba)⟩ (by first | omega | with_reducible rfl)
set_option maxHeartbeats 4000000 in
set_option maxRecDepth 100000 in
theorem c_X2_refresh {l : Launch} {D : va_G} {cy : Nat → ClassId} {B N : Nat} {g : Nat → va_E} {b cb : Nat} {tf : Int → Int} {aa ver : Int} {G : Nat → Int → Int} {sets n R : Nat} {cver : Int} {T X V : Int → Int} {Wy : Nat → Int → Int} (hn : vNet cy B g b cb tf aa ver G) (hc : vCol cy B g cb sets n cver T X V Wy) (hB : b + 11 ≤ N) (hN : cb + 10 ≤ N) (hdis : cb + 10 ≤ b ∨ b + 11 ≤ cb) (hok : okT T V n) (hR : R ≤ 60) (hRt : R ≤ tsum (clL T V 0 n)) (hWy : ∀ j : Nat, j < n → ∀ x : Nat, x ≤ 12 → Wy j ((x : Nat) : Int) = ((ch (T ((j : Nat) : Int)).toNat x : Nat) : Int)) (hv : (0 ≤ ver ∧ ver ≤ cver) ∧ cver < 2147483648) (hX : sm X n = ((R : Nat) : Int)) (h0 : ver = cver → (aa = ((R : Nat) : Int) ∧ (∀ j : Nat, j ≤ 5 → tf ((j : Nat) : Int) = ((tsum (clL T V j (n - j)) : Nat) : Int)) ∧ NF T V n R G)) : CTv l yX2_refresh wsX2_refresh (rmo 4 118) D cy B N g [.ref (B + b)] (fun g' => ∃ tf1 : Int → Int, ∃ G1 : Nat → Int → Int, vNet cy B g' b cb tf1 ((R : Nat) : Int) cver G1 ∧ (∀ j : Nat, j ≤ 5 → tf1 ((j : Nat) : Int) = ((tsum (clL T V j (n - j)) : Nat) : Int)) ∧ (NF T V n R G1) ∧ (∀ q, (q < b ∨ b + 11 ≤ q) → g' q = g q)) := by
  refine WW_of (cc := cX2_refresh) (maxL := 2) (ret := none) (own := RX2) (by decide) rfl rfl (Nat.le_of_ble_eq_true rfl) rfl ?_
  intro pp ee ss mm bl me co hmn
  have hfr_0 : ∀ q, (q < b ∨ b + 11 ≤ q) → g q = g q := fun _ _ => rfl
  have hn5 : n ≤ 5 := hok.1
  refine w_aload_n dX2_refresh_0 rfl 0 rfl ?_
  refine w_get (i := 4) (T := TX2) (NF := 5) b (by first | omega | with_reducible rfl) hn.1 rfl (fun _ h => (List.mem_cons_of_mem _ (List.mem_append_left _ (List.mem_append_right _ h)))) (by decide) (List.mem_of_getElem? (i := 1) rfl) rfl dX2_refresh_1 ?_
  refine w_aload_n dX2_refresh_4 rfl 0 rfl ?_
  refine w_get (i := 0) (T := TX2) (NF := 5) b (by first | omega | with_reducible rfl) hn.1 rfl (fun _ h => (List.mem_cons_of_mem _ (List.mem_append_left _ (List.mem_append_right _ h)))) (by decide) (List.mem_of_getElem? (i := 2) rfl) rfl dX2_refresh_5 ?_
  refine w_calli (As := []) (rest := [.int (zI ver)]) (n := 0) (c_X0_version hc (by first | omega | with_reducible rfl)) gX2_refresh_X0_version rfl rfl rfl (by decide +kernel) ⟨Nat.le_of_ble_eq_true rfl, Nat.le_of_ble_eq_true rfl⟩ rfl (by first | omega | with_reducible rfl) hc.1 rfl (Nat.le_of_ble_eq_true rfl) ⟨Nat.zero_le _, Nat.zero_le _⟩ dX2_refresh_8 rfl (fun g_1 hp_2 => ?_)
  subst g_1
  refine w_icmp_ne 15 dX2_refresh_11 (by decide) (by first | omega | with_reducible rfl) (by first | omega | with_reducible rfl) (fun c_11 => ?_) (fun c_11 => ?_)
  · refine w_aload_n dX2_refresh_15 rfl 0 rfl ?_
    refine w_aload_n dX2_refresh_16 rfl 0 rfl ?_
    refine w_get (i := 0) (T := TX2) (NF := 5) b (by first | omega | with_reducible rfl) hn.1 rfl (fun _ h => (List.mem_cons_of_mem _ (List.mem_append_left _ (List.mem_append_right _ h)))) (by decide) (List.mem_of_getElem? (i := 2) rfl) rfl dX2_refresh_17 ?_
    refine w_calli (As := []) (rest := [.ref (B + b)]) (n := 0) (c_X0_version hc (by first | omega | with_reducible rfl)) gX2_refresh_X0_version rfl rfl rfl (by decide +kernel) ⟨Nat.le_of_ble_eq_true rfl, Nat.le_of_ble_eq_true rfl⟩ rfl (by first | omega | with_reducible rfl) hc.1 rfl (Nat.le_of_ble_eq_true rfl) ⟨Nat.zero_le _, Nat.zero_le _⟩ dX2_refresh_20 rfl (fun g_3 hp_4 => ?_)
    subst g_3
    refine w_put (i := 4) (T := TX2) (NF := 5) b (by first | omega | with_reducible rfl) hn.1 rfl (fun _ h => (List.mem_cons_of_mem _ (List.mem_append_left _ (List.mem_append_right _ h)))) tyX2 tyX2_ok nmX2 (by decide) (List.mem_of_getElem? (i := 1) rfl) rfl rfl rfl (Nat.le_of_ble_eq_true rfl) dX2_refresh_23 (fun g_5 he_6 hn_7 => ?_)
    have hn_8 : vNet cy B g_5 b cb tf aa cver G := ⟨he_6, ((hn_7 _ (by omega)).trans hn.2.1), (fun k hk => (hn_7 _ (by omega)).trans (hn.2.2.1 k hk)), ((hn_7 _ (by omega)).trans hn.2.2.2)⟩
    have hc_9 : vCol cy B g_5 cb sets n cver T X V Wy := vCol_fr hc (fun q h1 h2 => hn_7 q (by omega))
    have hfr_10 : ∀ q, (q < b ∨ b + 11 ≤ q) → g_5 q = g q := fun q hq => (hn_7 q (by omega)).trans (hfr_0 q hq)
    refine w_aload_n dX2_refresh_26 rfl 0 rfl ?_
    refine w_aload_n dX2_refresh_27 rfl 0 rfl ?_
    refine w_get (i := 0) (T := TX2) (NF := 5) b (by first | omega | with_reducible rfl) hn_8.1 rfl (fun _ h => (List.mem_cons_of_mem _ (List.mem_append_left _ (List.mem_append_right _ h)))) (by decide) (List.mem_of_getElem? (i := 2) rfl) rfl dX2_refresh_28 ?_
    refine w_calli (As := []) (rest := [.ref (B + b)]) (n := 0) (c_X0_allAbove hc_9 (by first | omega | with_reducible rfl) (by first | omega | with_reducible rfl)) gX2_refresh_X0_allAbove rfl rfl rfl (by decide +kernel) ⟨Nat.le_of_ble_eq_true rfl, Nat.le_of_ble_eq_true rfl⟩ rfl (by first | omega | with_reducible rfl) hc_9.1 rfl (Nat.le_of_ble_eq_true rfl) ⟨Nat.zero_le _, Nat.zero_le _⟩ dX2_refresh_31 rfl (fun g_11 hp_12 => ?_)
    subst g_11
    refine w_as (st' := [.int (zI ((R : Nat) : Int)), .ref (B + b)]) (sc_i hX rfl) ?_
    refine w_put (i := 3) (T := TX2) (NF := 5) b (by first | omega | with_reducible rfl) hn_8.1 rfl (fun _ h => (List.mem_cons_of_mem _ (List.mem_append_left _ (List.mem_append_right _ h)))) tyX2 tyX2_ok nmX2 (by decide) (List.mem_of_getElem? (i := 3) rfl) rfl rfl rfl (Nat.le_of_ble_eq_true rfl) dX2_refresh_34 (fun g_13 he_14 hn_15 => ?_)
    have hn_16 : vNet cy B g_13 b cb tf ((R : Nat) : Int) cver G := ⟨he_14, ((hn_15 _ (by omega)).trans hn_8.2.1), (fun k hk => (hn_15 _ (by omega)).trans (hn_8.2.2.1 k hk)), ((hn_15 _ (by omega)).trans hn_8.2.2.2)⟩
    have hc_17 : vCol cy B g_13 cb sets n cver T X V Wy := vCol_fr hc_9 (fun q h1 h2 => hn_15 q (by omega))
    have hfr_18 : ∀ q, (q < b ∨ b + 11 ≤ q) → g_13 q = g q := fun q hq => (hn_15 q (by omega)).trans (hfr_10 q hq)
    refine w_iconst dX2_refresh_37 ?_
    refine w_istore_n [(1, .int (zI 0)), (0, .ref (B + b))] dX2_refresh_38 rfl (by decide) rfl ?_
    refine w_sub [(0, .ref (B + b)), (1, .int (zI 0))] [1, 0] rfl ?_
    refine w_lv (lv' := [(0, .ref (B + b)), (1, .int (zI ((0 : Nat) : Int)))]) (lc_s (lc_i (by first | omega | with_reducible rfl) rfl)) ?_
    refine w_loop3 (fun (k : Nat) (Gk : Nat → Int → Int) (gl_19 : (Nat → va_E)) => vNet cy B gl_19 b cb tf ((R : Nat) : Int) cver Gk ∧ vCol cy B gl_19 cb sets n cver T X V Wy ∧ (∀ q, (q < b ∨ b + 11 ≤ q) → gl_19 q = g q) ∧ k ≤ 8 ∧ (∀ kd : Nat, kd < k → ∀ i : Int, 0 ≤ i → i < 366 → Gk kd i = 0)) (fun (k : Nat) (Gk : Nat → Int → Int) (gl_19 : (Nat → va_E)) => 8 - k) (fun (k : Nat) (Gk : Nat → Int → Int) (gl_19 : (Nat → va_E)) => gl_19) (fun (k : Nat) (Gk : Nat → Int → Int) (gl_19 : (Nat → va_E)) => [(0, .ref (B + b)), (1, .int (zI ((k : Nat) : Int)))]) ?_ 0 G g_13 ⟨hn_16, hc_17, hfr_18, (by first | omega | with_reducible rfl), (fun kd h => absurd h (Nat.not_lt_zero _))⟩
    rintro k Gk gl_19 ⟨hn_20, hc_21, hfr_22, hk, hzk⟩ ih_39
    refine w_iload_n dX2_refresh_39 rfl 1 rfl ?_
    refine w_bipush dX2_refresh_40 (by decide) ?_
    refine w_icmp_ge 61 dX2_refresh_42 (by decide) (by first | omega | with_reducible rfl) (by first | omega | with_reducible rfl) (fun c_42 => ?_) (fun c_42 => ?_)
    · refine w_aload_n dX2_refresh_61 rfl 0 rfl ?_
      refine w_get (i := 2) (T := TX2) (NF := 5) b (by first | omega | with_reducible rfl) hn_20.1 rfl (fun _ h => (List.mem_cons_of_mem _ (List.mem_append_left _ (List.mem_append_right _ h)))) (by decide) (List.mem_of_getElem? (i := 5) rfl) rfl dX2_refresh_62 ?_
      refine w_iconst dX2_refresh_65 ?_
      refine w_callvS (As := [.ref (B + (b + 10)), .int (zI 0)]) (rest := []) (n := 2) (c_J7_fill_53178 hn_20.2.2.2 (by first | omega | with_reducible rfl) (by first | omega | with_reducible rfl)) gX2_refresh_J7_fill_53178 rfl rfl rfl (by decide +kernel) ⟨Nat.le_of_ble_eq_true rfl, Nat.le_of_ble_eq_true rfl⟩ rfl (Nat.le_of_ble_eq_true rfl) ⟨Nat.zero_le _, Nat.zero_le _⟩ dX2_refresh_66 rfl (fun g_23 hp_24 => ?_)
      obtain ⟨W1_25, fi_26, hfl_66, hf_27⟩ := hp_24
      have hq_28 : ∀ q, q ≠ (b + 10) → g_23 q = gl_19 q := fun q h9 => hf_27 q (by omega)
      have hn_29 : vNet cy B g_23 b cb W1_25 ((R : Nat) : Int) cver Gk := ⟨((hq_28 _ (by omega)).trans hn_20.1), ((hq_28 _ (by omega)).trans hn_20.2.1), (fun k hk => (hq_28 _ (by omega)).trans (hn_20.2.2.1 k hk)), fi_26⟩
      have hc_30 : vCol cy B g_23 cb sets n cver T X V Wy := vCol_fr hc_21 (fun q h1 h2 => hq_28 q (by omega))
      have hfr_31 : ∀ q, (q < b ∨ b + 11 ≤ q) → g_23 q = g q := fun q hq => (hq_28 q (by omega)).trans (hfr_22 q hq)
      refine w_iconst dX2_refresh_69 ?_
      refine w_istore_n [(1, .int (zI 4)), (0, .ref (B + b))] dX2_refresh_70 rfl (by decide) rfl ?_
      refine w_sub [(0, .ref (B + b)), (1, .int (zI 4))] [1, 0] rfl ?_
      refine w_lv (lv' := [(0, .ref (B + b)), (1, .int (zI (((5 : Nat) : Int) - 1)))]) (lc_s (lc_i (by first | omega | with_reducible rfl) rfl)) ?_
      refine w_loop3 (fun (m : Nat) (tfm : Int → Int) (gl_32 : (Nat → va_E)) => vNet cy B gl_32 b cb tfm ((R : Nat) : Int) cver Gk ∧ vCol cy B gl_32 cb sets n cver T X V Wy ∧ (∀ q, (q < b ∨ b + 11 ≤ q) → gl_32 q = g q) ∧ m ≤ 5 ∧ (∀ i : Nat, m ≤ i → i ≤ 5 → tfm ((i : Nat) : Int) = ((tsum (clL T V i (n - i)) : Nat) : Int))) (fun (m : Nat) (tfm : Int → Int) (gl_32 : (Nat → va_E)) => m) (fun (m : Nat) (tfm : Int → Int) (gl_32 : (Nat → va_E)) => gl_32) (fun (m : Nat) (tfm : Int → Int) (gl_32 : (Nat → va_E)) => [(0, .ref (B + b)), (1, .int (zI (((m : Nat) : Int) - 1)))]) ?_ 5 W1_25 g_23 ⟨hn_29, hc_30, hfr_31, (by first | omega | with_reducible rfl), (fun i h1 h2 => by rw [hfl_66 ((i : Nat) : Int) (by omega) (by omega), show n - i = 0 by omega]; rfl)⟩
      rintro m tfm gl_32 ⟨hn_33, hc_34, hfr_35, hm, hti⟩ ih_71
      refine w_iload_n dX2_refresh_71 rfl 1 rfl ?_
      refine w_if_lt 104 dX2_refresh_72 (by decide) (by first | omega | with_reducible rfl) (fun c_72 => ?_) (fun c_72 => ?_)
      · refine w_aload_n dX2_refresh_104 rfl 0 rfl ?_
        have hm0 : m = 0 := by omega
        refine w_callv (As := []) (rest := []) (n := 0) (c_X2_countBehind hn_33 hc_34 (by first | omega | with_reducible rfl) (by first | omega | with_reducible rfl) (by first | omega | with_reducible rfl) hok (by first | omega | with_reducible rfl) hRt (fun j h1 => hti j (by omega) h1) hWy (fun kd h1 => hzk kd (by omega))) gX2_refresh_X2_countBehind rfl rfl rfl (by decide +kernel) ⟨Nat.le_of_ble_eq_true rfl, Nat.le_of_ble_eq_true rfl⟩ rfl (by first | omega | with_reducible rfl) hn_33.1 rfl (Nat.le_of_ble_eq_true rfl) ⟨Nat.zero_le _, Nat.zero_le _⟩ dX2_refresh_105 rfl (fun g_36 hp_37 => ?_)
        obtain ⟨G1_38, hn_39, hNB_105, hZ0_105, hf_40⟩ := hp_37
        have hc_41 : vCol cy B g_36 cb sets n cver T X V Wy := vCol_fr hc_34 (fun q h1 h2 => hf_40 q (by omega))
        have hfr_42 : ∀ q, (q < b ∨ b + 11 ≤ q) → g_36 q = g q := fun q hq => (hf_40 q (by omega)).trans (hfr_35 q hq)
        refine w_aload_n dX2_refresh_108 rfl 0 rfl ?_
        refine w_callv (As := []) (rest := []) (n := 0) (c_X2_countAhead hn_39 hc_41 (by first | omega | with_reducible rfl) (by first | omega | with_reducible rfl) (by first | omega | with_reducible rfl) hok (by first | omega | with_reducible rfl) hRt (fun j h1 => hti j (by omega) h1) hWy hNB_105 hZ0_105) gX2_refresh_X2_countAhead rfl rfl rfl (by decide +kernel) ⟨Nat.le_of_ble_eq_true rfl, Nat.le_of_ble_eq_true rfl⟩ rfl (by first | omega | with_reducible rfl) hn_39.1 rfl (Nat.le_of_ble_eq_true rfl) ⟨Nat.zero_le _, Nat.zero_le _⟩ dX2_refresh_109 rfl (fun g_43 hp_44 => ?_)
        obtain ⟨G1_45, hn_46, hNF_109, hf_47⟩ := hp_44
        have hc_48 : vCol cy B g_43 cb sets n cver T X V Wy := vCol_fr hc_41 (fun q h1 h2 => hf_47 q (by omega))
        have hfr_49 : ∀ q, (q < b ∨ b + 11 ≤ q) → g_43 q = g q := fun q hq => (hf_47 q (by omega)).trans (hfr_42 q hq)
        exact w_vret dX2_refresh_112 rfl ⟨tfm, G1_45, hn_46, (fun j h1 => hti j (by omega) h1), hNF_109, hfr_49⟩
      · refine w_aload_n dX2_refresh_75 rfl 0 rfl ?_
        refine w_get (i := 2) (T := TX2) (NF := 5) b (by first | omega | with_reducible rfl) hn_33.1 rfl (fun _ h => (List.mem_cons_of_mem _ (List.mem_append_left _ (List.mem_append_right _ h)))) (by decide) (List.mem_of_getElem? (i := 5) rfl) rfl dX2_refresh_76 ?_
        refine w_iload_n dX2_refresh_79 rfl 1 rfl ?_
        refine w_aload_n dX2_refresh_80 rfl 0 rfl ?_
        refine w_get (i := 2) (T := TX2) (NF := 5) b (by first | omega | with_reducible rfl) hn_33.1 rfl (fun _ h => (List.mem_cons_of_mem _ (List.mem_append_left _ (List.mem_append_right _ h)))) (by decide) (List.mem_of_getElem? (i := 5) rfl) rfl dX2_refresh_81 ?_
        refine w_iload_n dX2_refresh_84 rfl 1 rfl ?_
        refine w_iconst dX2_refresh_85 ?_
        refine w_iadd dX2_refresh_86 ?_
        refine w_iald (b + 10) (by first | omega | with_reducible rfl) hn_33.2.2.2 (by first | omega | with_reducible rfl) dX2_refresh_87 ?_
        refine w_aload_n dX2_refresh_88 rfl 0 rfl ?_
        refine w_get (i := 0) (T := TX2) (NF := 5) b (by first | omega | with_reducible rfl) hn_33.1 rfl (fun _ h => (List.mem_cons_of_mem _ (List.mem_append_left _ (List.mem_append_right _ h)))) (by decide) (List.mem_of_getElem? (i := 2) rfl) rfl dX2_refresh_89 ?_
        refine w_iload_n dX2_refresh_92 rfl 1 rfl ?_
        refine w_calli (As := [.int (zI (((m : Nat) : Int) - 1))]) (rest := [.int (zI (tfm ((((m : Nat) : Int) - 1) + 1))), .int (zI (((m : Nat) : Int) - 1)), .ref (B + (b + 10))]) (n := 1) (c_X0_totalOf hc_34 (by first | omega | with_reducible rfl) (by first | omega | with_reducible rfl) (by first | omega | with_reducible rfl)) gX2_refresh_X0_totalOf rfl rfl rfl (by decide +kernel) ⟨Nat.le_of_ble_eq_true rfl, Nat.le_of_ble_eq_true rfl⟩ rfl (by first | omega | with_reducible rfl) hc_34.1 rfl (Nat.le_of_ble_eq_true rfl) ⟨Nat.zero_le _, Nat.zero_le _⟩ dX2_refresh_93 rfl (fun g_50 hp_51 => ?_)
        subst g_50
        refine w_iadd dX2_refresh_96 ?_
        refine w_iast (b + 10) (by first | omega | with_reducible rfl) hn_33.2.2.2 (by first | omega | with_reducible rfl) dX2_refresh_97 (fun g_52 he_53 hn_54 => ?_)
        have hn_55 : vNet cy B g_52 b cb (uZ tfm (((m : Nat) : Int) - 1) ((tfm ((((m : Nat) : Int) - 1) + 1)) + (inA n T (((m : Nat) : Int) - 1)))) ((R : Nat) : Int) cver Gk := ⟨((hn_54 _ (by omega)).trans hn_33.1), ((hn_54 _ (by omega)).trans hn_33.2.1), (fun k hk => (hn_54 _ (by omega)).trans (hn_33.2.2.1 k hk)), he_53⟩
        have hc_56 : vCol cy B g_52 cb sets n cver T X V Wy := vCol_fr hc_34 (fun q h1 h2 => hn_54 q (by omega))
        have hfr_57 : ∀ q, (q < b ∨ b + 11 ≤ q) → g_52 q = g q := fun q hq => (hn_54 q (by omega)).trans (hfr_35 q hq)
        refine w_iinc 1 [(1, .int (zI ((((m : Nat) : Int) - 1) + (-1)))), (0, .ref (B + b))] dX2_refresh_98 rfl (by decide) rfl ?_
        refine w_goto 71 dX2_refresh_101 (by decide) ?_
        refine w_sub [(0, .ref (B + b)), (1, .int (zI ((((m : Nat) : Int) - 1) + (-1))))] [1, 0] rfl ?_
        refine w_lv (lv' := [(0, .ref (B + b)), (1, .int (zI ((((m - 1) : Nat) : Int) - 1)))]) (lc_s (lc_i (by first | omega | with_reducible rfl) rfl)) ?_
        exact ih_71 (m - 1) (uZ tfm (((m : Nat) : Int) - 1) ((tfm ((((m : Nat) : Int) - 1) + 1)) + (inA n T (((m : Nat) : Int) - 1)))) g_52 ⟨hn_55, hc_56, hfr_57, (by first | omega | with_reducible rfl), (tf_step hok (by omega) hm hti)⟩ (by first | omega | with_reducible rfl)
    · refine w_aload_n dX2_refresh_45 rfl 0 rfl ?_
      refine w_get (i := 1) (T := TX2) (NF := 5) b (by first | omega | with_reducible rfl) hn_20.1 rfl (fun _ h => (List.mem_cons_of_mem _ (List.mem_append_left _ (List.mem_append_right _ h)))) (by decide) (List.mem_of_getElem? (i := 4) rfl) rfl dX2_refresh_46 ?_
      refine w_iload_n dX2_refresh_49 rfl 1 rfl ?_
      refine w_aald (j := k) (k' := (b + (k + 2))) (b + 1) (by first | omega | with_reducible rfl) hn_20.2.1 rfl rfl (by first | omega | with_reducible rfl) (by first | omega | with_reducible rfl) (by first | omega | with_reducible rfl) dX2_refresh_50 ?_
      refine w_lconst0 dX2_refresh_51 ?_
      refine w_callvS (As := [.ref (B + (b + (k + 2))), .long (zJ 0)]) (rest := []) (n := 2) (c_J7_fill_d0a16 (hn_20.2.2.1 k (by first | omega | with_reducible rfl)) (by first | omega | with_reducible rfl) (by first | omega | with_reducible rfl)) gX2_refresh_J7_fill_d0a16 rfl rfl rfl (by decide +kernel) ⟨Nat.le_of_ble_eq_true rfl, Nat.le_of_ble_eq_true rfl⟩ rfl (Nat.le_of_ble_eq_true rfl) ⟨Nat.zero_le _, Nat.zero_le _⟩ dX2_refresh_52 rfl (fun g_58 hp_59 => ?_)
      obtain ⟨W1_60, fi_61, hfl_52, hf_62⟩ := hp_59
      have hq_63 : ∀ q, q ≠ (b + (k + 2)) → g_58 q = gl_19 q := fun q h9 => hf_62 q (by omega)
      have hn_64 : vNet cy B g_58 b cb tf ((R : Nat) : Int) cver (uF Gk k W1_60) := ⟨((hq_63 _ (by omega)).trans hn_20.1), ((hq_63 _ (by omega)).trans hn_20.2.1), (fam_put (F := fun z9 => cJ (cy 2) 366 z9) (P := Gk) (b := b) (o := 2) hn_20.2.2.1 fi_61 hq_63), ((hq_63 _ (by omega)).trans hn_20.2.2.2)⟩
      have hc_65 : vCol cy B g_58 cb sets n cver T X V Wy := vCol_fr hc_21 (fun q h1 h2 => hq_63 q (by omega))
      have hfr_66 : ∀ q, (q < b ∨ b + 11 ≤ q) → g_58 q = g q := fun q hq => (hq_63 q (by omega)).trans (hfr_22 q hq)
      refine w_iinc 1 [(1, .int (zI (((k : Nat) : Int) + 1))), (0, .ref (B + b))] dX2_refresh_55 rfl (by decide) rfl ?_
      refine w_goto 39 dX2_refresh_58 (by decide) ?_
      refine w_sub [(0, .ref (B + b)), (1, .int (zI (((k : Nat) : Int) + 1)))] [1, 0] rfl ?_
      refine w_lv (lv' := [(0, .ref (B + b)), (1, .int (zI (((k + 1) : Nat) : Int)))]) (lc_s (lc_i (by first | omega | with_reducible rfl) rfl)) ?_
      exact ih_39 (k + 1) (uF Gk k W1_60) g_58 ⟨hn_64, hc_65, hfr_66, (by first | omega | with_reducible rfl), (fill_k hzk hfl_52)⟩ (by first | omega | with_reducible rfl)
  · obtain ⟨h01, h02, h03⟩ := h0 c_11
    exact w_vret dX2_refresh_14 rfl ⟨tf, G, (by have h9 := hn; rw [h01, c_11] at h9; exact h9), h02, h03, hfr_0⟩
