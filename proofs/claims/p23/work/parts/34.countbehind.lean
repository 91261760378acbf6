/-! ===== Net.countBehind ===== -/
set_option maxHeartbeats 8000000 in
set_option maxRecDepth 100000 in
theorem c_X2_countBehind {l : Launch} {D : va_G} {cy : Nat → ClassId} {B N : Nat} {g : Nat → va_E} {b cb : Nat} {tf : Int → Int} {ver : Int} {G : Nat → Int → Int} {sets n R : Nat} {cver : Int} {T X V : Int → Int} {Wy : Nat → Int → Int} (hn : vNet cy B g b cb tf ((R : Nat) : Int) ver G) (hc : vCol cy B g cb sets n cver T X V Wy) (hB : b + 11 ≤ N) (hN : cb + 10 ≤ N) (hdis : cb + 10 ≤ b ∨ b + 11 ≤ cb) (hok : okT T V n) (hR : R ≤ 60) (hRt : R ≤ tsum (clL T V 0 n)) (htf : ∀ j : Nat, j ≤ 5 → tf ((j : Nat) : Int) = ((tsum (clL T V j (n - j)) : Nat) : Int)) (hWy : ∀ j : Nat, j < n → ∀ x : Nat, x ≤ 12 → Wy j ((x : Nat) : Int) = ((ch (T ((j : Nat) : Int)).toNat x : Nat) : Int)) (hz : ∀ kd : Nat, kd < 8 → ∀ i : Int, 0 ≤ i → i < 366 → G kd i = 0) : CTv l yX2_countBehind wsX2_countBehind (rmo 3 94) D cy B N g [.ref (B + b)] (fun g' => ∃ G1 : Nat → Int → Int, vNet cy B g' b cb tf ((R : Nat) : Int) ver G1 ∧ (NBr T V n R G1 0) ∧ (Z0 G1) ∧ (∀ q, (q < b ∨ b + 11 ≤ q) → g' q = g q)) := by
  refine WW_of (cc := cX2_countBehind) (maxL := 5) (ret := none) (own := RX2) (by decide) rfl rfl (Nat.le_of_ble_eq_true rfl) rfl ?_
  intro pp ee ss mm bl me co hmn
  have hfr_0 : ∀ q, (q < b ∨ b + 11 ≤ q) → g q = g q := fun _ _ => rfl
  have hn5 : n ≤ 5 := hok.1
  have htfr : ∀ i : Int, 0 ≤ i → i ≤ 5 → 0 ≤ tf i ∧ tf i ≤ 60 := fun i h1 h2 => by
    obtain ⟨k, rfl⟩ := Int.eq_ofNat_of_zero_le h1
    have h3 := htf k (by omega)
    by_cases hk : k ≤ n
    · have h4 := okT_ts hok (m := n - k) (j := k) (by omega)
      omega
    · rw [show n - k = 0 by omega] at h3
      rw [clL, tsum] at h3
      omega
  refine w_aload_n dX2_countBehind_0 rfl 0 rfl ?_
  refine w_get (i := 0) (T := TX2) (NF := 5) b (by first | omega | with_reducible rfl) hn.1 rfl (fun _ h => (List.mem_cons_of_mem _ (List.mem_append_left _ (List.mem_append_right _ h)))) (by decide) (List.mem_of_getElem? (i := 1) rfl) rfl dX2_countBehind_1 ?_
  refine w_calli (As := []) (rest := []) (n := 0) (c_X0_size hc (by first | omega | with_reducible rfl)) gX2_countBehind_X0_size rfl rfl rfl (by decide +kernel) ⟨Nat.le_of_ble_eq_true rfl, Nat.le_of_ble_eq_true rfl⟩ rfl (by first | omega | with_reducible rfl) hc.1 rfl (Nat.le_of_ble_eq_true rfl) ⟨Nat.zero_le _, Nat.zero_le _⟩ dX2_countBehind_4 rfl (fun g_1 hp_2 => ?_)
  subst g_1
  refine w_istore_n [(1, .int (zI ((n : Nat) : Int))), (0, .ref (B + b))] dX2_countBehind_7 rfl (by decide) rfl ?_
  refine w_aload_n dX2_countBehind_8 rfl 1 rfl ?_
  refine w_iconst dX2_countBehind_9 ?_
  refine w_iload_n dX2_countBehind_10 rfl 0 rfl ?_
  refine w_aload_n dX2_countBehind_11 rfl 1 rfl ?_
  refine w_get (i := 3) (T := TX2) (NF := 5) b (by first | omega | with_reducible rfl) hn.1 rfl (fun _ h => (List.mem_cons_of_mem _ (List.mem_append_left _ (List.mem_append_right _ h)))) (by decide) (List.mem_of_getElem? (i := 2) rfl) rfl dX2_countBehind_12 ?_
  refine w_lconst1 dX2_countBehind_15 ?_
  refine w_callv (As := [.int (zI 1), .int (zI ((n : Nat) : Int)), .int (zI ((R : Nat) : Int)), .long (zJ 1)]) (rest := []) (n := 4) (c_X2_put (kn := 1) hn (by first | omega | with_reducible rfl) (by first | omega | with_reducible rfl) (by first | omega | with_reducible rfl) (by first | omega | with_reducible rfl)) gX2_countBehind_X2_put rfl rfl rfl (by decide +kernel) ⟨Nat.le_of_ble_eq_true rfl, Nat.le_of_ble_eq_true rfl⟩ rfl (by first | omega | with_reducible rfl) hn.1 rfl (Nat.le_of_ble_eq_true rfl) ⟨Nat.zero_le _, Nat.zero_le _⟩ dX2_countBehind_16 rfl (fun g_3 hp_4 => ?_)
  obtain ⟨hn_5, hf_6⟩ := hp_4
  have hc_7 : vCol cy B g_3 cb sets n cver T X V Wy := vCol_fr hc (fun q h1 h2 => hf_6 q (by omega))
  have hfr_8 : ∀ q, (q < b ∨ b + 11 ≤ q) → g_3 q = g q := fun q hq => (hf_6 q (by omega)).trans (hfr_0 q hq)
  refine w_aload_n dX2_countBehind_19 rfl 1 rfl ?_
  refine w_iconst dX2_countBehind_20 ?_
  refine w_iload_n dX2_countBehind_21 rfl 0 rfl ?_
  refine w_aload_n dX2_countBehind_22 rfl 1 rfl ?_
  refine w_get (i := 3) (T := TX2) (NF := 5) b (by first | omega | with_reducible rfl) hn_5.1 rfl (fun _ h => (List.mem_cons_of_mem _ (List.mem_append_left _ (List.mem_append_right _ h)))) (by decide) (List.mem_of_getElem? (i := 2) rfl) rfl dX2_countBehind_23 ?_
  refine w_lconst1 dX2_countBehind_26 ?_
  refine w_callv (As := [.int (zI 2), .int (zI ((n : Nat) : Int)), .int (zI ((R : Nat) : Int)), .long (zJ 1)]) (rest := []) (n := 4) (c_X2_put (kn := 2) hn_5 (by first | omega | with_reducible rfl) (by first | omega | with_reducible rfl) (by first | omega | with_reducible rfl) (by first | omega | with_reducible rfl)) gX2_countBehind_X2_put rfl rfl rfl (by decide +kernel) ⟨Nat.le_of_ble_eq_true rfl, Nat.le_of_ble_eq_true rfl⟩ rfl (by first | omega | with_reducible rfl) hn_5.1 rfl (Nat.le_of_ble_eq_true rfl) ⟨Nat.zero_le _, Nat.zero_le _⟩ dX2_countBehind_27 rfl (fun g_9 hp_10 => ?_)
  obtain ⟨hn_11, hf_12⟩ := hp_10
  have hc_13 : vCol cy B g_9 cb sets n cver T X V Wy := vCol_fr hc_7 (fun q h1 h2 => hf_12 q (by omega))
  have hfr_14 : ∀ q, (q < b ∨ b + 11 ≤ q) → g_9 q = g q := fun q hq => (hf_12 q (by omega)).trans (hfr_8 q hq)
  refine w_aload_n dX2_countBehind_30 rfl 1 rfl ?_
  refine w_iconst dX2_countBehind_31 ?_
  refine w_iload_n dX2_countBehind_32 rfl 0 rfl ?_
  refine w_aload_n dX2_countBehind_33 rfl 1 rfl ?_
  refine w_get (i := 3) (T := TX2) (NF := 5) b (by first | omega | with_reducible rfl) hn_11.1 rfl (fun _ h => (List.mem_cons_of_mem _ (List.mem_append_left _ (List.mem_append_right _ h)))) (by decide) (List.mem_of_getElem? (i := 2) rfl) rfl dX2_countBehind_34 ?_
  refine w_lconst1 dX2_countBehind_37 ?_
  refine w_callv (As := [.int (zI 3), .int (zI ((n : Nat) : Int)), .int (zI ((R : Nat) : Int)), .long (zJ 1)]) (rest := []) (n := 4) (c_X2_put (kn := 3) hn_11 (by first | omega | with_reducible rfl) (by first | omega | with_reducible rfl) (by first | omega | with_reducible rfl) (by first | omega | with_reducible rfl)) gX2_countBehind_X2_put rfl rfl rfl (by decide +kernel) ⟨Nat.le_of_ble_eq_true rfl, Nat.le_of_ble_eq_true rfl⟩ rfl (by first | omega | with_reducible rfl) hn_11.1 rfl (Nat.le_of_ble_eq_true rfl) ⟨Nat.zero_le _, Nat.zero_le _⟩ dX2_countBehind_38 rfl (fun g_15 hp_16 => ?_)
  obtain ⟨hn_17, hf_18⟩ := hp_16
  have hc_19 : vCol cy B g_15 cb sets n cver T X V Wy := vCol_fr hc_13 (fun q h1 h2 => hf_18 q (by omega))
  have hfr_20 : ∀ q, (q < b ∨ b + 11 ≤ q) → g_15 q = g q := fun q hq => (hf_18 q (by omega)).trans (hfr_14 q hq)
  refine w_aload_n dX2_countBehind_41 rfl 1 rfl ?_
  refine w_iconst dX2_countBehind_42 ?_
  refine w_iload_n dX2_countBehind_43 rfl 0 rfl ?_
  refine w_aload_n dX2_countBehind_44 rfl 1 rfl ?_
  refine w_get (i := 3) (T := TX2) (NF := 5) b (by first | omega | with_reducible rfl) hn_17.1 rfl (fun _ h => (List.mem_cons_of_mem _ (List.mem_append_left _ (List.mem_append_right _ h)))) (by decide) (List.mem_of_getElem? (i := 2) rfl) rfl dX2_countBehind_45 ?_
  refine w_lconst1 dX2_countBehind_48 ?_
  refine w_callv (As := [.int (zI 4), .int (zI ((n : Nat) : Int)), .int (zI ((R : Nat) : Int)), .long (zJ 1)]) (rest := []) (n := 4) (c_X2_put (kn := 4) hn_17 (by first | omega | with_reducible rfl) (by first | omega | with_reducible rfl) (by first | omega | with_reducible rfl) (by first | omega | with_reducible rfl)) gX2_countBehind_X2_put rfl rfl rfl (by decide +kernel) ⟨Nat.le_of_ble_eq_true rfl, Nat.le_of_ble_eq_true rfl⟩ rfl (by first | omega | with_reducible rfl) hn_17.1 rfl (Nat.le_of_ble_eq_true rfl) ⟨Nat.zero_le _, Nat.zero_le _⟩ dX2_countBehind_49 rfl (fun g_21 hp_22 => ?_)
  obtain ⟨hn_23, hf_24⟩ := hp_22
  have hc_25 : vCol cy B g_21 cb sets n cver T X V Wy := vCol_fr hc_19 (fun q h1 h2 => hf_24 q (by omega))
  have hfr_26 : ∀ q, (q < b ∨ b + 11 ≤ q) → g_21 q = g q := fun q hq => (hf_24 q (by omega)).trans (hfr_20 q hq)
  have hst := NBr_start (G := G) hn5 hR hRt hz
  have hsz : Z0 (pG (pG (pG (pG G 1 (((n : Nat) : Int) * 61 + ((R : Nat) : Int)) 1) 2 (((n : Nat) : Int) * 61 + ((R : Nat) : Int)) 1) 3 (((n : Nat) : Int) * 61 + ((R : Nat) : Int)) 1) 4 (((n : Nat) : Int) * 61 + ((R : Nat) : Int)) 1) := Z0_pG (by decide) (Z0_pG (by decide) (Z0_pG (by decide) (Z0_pG (by decide) (hz 0 (by omega)))))
  refine w_iload_n dX2_countBehind_52 rfl 0 rfl ?_
  refine w_iconst dX2_countBehind_53 ?_
  refine w_isub dX2_countBehind_54 ?_
  refine w_istore_n [(2, .int (zI (((n : Nat) : Int) - 1))), (1, .int (zI ((n : Nat) : Int))), (0, .ref (B + b))] dX2_countBehind_55 rfl (by decide) rfl ?_
  refine w_sub [(0, .ref (B + b)), (1, .int (zI ((n : Nat) : Int))), (2, .int (zI (((n : Nat) : Int) - 1)))] [2, 1, 0] rfl ?_
  refine w_lv (lv' := [(0, .ref (B + b)), (1, .int (zI ((n : Nat) : Int))), (2, .int (zI (((n : Nat) : Int) - 1)))]) (lc_s (lc_s (lc_i (by first | omega | with_reducible rfl) rfl))) ?_
  refine w_loop3 (fun (m : Nat) (Gm : Nat → Int → Int) (gl_27 : (Nat → va_E)) => vNet cy B gl_27 b cb tf ((R : Nat) : Int) ver Gm ∧ vCol cy B gl_27 cb sets n cver T X V Wy ∧ (∀ q, (q < b ∨ b + 11 ≤ q) → gl_27 q = g q) ∧ m ≤ n ∧ NBr T V n R Gm m ∧ Z0 Gm) (fun (m : Nat) (Gm : Nat → Int → Int) (gl_27 : (Nat → va_E)) => m) (fun (m : Nat) (Gm : Nat → Int → Int) (gl_27 : (Nat → va_E)) => gl_27) (fun (m : Nat) (Gm : Nat → Int → Int) (gl_27 : (Nat → va_E)) => [(0, .ref (B + b)), (1, .int (zI ((n : Nat) : Int))), (2, .int (zI (((m : Nat) : Int) - 1)))]) ?_ n (pG (pG (pG (pG G 1 (((n : Nat) : Int) * 61 + ((R : Nat) : Int)) 1) 2 (((n : Nat) : Int) * 61 + ((R : Nat) : Int)) 1) 3 (((n : Nat) : Int) * 61 + ((R : Nat) : Int)) 1) 4 (((n : Nat) : Int) * 61 + ((R : Nat) : Int)) 1) g_21 ⟨hn_23, hc_25, hfr_26, (by first | omega | with_reducible rfl), hst, hsz⟩
  rintro m Gm gl_27 ⟨hn_28, hc_29, hfr_30, hm, hb, hzm⟩ ih_56
  refine w_iload_n dX2_countBehind_56 rfl 2 rfl ?_
  refine w_if_lt 147 dX2_countBehind_57 (by decide) (by first | omega | with_reducible rfl) (fun c_57 => ?_) (fun c_57 => ?_)
  · exact w_vret dX2_countBehind_147 rfl ⟨Gm, hn_28, (by rw [show m = 0 by omega] at hb; exact hb), hzm, hfr_30⟩
  · refine w_lv (lv' := [(0, .ref (B + b)), (1, .int (zI ((n : Nat) : Int))), (2, .int (zI (((m - 1) : Nat) : Int)))]) (lc_s (lc_s (lc_i (by first | omega | with_reducible rfl) rfl))) ?_
    refine w_iload_n dX2_countBehind_60 rfl 2 rfl ?_
    refine w_iconst dX2_countBehind_61 ?_
    refine w_icmp_gt 147 dX2_countBehind_62 (by decide) (by first | omega | with_reducible rfl) (by first | omega | with_reducible rfl) (fun c_62 => ?_) (fun c_62 => ?_)
    · exfalso; omega
    · have hsl0 := okT_ts hok (m := m - 1) (j := 0) (by omega)
      have hq1 := hok.2 (((m - 1) : Nat) : Int) (by omega) (by omega)
      have ht0 : tf 0 = ((tsum (clL T V 0 n) : Nat) : Int) := htf 0 (by omega)
      have ht1 := htf (m - 1) (by omega)
      have ht2 := ts_all T V (n := n) (j := (m - 1)) (by omega)
      have ht3 : tf ((((m - 1) : Nat) : Int) + 1) = ((tsum (clL T V (m - 1 + 1) (n - (m - 1 + 1))) : Nat) : Int) := htf (m - 1 + 1) (by omega)
      have hcl := clL_c (T := T) (V := V) (j := (m - 1)) (n := n) (by omega)
      have hts9 : tsum (clL T V (m - 1) (n - (m - 1))) = (T (((m - 1) : Nat) : Int)).toNat + tsum (clL T V (m - 1 + 1) (n - (m - 1 + 1))) := by rw [hcl]; rfl
      have hb1 : NBr T V n R Gm (m - 1 + 1) := by rw [show m - 1 + 1 = m by omega]; exact hb
      have hsl := okT_ts hok (m := n - (m - 1 + 1)) (j := m - 1 + 1) (by omega)
      have hso := okT_S hok (m := n - (m - 1 + 1)) (j := m - 1 + 1) (by omega)
      refine w_aload_n dX2_countBehind_65 rfl 0 rfl ?_
      refine w_get (i := 2) (T := TX2) (NF := 5) b (by first | omega | with_reducible rfl) hn_28.1 rfl (fun _ h => (List.mem_cons_of_mem _ (List.mem_append_left _ (List.mem_append_right _ h)))) (by decide) (List.mem_of_getElem? (i := 3) rfl) rfl dX2_countBehind_66 ?_
      refine w_iconst dX2_countBehind_69 ?_
      refine w_iald (b + 10) (by first | omega | with_reducible rfl) hn_28.2.2.2 (by first | omega | with_reducible rfl) dX2_countBehind_70 ?_
      refine w_aload_n dX2_countBehind_71 rfl 0 rfl ?_
      refine w_get (i := 2) (T := TX2) (NF := 5) b (by first | omega | with_reducible rfl) hn_28.1 rfl (fun _ h => (List.mem_cons_of_mem _ (List.mem_append_left _ (List.mem_append_right _ h)))) (by decide) (List.mem_of_getElem? (i := 3) rfl) rfl dX2_countBehind_72 ?_
      refine w_iload_n dX2_countBehind_75 rfl 2 rfl ?_
      refine w_iald (b + 10) (by first | omega | with_reducible rfl) hn_28.2.2.2 (by first | omega | with_reducible rfl) dX2_countBehind_76 ?_
      refine w_isub dX2_countBehind_77 ?_
      refine w_as (st' := [.int (zI ((tsum (clL T V 0 (m - 1)) : Nat) : Int))]) (sc_i (by omega) rfl) ?_
      refine w_istore_n [(3, .int (zI ((tsum (clL T V 0 (m - 1)) : Nat) : Int))), (0, .ref (B + b)), (1, .int (zI ((n : Nat) : Int))), (2, .int (zI (((m - 1) : Nat) : Int)))] dX2_countBehind_78 rfl (by decide) rfl ?_
      refine w_iconst dX2_countBehind_79 ?_
      refine w_istore [(4, .int (zI 0)), (3, .int (zI ((tsum (clL T V 0 (m - 1)) : Nat) : Int))), (0, .ref (B + b)), (1, .int (zI ((n : Nat) : Int))), (2, .int (zI (((m - 1) : Nat) : Int)))] dX2_countBehind_80 (by decide) rfl ?_
      refine w_sub [(0, .ref (B + b)), (1, .int (zI ((n : Nat) : Int))), (2, .int (zI (((m - 1) : Nat) : Int))), (3, .int (zI ((tsum (clL T V 0 (m - 1)) : Nat) : Int))), (4, .int (zI 0))] [2, 3, 4, 1, 0] rfl ?_
      refine w_lv (lv' := [(0, .ref (B + b)), (1, .int (zI ((n : Nat) : Int))), (2, .int (zI (((m - 1) : Nat) : Int))), (3, .int (zI ((tsum (clL T V 0 (m - 1)) : Nat) : Int))), (4, .int (zI ((0 : Nat) : Int)))]) (lc_s (lc_s (lc_s (lc_s (lc_i (by first | omega | with_reducible rfl) rfl))))) ?_
      refine w_loop3 (fun (a : Nat) (Ga : Nat → Int → Int) (gl_31 : (Nat → va_E)) => vNet cy B gl_31 b cb tf ((R : Nat) : Int) ver Ga ∧ vCol cy B gl_31 cb sets n cver T X V Wy ∧ (∀ q, (q < b ∨ b + 11 ≤ q) → gl_31 q = g q) ∧ a ≤ R + 1 ∧ NBi T V n R Ga (m - 1) a ∧ Z0 Ga) (fun (a : Nat) (Ga : Nat → Int → Int) (gl_31 : (Nat → va_E)) => R + 1 - a) (fun (a : Nat) (Ga : Nat → Int → Int) (gl_31 : (Nat → va_E)) => gl_31) (fun (a : Nat) (Ga : Nat → Int → Int) (gl_31 : (Nat → va_E)) => [(0, .ref (B + b)), (1, .int (zI ((n : Nat) : Int))), (2, .int (zI (((m - 1) : Nat) : Int))), (3, .int (zI ((tsum (clL T V 0 (m - 1)) : Nat) : Int))), (4, .int (zI ((a : Nat) : Int)))]) ?_ 0 Gm gl_27 ⟨hn_28, hc_29, hfr_30, (by first | omega | with_reducible rfl), (NBi_0 hb1), hzm⟩
      rintro a Ga gl_31 ⟨hn_32, hc_33, hfr_34, ha, hi, hza⟩ ih_82
      refine w_iload dX2_countBehind_82 4 rfl ?_
      refine w_iload_n dX2_countBehind_84 rfl 3 rfl ?_
      refine w_icmp_gt 141 dX2_countBehind_85 (by decide) (by first | omega | with_reducible rfl) (by first | omega | with_reducible rfl) (fun c_85 => ?_) (fun c_85 => ?_)
      · refine w_iinc 2 [(2, .int (zI ((((m - 1) : Nat) : Int) + (-1)))), (0, .ref (B + b)), (1, .int (zI ((n : Nat) : Int))), (3, .int (zI ((tsum (clL T V 0 (m - 1)) : Nat) : Int))), (4, .int (zI ((a : Nat) : Int)))] dX2_countBehind_141 rfl (by decide) rfl ?_
        refine w_goto 56 dX2_countBehind_144 (by decide) ?_
        refine w_sub [(0, .ref (B + b)), (1, .int (zI ((n : Nat) : Int))), (2, .int (zI ((((m - 1) : Nat) : Int) + (-1))))] [1, 2, 0] rfl ?_
        refine w_lv (lv' := [(0, .ref (B + b)), (1, .int (zI ((n : Nat) : Int))), (2, .int (zI ((((m - 1) : Nat) : Int) - 1)))]) (lc_s (lc_s (lc_i (by first | omega | with_reducible rfl) rfl))) ?_
        exact ih_56 (m - 1) Ga gl_31 ⟨hn_32, hc_33, hfr_34, (by first | omega | with_reducible rfl), (NBi_end hi (by omega) (fun a9 h1 h2 => by obtain ⟨t1, t2, t3, t4⟩ := h2; omega)), hza⟩ (by first | omega | with_reducible rfl)
      · refine w_iload dX2_countBehind_88 4 rfl ?_
        refine w_aload_n dX2_countBehind_90 rfl 0 rfl ?_
        refine w_get (i := 3) (T := TX2) (NF := 5) b (by first | omega | with_reducible rfl) hn_32.1 rfl (fun _ h => (List.mem_cons_of_mem _ (List.mem_append_left _ (List.mem_append_right _ h)))) (by decide) (List.mem_of_getElem? (i := 2) rfl) rfl dX2_countBehind_91 ?_
        refine w_icmp_gt 141 dX2_countBehind_94 (by decide) (by first | omega | with_reducible rfl) (by first | omega | with_reducible rfl) (fun c_94 => ?_) (fun c_94 => ?_)
        · refine w_iinc 2 [(2, .int (zI ((((m - 1) : Nat) : Int) + (-1)))), (0, .ref (B + b)), (1, .int (zI ((n : Nat) : Int))), (3, .int (zI ((tsum (clL T V 0 (m - 1)) : Nat) : Int))), (4, .int (zI ((a : Nat) : Int)))] dX2_countBehind_141 rfl (by decide) rfl ?_
          refine w_goto 56 dX2_countBehind_144 (by decide) ?_
          refine w_sub [(0, .ref (B + b)), (1, .int (zI ((n : Nat) : Int))), (2, .int (zI ((((m - 1) : Nat) : Int) + (-1))))] [1, 2, 0] rfl ?_
          refine w_lv (lv' := [(0, .ref (B + b)), (1, .int (zI ((n : Nat) : Int))), (2, .int (zI ((((m - 1) : Nat) : Int) - 1)))]) (lc_s (lc_s (lc_i (by first | omega | with_reducible rfl) rfl))) ?_
          exact ih_56 (m - 1) Ga gl_31 ⟨hn_32, hc_33, hfr_34, (by first | omega | with_reducible rfl), (NBi_end hi (by omega) (fun a9 h1 h2 => by obtain ⟨t1, t2, t3, t4⟩ := h2; omega)), hza⟩ (by first | omega | with_reducible rfl)
        · refine w_aload_n dX2_countBehind_97 rfl 0 rfl ?_
          refine w_iload_n dX2_countBehind_98 rfl 2 rfl ?_
          refine w_iload dX2_countBehind_99 4 rfl ?_
          refine w_calli (As := [.int (zI (((m - 1) : Nat) : Int)), .int (zI ((a : Nat) : Int))]) (rest := []) (n := 2) (c_X2_fewest hn_32 (by first | omega | with_reducible rfl) (by omega) htfr (by first | omega | with_reducible rfl) (by first | omega | with_reducible rfl)) gX2_countBehind_X2_fewest rfl rfl rfl (by decide +kernel) ⟨Nat.le_of_ble_eq_true rfl, Nat.le_of_ble_eq_true rfl⟩ rfl (by first | omega | with_reducible rfl) hn_32.1 rfl (Nat.le_of_ble_eq_true rfl) ⟨Nat.zero_le _, Nat.zero_le _⟩ dX2_countBehind_101 rfl (fun g_35 hp_36 => ?_)
          subst g_35
          refine w_as (st' := [.int (zI ((lo (clL T V (m - 1 + 1) (n - (m - 1 + 1))) (R - a) : Nat) : Int))]) (sc_i (by rw [ht3]; unfold lo; omega) rfl) ?_
          refine w_aload_n dX2_countBehind_104 rfl 0 rfl ?_
          refine w_iload_n dX2_countBehind_105 rfl 2 rfl ?_
          refine w_iload dX2_countBehind_106 4 rfl ?_
          refine w_calli (As := [.int (zI (((m - 1) : Nat) : Int)), .int (zI ((a : Nat) : Int))]) (rest := [.int (zI ((lo (clL T V (m - 1 + 1) (n - (m - 1 + 1))) (R - a) : Nat) : Int))]) (n := 2) (c_X2_most hn_32 hc_33 (by first | omega | with_reducible rfl) (by first | omega | with_reducible rfl) hn5 (by omega) (by first | omega | with_reducible rfl) (by first | omega | with_reducible rfl) (by first | omega | with_reducible rfl)) gX2_countBehind_X2_most rfl rfl rfl (by decide +kernel) ⟨Nat.le_of_ble_eq_true rfl, Nat.le_of_ble_eq_true rfl⟩ rfl (by first | omega | with_reducible rfl) hn_32.1 rfl (Nat.le_of_ble_eq_true rfl) ⟨Nat.zero_le _, Nat.zero_le _⟩ dX2_countBehind_108 rfl (fun g_37 hp_38 => ?_)
          subst g_37
          refine w_as (st' := [.int (zI ((min (T (((m - 1) : Nat) : Int)).toNat (R - a) : Nat) : Int)), .int (zI ((lo (clL T V (m - 1 + 1) (n - (m - 1 + 1))) (R - a) : Nat) : Int))]) (sc_i (by omega) rfl) ?_
          refine w_icmp_gt 135 dX2_countBehind_111 (by decide) (by unfold lo; omega) (by first | omega | with_reducible rfl) (fun c_111 => ?_) (fun c_111 => ?_)
          · refine w_iinc 4 [(4, .int (zI (((a : Nat) : Int) + 1))), (0, .ref (B + b)), (1, .int (zI ((n : Nat) : Int))), (2, .int (zI (((m - 1) : Nat) : Int))), (3, .int (zI ((tsum (clL T V 0 (m - 1)) : Nat) : Int)))] dX2_countBehind_135 rfl (by decide) rfl ?_
            refine w_goto 82 dX2_countBehind_138 (by decide) ?_
            refine w_sub [(0, .ref (B + b)), (1, .int (zI ((n : Nat) : Int))), (2, .int (zI (((m - 1) : Nat) : Int))), (3, .int (zI ((tsum (clL T V 0 (m - 1)) : Nat) : Int))), (4, .int (zI (((a : Nat) : Int) + 1)))] [1, 2, 3, 4, 0] rfl ?_
            refine w_lv (lv' := [(0, .ref (B + b)), (1, .int (zI ((n : Nat) : Int))), (2, .int (zI (((m - 1) : Nat) : Int))), (3, .int (zI ((tsum (clL T V 0 (m - 1)) : Nat) : Int))), (4, .int (zI (((a + 1) : Nat) : Int)))]) (lc_s (lc_s (lc_s (lc_s (lc_i (by first | omega | with_reducible rfl) rfl))))) ?_
            exact ih_82 (a + 1) Ga gl_31 ⟨hn_32, hc_33, hfr_34, (by first | omega | with_reducible rfl), (NBi_skip hi (fun h2 => by obtain ⟨t1, t2, t3, t4⟩ := h2; unfold lo at c_111; omega)), hza⟩ (by first | omega | with_reducible rfl)
          · have htr : R - a ≤ (T (((m - 1) : Nat) : Int)).toNat + tsum (clL T V (m - 1 + 1) (n - (m - 1 + 1))) := by unfold lo at c_111; omega
            have hth : thr T V n R (m - 1) a := ⟨by omega, by omega, by omega, by omega⟩
            have hc1 : T (((m - 1) : Nat) : Int) = ((((T (((m - 1) : Nat) : Int)).toNat, (V (((m - 1) : Nat) : Int)).toNat).1 : Nat) : Int) := by show T (((m - 1) : Nat) : Int) = (((T (((m - 1) : Nat) : Int)).toNat : Nat) : Int); omega
            have hc12 : ((T (((m - 1) : Nat) : Int)).toNat, (V (((m - 1) : Nat) : Int)).toNat).1 ≤ 12 := by show (T (((m - 1) : Nat) : Int)).toNat ≤ 12; omega
            have hv1 : V (((m - 1) : Nat) : Int) = ((((T (((m - 1) : Nat) : Int)).toNat, (V (((m - 1) : Nat) : Int)).toNat).2 : Nat) : Int) := by show V (((m - 1) : Nat) : Int) = (((V (((m - 1) : Nat) : Int)).toNat : Nat) : Int); omega
            have hv9 : ((T (((m - 1) : Nat) : Int)).toNat, (V (((m - 1) : Nat) : Int)).toNat).2 ≤ 9 := by show (V (((m - 1) : Nat) : Int)).toNat ≤ 9; omega
            have hs60 : ((T (((m - 1) : Nat) : Int)).toNat, (V (((m - 1) : Nat) : Int)).toNat).1 + tsum (clL T V (m - 1 + 1) (n - (m - 1 + 1))) ≤ 60 := by show (T (((m - 1) : Nat) : Int)).toNat + _ ≤ 60; omega
            refine w_aload_n dX2_countBehind_114 rfl 0 rfl ?_
            refine w_iload_n dX2_countBehind_115 rfl 2 rfl ?_
            refine w_iload dX2_countBehind_116 4 rfl ?_
            refine w_callv (As := [.int (zI (((m - 1) : Nat) : Int)), .int (zI ((a : Nat) : Int))]) (rest := []) (n := 2) (c_X2_weighBehind (j := (m - 1)) (a := a) (c := ((T (((m - 1) : Nat) : Int)).toNat, (V (((m - 1) : Nat) : Int)).toNat)) (cs := (clL T V (m - 1 + 1) (n - (m - 1 + 1)))) (r := (R - a)) hn_32 hc_33 (by first | omega | with_reducible rfl) (by first | omega | with_reducible rfl) (by first | omega | with_reducible rfl) (by omega) (by omega) (by omega) hc1 hc12 ht3 (by omega) htr htfr (by first | omega | with_reducible rfl) (hWy _ (by omega)) (fun x h1 h2 h3 => by exact NBi_row (kd := 1) hi (by omega) hn5 hR (by omega) (by omega) hth h1 h2 h3) (fun x h1 h2 h3 => by exact NBi_row (kd := 2) hi (by omega) hn5 hR (by omega) (by omega) hth h1 h2 h3) (fun x h1 h2 h3 => by exact NBi_row (kd := 3) hi (by omega) hn5 hR (by omega) (by omega) hth h1 h2 h3) (fun x h1 h2 h3 => fL_rg hs60) (fun x h1 h2 h3 => fS_rg hs60 (by unfold lo at h1; omega))) gX2_countBehind_X2_weighBehind rfl rfl rfl (by decide +kernel) ⟨Nat.le_of_ble_eq_true rfl, Nat.le_of_ble_eq_true rfl⟩ rfl (by first | omega | with_reducible rfl) hn_32.1 rfl (Nat.le_of_ble_eq_true rfl) ⟨Nat.zero_le _, Nat.zero_le _⟩ dX2_countBehind_118 rfl (fun g_39 hp_40 => ?_)
            obtain ⟨hn_41, hf_42⟩ := hp_40
            have hc_43 : vCol cy B g_39 cb sets n cver T X V Wy := vCol_fr hc_33 (fun q h1 h2 => hf_42 q (by omega))
            have hfr_44 : ∀ q, (q < b ∨ b + 11 ≤ q) → g_39 q = g q := fun q hq => (hf_42 q (by omega)).trans (hfr_34 q hq)
            refine w_aload_n dX2_countBehind_121 rfl 0 rfl ?_
            refine w_iload_n dX2_countBehind_122 rfl 2 rfl ?_
            refine w_iload dX2_countBehind_123 4 rfl ?_
            refine w_callv (As := [.int (zI (((m - 1) : Nat) : Int)), .int (zI ((a : Nat) : Int))]) (rest := []) (n := 2) (c_X2_countWalksBehind (j := (m - 1)) (a := a) (c := ((T (((m - 1) : Nat) : Int)).toNat, (V (((m - 1) : Nat) : Int)).toNat)) (cs := (clL T V (m - 1 + 1) (n - (m - 1 + 1)))) (r := (R - a)) hn_41 hc_43 (by first | omega | with_reducible rfl) (by first | omega | with_reducible rfl) (by first | omega | with_reducible rfl) (by omega) (by omega) (by omega) hc1 hc12 ht3 (by omega) htr htfr (by first | omega | with_reducible rfl) (fun x h1 h2 h3 => by rw [pG_k (by decide), pG_k (by decide), pG_k (by decide)]; exact NBi_row (kd := 4) hi (by omega) hn5 hR (by omega) (by omega) hth h1 h2 h3) (fun x h1 h2 h3 => by rw [pG_k (by decide), pG_k (by decide), pG_k (by decide)]; exact NBi_row (kd := 5) hi (by omega) hn5 hR (by omega) (by omega) hth h1 h2 h3)) gX2_countBehind_X2_countWalksBehind rfl rfl rfl (by decide +kernel) ⟨Nat.le_of_ble_eq_true rfl, Nat.le_of_ble_eq_true rfl⟩ rfl (by first | omega | with_reducible rfl) hn_41.1 rfl (Nat.le_of_ble_eq_true rfl) ⟨Nat.zero_le _, Nat.zero_le _⟩ dX2_countBehind_125 rfl (fun g_45 hp_46 => ?_)
            obtain ⟨hn_47, hf_48⟩ := hp_46
            have hc_49 : vCol cy B g_45 cb sets n cver T X V Wy := vCol_fr hc_43 (fun q h1 h2 => hf_48 q (by omega))
            have hfr_50 : ∀ q, (q < b ∨ b + 11 ≤ q) → g_45 q = g q := fun q hq => (hf_48 q (by omega)).trans (hfr_44 q hq)
            refine w_aload_n dX2_countBehind_128 rfl 0 rfl ?_
            refine w_iload_n dX2_countBehind_129 rfl 2 rfl ?_
            refine w_iload dX2_countBehind_130 4 rfl ?_
            refine w_callv (As := [.int (zI (((m - 1) : Nat) : Int)), .int (zI ((a : Nat) : Int))]) (rest := []) (n := 2) (c_X2_sumBehind (j := (m - 1)) (a := a) (c := ((T (((m - 1) : Nat) : Int)).toNat, (V (((m - 1) : Nat) : Int)).toNat)) (cs := (clL T V (m - 1 + 1) (n - (m - 1 + 1)))) (r := (R - a)) hn_47 hc_49 (by first | omega | with_reducible rfl) (by first | omega | with_reducible rfl) (by first | omega | with_reducible rfl) (by omega) (by omega) (by omega) hc1 hc12 ht3 (by omega) htr htfr (by first | omega | with_reducible rfl) hv1 hv9 (fun x h1 h2 h3 => by rw [pG_k (by decide), pG_k (by decide), pG_k (by decide), pG_k (by decide), pG_k (by decide)]; exact NBi_row (kd := 6) hi (by omega) hn5 hR (by omega) (by omega) hth h1 h2 h3) (fun x h1 h2 h3 => by rw [pG_k (by decide), pG_k (by decide), pG_k (by decide), pG_k (by decide), pG_k (by decide)]; exact NBi_row (kd := 7) hi (by omega) hn5 hR (by omega) (by omega) hth h1 h2 h3) (fun x h1 h2 h3 => fE_rg (by omega) hv9) (fun x h1 h2 h3 => fG_rg (by omega) hv9 (by omega) hso)) gX2_countBehind_X2_sumBehind rfl rfl rfl (by decide +kernel) ⟨Nat.le_of_ble_eq_true rfl, Nat.le_of_ble_eq_true rfl⟩ rfl (by first | omega | with_reducible rfl) hn_47.1 rfl (Nat.le_of_ble_eq_true rfl) ⟨Nat.zero_le _, Nat.zero_le _⟩ dX2_countBehind_132 rfl (fun g_51 hp_52 => ?_)
            obtain ⟨hn_53, hf_54⟩ := hp_52
            have hc_55 : vCol cy B g_51 cb sets n cver T X V Wy := vCol_fr hc_49 (fun q h1 h2 => hf_54 q (by omega))
            have hfr_56 : ∀ q, (q < b ∨ b + 11 ≤ q) → g_51 q = g q := fun q hq => (hf_54 q (by omega)).trans (hfr_50 q hq)
            refine w_iinc 4 [(4, .int (zI (((a : Nat) : Int) + 1))), (0, .ref (B + b)), (1, .int (zI ((n : Nat) : Int))), (2, .int (zI (((m - 1) : Nat) : Int))), (3, .int (zI ((tsum (clL T V 0 (m - 1)) : Nat) : Int)))] dX2_countBehind_135 rfl (by decide) rfl ?_
            refine w_goto 82 dX2_countBehind_138 (by decide) ?_
            refine w_sub [(0, .ref (B + b)), (1, .int (zI ((n : Nat) : Int))), (2, .int (zI (((m - 1) : Nat) : Int))), (3, .int (zI ((tsum (clL T V 0 (m - 1)) : Nat) : Int))), (4, .int (zI (((a : Nat) : Int) + 1)))] [1, 2, 3, 4, 0] rfl ?_
            refine w_lv (lv' := [(0, .ref (B + b)), (1, .int (zI ((n : Nat) : Int))), (2, .int (zI (((m - 1) : Nat) : Int))), (3, .int (zI ((tsum (clL T V 0 (m - 1)) : Nat) : Int))), (4, .int (zI (((a + 1) : Nat) : Int)))]) (lc_s (lc_s (lc_s (lc_s (lc_i (by first | omega | with_reducible rfl) rfl))))) ?_
            exact ih_82 (a + 1) (pG (pG (pG (pG (pG (pG (pG Ga 1 ((((m - 1) : Nat) : Int) * 61 + ((a : Nat) : Int)) (bh (((T (((m - 1) : Nat) : Int)).toNat, (V (((m - 1) : Nat) : Int)).toNat) :: (clL T V (m - 1 + 1) (n - (m - 1 + 1)))) (R - a))) 2 ((((m - 1) : Nat) : Int) * 61 + ((a : Nat) : Int)) (lg (((T (((m - 1) : Nat) : Int)).toNat, (V (((m - 1) : Nat) : Int)).toNat) :: (clL T V (m - 1 + 1) (n - (m - 1 + 1)))) (R - a))) 3 ((((m - 1) : Nat) : Int) * 61 + ((a : Nat) : Int)) (sh (((T (((m - 1) : Nat) : Int)).toNat, (V (((m - 1) : Nat) : Int)).toNat) :: (clL T V (m - 1 + 1) (n - (m - 1 + 1)))) (R - a))) 4 ((((m - 1) : Nat) : Int) * 61 + ((a : Nat) : Int)) (tc (((T (((m - 1) : Nat) : Int)).toNat, (V (((m - 1) : Nat) : Int)).toNat) :: (clL T V (m - 1 + 1) (n - (m - 1 + 1)))) (R - a))) 5 ((((m - 1) : Nat) : Int) * 61 + ((a : Nat) : Int)) (lk (((T (((m - 1) : Nat) : Int)).toNat, (V (((m - 1) : Nat) : Int)).toNat) :: (clL T V (m - 1 + 1) (n - (m - 1 + 1)))) (R - a))) 6 ((((m - 1) : Nat) : Int) * 61 + ((a : Nat) : Int)) (les (((T (((m - 1) : Nat) : Int)).toNat, (V (((m - 1) : Nat) : Int)).toNat) :: (clL T V (m - 1 + 1) (n - (m - 1 + 1)))) (R - a))) 7 ((((m - 1) : Nat) : Int) * 61 + ((a : Nat) : Int)) (grs (((T (((m - 1) : Nat) : Int)).toNat, (V (((m - 1) : Nat) : Int)).toNat) :: (clL T V (m - 1 + 1) (n - (m - 1 + 1)))) (R - a))) g_51 ⟨hn_53, hc_55, hfr_56, (by first | omega | with_reducible rfl), (NBi_step hi (by omega) (by omega) hth hcl rfl), (Z0_pG (by decide) (Z0_pG (by decide) (Z0_pG (by decide) (Z0_pG (by decide) (Z0_pG (by decide) (Z0_pG (by decide) (Z0_pG (by decide) hza)))))))⟩ (by first | omega | with_reducible rfl)
