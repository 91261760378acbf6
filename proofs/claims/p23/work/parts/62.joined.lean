/-! ===== MarginTables.joined ===== -/
set_option maxHeartbeats 4000000 in
set_option maxRecDepth 100000 in
theorem n_X10_joined {l : Launch} {D : va_G} {cy : Nat → ClassId} {B N : Nat} {g : Nat → va_E} {la : Nat} {W Wa : Int → Int} {gr0 : Int} {cs : Nat → List Co} {Ms : Nat → Int} {fs : Nat → Nat} {law part : Int} (ht0 : vTop cy B g 0 la) (hsa : vSA cy B g 62 ) (hj : vJoint cy B g 59 W Wa gr0) (hss : vSWs cy B g 63 cs Ms fs) (hN : 141 ≤ N) (hla : la ≤ 3) (hck : ∀ i : Nat, i < la → cok (cs i) ∧ 2 ≤ (cs i).length) (hMs : ∀ i : Nat, Ms i < 2147483648) (h_law : -2147483648 ≤ law ∧ law < 2147483648) (h_part : -2147483648 ≤ part ∧ part < 2147483648) (hb : ¬ (1 ≤ law ∧ law ≤ 2 ∧ 0 ≤ part ∧ part ≤ 1)) : CTl l yX10_joined wsX10_joined (rmo 13 342) D cy B N g [.ref (B + 0), .int (zI law), .int (zI part)] (-1) (fun g' => g' = g) := by
  refine WW_of (cc := cX10_joined) (maxL := 10) (ret := (some .long)) (own := RX10) (by decide) rfl rfl (Nat.le_of_ble_eq_true rfl) rfl ?_
  intro pp ee ss mm bl me co hmn
  refine w_iload_n dX10_joined_0 rfl 1 rfl ?_
  refine w_iconst dX10_joined_1 ?_
  refine w_icmp_lt 19 dX10_joined_2 (by decide) (by first | omega | with_reducible rfl) (by first | omega | with_reducible rfl) (fun c_2 => ?_) (fun c_2 => ?_)
  · refine w_ldc2 (z := -1) (List.mem_of_getElem? (i := 1) rfl) dX10_joined_19 ?_
    exact w_lret dX10_joined_22 rfl (by first | with_reducible rfl | omega | (split <;> omega)) rfl
  · refine w_iload_n dX10_joined_5 rfl 1 rfl ?_
    refine w_iconst dX10_joined_6 ?_
    refine w_icmp_gt 19 dX10_joined_7 (by decide) (by first | omega | with_reducible rfl) (by first | omega | with_reducible rfl) (fun c_7 => ?_) (fun c_7 => ?_)
    · refine w_ldc2 (z := -1) (List.mem_of_getElem? (i := 1) rfl) dX10_joined_19 ?_
      exact w_lret dX10_joined_22 rfl (by first | with_reducible rfl | omega | (split <;> omega)) rfl
    · refine w_iload_n dX10_joined_10 rfl 2 rfl ?_
      refine w_if_lt 19 dX10_joined_11 (by decide) (by first | omega | with_reducible rfl) (fun c_11 => ?_) (fun c_11 => ?_)
      · refine w_ldc2 (z := -1) (List.mem_of_getElem? (i := 1) rfl) dX10_joined_19 ?_
        exact w_lret dX10_joined_22 rfl (by first | with_reducible rfl | omega | (split <;> omega)) rfl
      · refine w_iload_n dX10_joined_14 rfl 2 rfl ?_
        refine w_iconst dX10_joined_15 ?_
        refine w_icmp_le 23 dX10_joined_16 (by decide) (by first | omega | with_reducible rfl) (by first | omega | with_reducible rfl) (fun c_16 => ?_) (fun c_16 => ?_)
        · exfalso; omega
        · refine w_ldc2 (z := -1) (List.mem_of_getElem? (i := 1) rfl) dX10_joined_19 ?_
          exact w_lret dX10_joined_22 rfl (by first | with_reducible rfl | omega | (split <;> omega)) rfl
set_option maxHeartbeats 4000000 in
set_option maxRecDepth 100000 in
theorem y_X10_joined {l : Launch} {D : va_G} {cy : Nat → ClassId} {B N : Nat} {g : Nat → va_E} {la : Nat} {W Wa : Int → Int} {gr0 : Int} {cs : Nat → List Co} {Ms : Nat → Int} {fs : Nat → Nat} {law part : Int} (ht0 : vTop cy B g 0 la) (hsa : vSA cy B g 62 ) (hj : vJoint cy B g 59 W Wa gr0) (hss : vSWs cy B g 63 cs Ms fs) (hN : 141 ≤ N) (hla : la ≤ 3) (hck : ∀ i : Nat, i < la → cok (cs i) ∧ 2 ≤ (cs i).length) (hMs : ∀ i : Nat, Ms i < 2147483648) (h_law : -2147483648 ≤ law ∧ law < 2147483648) (h_part : -2147483648 ≤ part ∧ part < 2147483648) (hb : 1 ≤ law ∧ law ≤ 2 ∧ 0 ≤ part ∧ part ≤ 1) : CTl l yX10_joined wsX10_joined (rmo 13 342) D cy B N g [.ref (B + 0), .int (zI law), .int (zI part)] (aJoi cs la law part) (fun g' => ∃ W1 : Int → Int, ∃ Wa1 : Int → Int, ∃ gr1 : Int, ∃ fs1 : Nat → Nat, vJoint cy B g' 59 W1 Wa1 gr1 ∧ vSWs cy B g' 63 cs Ms fs1 ∧ (∀ q, (q < 59 ∨ q = 62 ∨ 141 ≤ q) → g' q = g q)) := by
  refine WW_of (cc := cX10_joined) (maxL := 10) (ret := (some .long)) (own := RX10) (by decide) rfl rfl (Nat.le_of_ble_eq_true rfl) rfl ?_
  intro pp ee ss mm bl me co hmn
  have hfr_0 : ∀ q, (q < 59 ∨ q = 62 ∨ 141 ≤ q) → g q = g q := fun _ _ => rfl
  have hck1 : ∀ i : Nat, i < la → cok (cs i) := fun i hi => (hck i hi).1
  refine w_iload_n dX10_joined_0 rfl 1 rfl ?_
  refine w_iconst dX10_joined_1 ?_
  refine w_icmp_lt 19 dX10_joined_2 (by decide) (by first | omega | with_reducible rfl) (by first | omega | with_reducible rfl) (fun c_2 => ?_) (fun c_2 => ?_)
  · exfalso; omega
  · refine w_iload_n dX10_joined_5 rfl 1 rfl ?_
    refine w_iconst dX10_joined_6 ?_
    refine w_icmp_gt 19 dX10_joined_7 (by decide) (by first | omega | with_reducible rfl) (by first | omega | with_reducible rfl) (fun c_7 => ?_) (fun c_7 => ?_)
    · exfalso; omega
    · refine w_iload_n dX10_joined_10 rfl 2 rfl ?_
      refine w_if_lt 19 dX10_joined_11 (by decide) (by first | omega | with_reducible rfl) (fun c_11 => ?_) (fun c_11 => ?_)
      · exfalso; omega
      · refine w_iload_n dX10_joined_14 rfl 2 rfl ?_
        refine w_iconst dX10_joined_15 ?_
        refine w_icmp_le 23 dX10_joined_16 (by decide) (by first | omega | with_reducible rfl) (by first | omega | with_reducible rfl) (fun c_16 => ?_) (fun c_16 => ?_)
        · refine w_lconst1 dX10_joined_23 ?_
          refine w_lstore_n [(3, .long (zJ 1)), (0, .ref (B + 0)), (1, .int (zI law)), (2, .int (zI part))] dX10_joined_24 rfl (by decide) rfl ?_
          refine w_iconst dX10_joined_25 ?_
          refine w_istore [(5, .int (zI 0)), (3, .long (zJ 1)), (0, .ref (B + 0)), (1, .int (zI law)), (2, .int (zI part))] dX10_joined_26 (by decide) rfl ?_
          refine w_aload_n dX10_joined_28 rfl 2 rfl ?_
          refine w_get (i := 3) (T := TX10) (NF := 6) 0 (by first | omega | with_reducible rfl) ht0 rfl (fun _ h => (List.mem_cons_of_mem _ (List.mem_append_left _ (List.mem_append_left _ (List.mem_append_left _ (List.mem_append_left _ (List.mem_append_left _ (List.mem_append_right _ h)))))))) (by decide) (List.mem_of_getElem? (i := 2) rfl) rfl dX10_joined_29 ?_
          refine w_callv (As := []) (rest := []) (n := 0) (c_X1_clear hj (by first | omega | with_reducible rfl)) gX10_joined_X1_clear rfl rfl rfl (by decide +kernel) ⟨Nat.le_of_ble_eq_true rfl, Nat.le_of_ble_eq_true rfl⟩ rfl (by first | omega | with_reducible rfl) hj.1 rfl (Nat.le_of_ble_eq_true rfl) ⟨Nat.zero_le _, Nat.zero_le _⟩ dX10_joined_32 rfl (fun g_1 hp_2 => ?_)
          obtain ⟨W1_3, hj_4, hW1_32, hf_5⟩ := hp_2
          have ht0_6 : vTop cy B g_1 0 la := vTop_fr ht0 (fun q h1 h2 => hf_5 q (by omega))
          have hsa_7 : vSA cy B g_1 62  := vSA_fr hsa (fun q h1 h2 => hf_5 q (by omega))
          have hss_8 : vSWs cy B g_1 63 cs Ms fs := vSWs_fr hss (fun q h1 h2 => hf_5 q (by omega))
          have hfr_9 : ∀ q, (q < 59 ∨ q = 62 ∨ 141 ≤ q) → g_1 q = g q := fun q hq => (hf_5 q (by omega)).trans (hfr_0 q hq)
          refine w_iconst dX10_joined_35 ?_
          refine w_istore [(6, .int (zI 0)), (5, .int (zI 0)), (3, .long (zJ 1)), (0, .ref (B + 0)), (1, .int (zI law)), (2, .int (zI part))] dX10_joined_36 (by decide) rfl ?_
          refine w_sub [(0, .ref (B + 0)), (1, .int (zI law)), (2, .int (zI part)), (3, .long (zJ 1)), (5, .int (zI 0)), (6, .int (zI 0))] [3, 4, 5, 2, 1, 0] rfl ?_
          refine w_lv (lv' := [(0, .ref (B + 0)), (1, .int (zI law)), (2, .int (zI part)), (3, .long (zJ (jA cs 0))), (5, .int (zI (jS cs 0))), (6, .int (zI ((0 : Nat) : Int)))]) (lc_s (lc_s (lc_s (lc_l rfl (lc_i rfl (lc_i (by first | omega | with_reducible rfl) rfl)))))) ?_
          refine w_loop5 (fun (k : Nat) (Wk : Int → Int) (Wak : Int → Int) (fk : Nat → Nat) (gl_10 : (Nat → va_E)) => vTop cy B gl_10 0 la ∧ vSA cy B gl_10 62  ∧ vJoint cy B gl_10 59 Wk Wak (jG cs k) ∧ vSWs cy B gl_10 63 cs Ms fk ∧ (∀ q, (q < 59 ∨ q = 62 ∨ 141 ≤ q) → gl_10 q = g q) ∧ k ≤ la ∧ (∀ y : Int, 0 ≤ y → y < 1621 → Wk y = jW cs k y) ∧ jA cs k ≤ 9223372036854775807) (fun (k : Nat) (Wk : Int → Int) (Wak : Int → Int) (fk : Nat → Nat) (gl_10 : (Nat → va_E)) => la - k) (fun (k : Nat) (Wk : Int → Int) (Wak : Int → Int) (fk : Nat → Nat) (gl_10 : (Nat → va_E)) => gl_10) (fun (k : Nat) (Wk : Int → Int) (Wak : Int → Int) (fk : Nat → Nat) (gl_10 : (Nat → va_E)) => [(0, .ref (B + 0)), (1, .int (zI law)), (2, .int (zI part)), (3, .long (zJ (jA cs k))), (5, .int (zI (jS cs k))), (6, .int (zI ((k : Nat) : Int)))]) ?_ 0 W1_3 Wa fs g_1 ⟨ht0_6, hsa_7, (by have h9 := hj_4; exact h9), hss_8, hfr_9, (by first | omega | with_reducible rfl), (fun y h1 h2 => by rw [jW]; exact hW1_32 y h1 h2), (by rw [jA]; omega)⟩
          rintro k Wk Wak fk gl_10 ⟨ht0_11, hsa_12, hj_13, hss_14, hfr_15, hk, hW, hA⟩ ih_38
          have hckk : ∀ i : Nat, i < k → cok (cs i) := fun i hi => hck1 i (by omega)
          have hA1 := jA_pos hckk
          have hSk := jS_rg hckk
          have hGk := jG_rg hckk
          refine w_iload dX10_joined_38 5 rfl ?_
          refine w_aload_n dX10_joined_40 rfl 0 rfl ?_
          refine w_get (i := 5) (T := TX10) (NF := 6) 0 (by first | omega | with_reducible rfl) ht0_11 rfl (fun _ h => (List.mem_cons_of_mem _ (List.mem_append_left _ (List.mem_append_left _ (List.mem_append_left _ (List.mem_append_left _ (List.mem_append_left _ (List.mem_append_right _ h)))))))) (by decide) (List.mem_of_getElem? (i := 3) rfl) rfl dX10_joined_41 ?_
          refine w_icmp_ge 134 dX10_joined_44 (by decide) (by first | omega | with_reducible rfl) (by first | omega | with_reducible rfl) (fun c_44 => ?_) (fun c_44 => ?_)
          · refine w_aload_n dX10_joined_134 rfl 0 rfl ?_
            refine w_get (i := 3) (T := TX10) (NF := 6) 0 (by first | omega | with_reducible rfl) ht0_11 rfl (fun _ h => (List.mem_cons_of_mem _ (List.mem_append_left _ (List.mem_append_left _ (List.mem_append_left _ (List.mem_append_left _ (List.mem_append_left _ (List.mem_append_right _ h)))))))) (by decide) (List.mem_of_getElem? (i := 2) rfl) rfl dX10_joined_135 ?_
            refine w_iload_n dX10_joined_138 rfl 1 rfl ?_
            refine w_iload dX10_joined_139 4 rfl ?_
            have hkl : k = la := by omega
            subst hkl
            have hjb := jB_rg hckk hla law (jS cs k)
            refine w_calll (As := [.int (zI law), .int (zI (jS cs k))]) (rest := []) (n := 2) (c_X1_waysBy hj_13 (by first | omega | with_reducible rfl) (by first | omega | with_reducible rfl) (by first | omega | with_reducible rfl)) gX10_joined_X1_waysBy rfl rfl rfl (by decide +kernel) ⟨Nat.le_of_ble_eq_true rfl, Nat.le_of_ble_eq_true rfl⟩ rfl (by first | omega | with_reducible rfl) hj_13.1 rfl (Nat.le_of_ble_eq_true rfl) ⟨Nat.zero_le _, Nat.zero_le _⟩ dX10_joined_141 rfl (fun g_16 hp_17 => ?_)
            subst g_16
            refine w_as (st' := [.long (zJ (((sm (bw (jW cs k) law (jS cs k)) 1621).toNat : Nat) : Int))]) (sc_l (by rw [bw_c2 (n := 1621) hW]; omega) rfl) ?_
            refine w_lload_n dX10_joined_144 rfl 3 rfl ?_
            refine w_as (st' := [.long (zJ (((jA cs k).toNat : Nat) : Int)), .long (zJ (((sm (bw (jW cs k) law (jS cs k)) 1621).toNat : Nat) : Int))]) (sc_l (by omega) rfl) ?_
            refine w_iload_n dX10_joined_145 rfl 2 rfl ?_
            refine w_calllS (As := [.long (zJ (((sm (bw (jW cs k) law (jS cs k)) 1621).toNat : Nat) : Int)), .long (zJ (((jA cs k).toNat : Nat) : Int)), .int (zI part)]) (rest := []) (n := 3) (c_X10_inLowestTerms (x := (sm (bw (jW cs k) law (jS cs k)) 1621).toNat) (y := (jA cs k).toNat) (by first | omega | with_reducible rfl) (by first | omega | with_reducible rfl) (by first | omega | with_reducible rfl) (by first | omega | with_reducible rfl)) gX10_joined_X10_inLowestTerms rfl rfl rfl (by decide +kernel) ⟨Nat.le_of_ble_eq_true rfl, Nat.le_of_ble_eq_true rfl⟩ rfl (Nat.le_of_ble_eq_true rfl) ⟨Nat.zero_le _, Nat.zero_le _⟩ dX10_joined_146 rfl (fun g_18 hp_19 => ?_)
            subst g_18
            refine w_as (st' := [.long (zJ (lowT (sm (bw (jW cs k) law (jS cs k)) 1621) (jA cs k) part))]) (sc_l (by rw [Int.toNat_of_nonneg hjb.1, Int.toNat_of_nonneg (by omega)]) rfl) ?_
            exact w_lret dX10_joined_149 rfl (by unfold aJoi; rw [if_pos hb, if_neg (by omega)]) ⟨Wk, Wak, (jG cs k), fk, hj_13, hss_14, hfr_15⟩
          · refine w_aload_n dX10_joined_47 rfl 0 rfl ?_
            refine w_iload dX10_joined_48 5 rfl ?_
            refine w_callq (As := [.int (zI ((k : Nat) : Int))]) (rest := []) (n := 1) (c_X10_fresh (k := k) ht0_11 hsa_12 (hss_14 k (by first | omega | with_reducible rfl)) (by first | omega | with_reducible rfl) (by first | omega | with_reducible rfl) (hMs k) (hck1 k (by omega))) gX10_joined_X10_findFresh rfl rfl rfl (by decide +kernel) ⟨Nat.le_of_ble_eq_true rfl, Nat.le_of_ble_eq_true rfl⟩ rfl (by first | omega | with_reducible rfl) ht0_11 rfl (Nat.le_of_ble_eq_true rfl) ⟨Nat.zero_le _, Nat.zero_le _⟩ dX10_joined_50 rfl (fun g_20 hp_21 => ?_)
            obtain ⟨fi_22, hf_23⟩ := hp_21
            have ht0_24 : vTop cy B g_20 0 la := vTop_fr ht0_11 (fun q h1 h2 => hf_23 q (by omega))
            have hsa_25 : vSA cy B g_20 62  := vSA_fr hsa_12 (fun q h1 h2 => hf_23 q (by omega))
            have hj_26 : vJoint cy B g_20 59 Wk Wak (jG cs k) := vJoint_fr hj_13 (fun q h1 h2 => hf_23 q (by omega))
            have hss_27 : vSWs cy B g_20 63 (uF cs k (cs k)) (uF Ms k (Ms k)) (uF fk k 1) := vSWs_set k hss_14 (by first | omega | with_reducible rfl) fi_22 (fun q hq => hf_23 q (by omega))
            have hfr_28 : ∀ q, (q < 59 ∨ q = 62 ∨ 141 ≤ q) → g_20 q = g q := fun q hq => (hf_23 q (by omega)).trans (hfr_15 q hq)
            have hbd := stW_bd (hck1 k (by omega)) 0
            have hdv := dv_rg hbd.2.2.1
            have hgk := grs_540 (hck1 k (by omega))
            have hck2 := (hck k (by omega)).2
            have hss_29 : vSWs cy B g_20 63 cs Ms (uF fk k 1) := by have h9 := hss_27; simp only [uF_id, uF_uF] at h9; exact h9
            refine w_as (st' := [.ref (B + (63 + 26 * k))]) (sc_r rfl rfl) ?_
            refine w_astore [(7, .ref (B + (63 + 26 * k))), (0, .ref (B + 0)), (1, .int (zI law)), (2, .int (zI part)), (3, .long (zJ (jA cs k))), (5, .int (zI (jS cs k))), (6, .int (zI ((k : Nat) : Int)))] dX10_joined_53 (by decide) rfl ?_
            refine w_aload dX10_joined_55 0 rfl ?_
            refine w_ifnonnull 64 dX10_joined_57 (by decide) ?_
            refine w_aload dX10_joined_64 0 rfl ?_
            refine w_calll (As := []) (rest := []) (n := 0) (w_X7_allWays (hss_29 k (by first | omega | with_reducible rfl)) (by first | omega | with_reducible rfl) (hck1 k (by omega)) (by rw [uF_same]; omega)) gX10_joined_X7_allWays rfl rfl rfl (by decide +kernel) ⟨Nat.le_of_ble_eq_true rfl, Nat.le_of_ble_eq_true rfl⟩ rfl (by first | omega | with_reducible rfl) (vSW_str (hss_29 k (by first | omega | with_reducible rfl))) rfl (Nat.le_of_ble_eq_true rfl) ⟨Nat.zero_le _, Nat.zero_le _⟩ dX10_joined_66 rfl (fun g_30 hp_31 => ?_)
            subst g_30
            refine w_lstore [(8, .long (zJ (bh (coL (cs k)) (coR (cs k))))), (7, .ref (B + (63 + 26 * k))), (0, .ref (B + 0)), (1, .int (zI law)), (2, .int (zI part)), (3, .long (zJ (jA cs k))), (5, .int (zI (jS cs k))), (6, .int (zI ((k : Nat) : Int)))] dX10_joined_69 (by decide) rfl ?_
            refine w_aload dX10_joined_71 1 rfl ?_
            refine w_ifnull dX10_joined_73 ?_
            refine w_lload dX10_joined_76 0 rfl ?_
            refine w_lconst1 dX10_joined_78 ?_
            refine w_lcmp_lt 94 dX10_joined_79 dX10_joined_80 (by decide) (by first | omega | with_reducible rfl) (by first | omega | with_reducible rfl) (fun c_79 => ?_) (fun c_79 => ?_)
            · exfalso; omega
            · refine w_lload_n dX10_joined_83 rfl 5 rfl ?_
              refine w_ldc2 (z := 9223372036854775807) (List.mem_of_getElem? (i := 4) rfl) dX10_joined_84 ?_
              refine w_lload dX10_joined_87 0 rfl ?_
              refine w_ldiv dX10_joined_89 (by first | omega | with_reducible rfl) (by first | omega | with_reducible rfl) ?_
              refine w_lcmp_le 98 dX10_joined_90 dX10_joined_91 (by decide) (by first | omega | with_reducible rfl) (by first | omega | with_reducible rfl) (fun c_90 => ?_) (fun c_90 => ?_)
              · refine w_lload_n dX10_joined_98 rfl 5 rfl ?_
                refine w_lload dX10_joined_99 0 rfl ?_
                refine w_lmul dX10_joined_101 ?_
                refine w_lstore_n [(3, .long (zJ ((jA cs k) * (bh (coL (cs k)) (coR (cs k)))))), (8, .long (zJ (bh (coL (cs k)) (coR (cs k))))), (7, .ref (B + (63 + 26 * k))), (0, .ref (B + 0)), (1, .int (zI law)), (2, .int (zI part)), (5, .int (zI (jS cs k))), (6, .int (zI ((k : Nat) : Int)))] dX10_joined_102 rfl (by decide) rfl ?_
                refine w_iload dX10_joined_103 6 rfl ?_
                refine w_aload dX10_joined_105 2 rfl ?_
                refine w_get (i := 0) (T := TX7) (NF := 4) (63 + 26 * k) (by first | omega | with_reducible rfl) (vSW_str (hss_29 k (by first | omega | with_reducible rfl))) rfl (fun _ h => (List.mem_cons_of_mem _ (List.mem_append_left _ (List.mem_append_left _ (List.mem_append_left _ (List.mem_append_left _ (List.mem_append_right _ h))))))) (by decide) (List.mem_of_getElem? (i := 6) rfl) rfl dX10_joined_107 ?_
                obtain ⟨fx_34, hfx_34⟩ := vSW_col (hss_29 k (by first | omega | with_reducible rfl))
                refine w_calli (As := []) (rest := [.int (zI (jS cs k))]) (n := 0) (w_X0_seenSum (hss_29 k (by first | omega | with_reducible rfl)) (by first | omega | with_reducible rfl) (hck1 k (by omega)).1) gX10_joined_X0_seenSum rfl rfl rfl (by decide +kernel) ⟨Nat.le_of_ble_eq_true rfl, Nat.le_of_ble_eq_true rfl⟩ rfl (by first | omega | with_reducible rfl) hfx_34 rfl (Nat.le_of_ble_eq_true rfl) ⟨Nat.zero_le _, Nat.zero_le _⟩ dX10_joined_110 rfl (fun g_32 hp_33 => ?_)
                subst g_32
                refine w_iadd dX10_joined_113 ?_
                refine w_istore [(5, .int (zI ((jS cs k) + (coS (cs k))))), (3, .long (zJ ((jA cs k) * (bh (coL (cs k)) (coR (cs k)))))), (8, .long (zJ (bh (coL (cs k)) (coR (cs k))))), (7, .ref (B + (63 + 26 * k))), (0, .ref (B + 0)), (1, .int (zI law)), (2, .int (zI part)), (6, .int (zI ((k : Nat) : Int)))] dX10_joined_114 (by decide) rfl ?_
                refine w_aload_n dX10_joined_116 rfl 4 rfl ?_
                refine w_get (i := 3) (T := TX10) (NF := 6) 0 (by first | omega | with_reducible rfl) ht0_24 rfl (fun _ h => (List.mem_cons_of_mem _ (List.mem_append_left _ (List.mem_append_left _ (List.mem_append_left _ (List.mem_append_left _ (List.mem_append_left _ (List.mem_append_right _ h)))))))) (by decide) (List.mem_of_getElem? (i := 2) rfl) rfl dX10_joined_117 ?_
                refine w_aload dX10_joined_120 3 rfl ?_
                refine w_callq (As := []) (rest := [.ref (B + 59)]) (n := 0) (w_X7_freshSums (hss_29 k (by first | omega | with_reducible rfl)) (by first | omega | with_reducible rfl) (hMs k) (hck1 k (by omega)) (by first | omega | with_reducible rfl) (by rw [uF_same]; omega)) gX10_joined_X7_freshSums rfl rfl rfl (by decide +kernel) ⟨Nat.le_of_ble_eq_true rfl, Nat.le_of_ble_eq_true rfl⟩ rfl (by first | omega | with_reducible rfl) (vSW_str (hss_29 k (by first | omega | with_reducible rfl))) rfl (Nat.le_of_ble_eq_true rfl) ⟨Nat.zero_le _, Nat.zero_le _⟩ dX10_joined_122 rfl (fun g_35 hp_36 => ?_)
                obtain ⟨cv_37, W2_38, T2_39, fi_40, hsm9, hsw9, hf_41⟩ := hp_36
                have ht0_42 : vTop cy B g_35 0 la := vTop_fr ht0_24 (fun q h1 h2 => hf_41 q (by omega))
                have hsa_43 : vSA cy B g_35 62  := vSA_fr hsa_25 (fun q h1 h2 => hf_41 q (by omega))
                have hj_44 : vJoint cy B g_35 59 Wk Wak (jG cs k) := vJoint_fr hj_26 (fun q h1 h2 => hf_41 q (by omega))
                have hss_45 : vSWs cy B g_35 63 (uF cs k (cs k)) (uF Ms k (Ms k)) (uF (uF fk k 1) k ((uF fk k 1) k)) := vSWs_set k hss_29 (by first | omega | with_reducible rfl) fi_40 (fun q hq => hf_41 q (by omega))
                have hfr_46 : ∀ q, (q < 59 ∨ q = 62 ∨ 141 ≤ q) → g_35 q = g q := fun q hq => (hf_41 q (by omega)).trans (hfr_28 q hq)
                have hss_47 : vSWs cy B g_35 63 cs Ms (uF fk k 1) := by have h9 := hss_45; simp only [uF_id, uF_uF, uF_same] at h9; exact h9
                have hsx_48 : vSum cy B g_35 ((63 + 26 * k) + 23) ((63 + 26 * k) + 1) ((63 + 26 * k) + 11) W2_38 T2_39 (les (coL (cs k)) (coR (cs k))) (grs (coL (cs k)) (coR (cs k))) cv_37 := hsm9
                refine w_callv (As := [.ref (B + ((63 + 26 * k) + 23))]) (rest := []) (n := 1) (c_X1_add hj_44 hsx_48 (by first | omega | with_reducible rfl) (by first | omega | with_reducible rfl) (by first | omega | with_reducible rfl) (by omega) (by omega) (fun a h1 h2 => by rw [hW a h1 (by omega)]; have h7 := jW_nn (cs := cs) k a; have h8 := jW_le hckk h1; omega)) gX10_joined_X1_add rfl rfl rfl (by decide +kernel) ⟨Nat.le_of_ble_eq_true rfl, Nat.le_of_ble_eq_true rfl⟩ rfl (by first | omega | with_reducible rfl) hj_44.1 rfl (Nat.le_of_ble_eq_true rfl) ⟨Nat.zero_le _, Nat.zero_le _⟩ dX10_joined_125 rfl (fun g_49 hp_50 => ?_)
                obtain ⟨W2_51, Wa2_52, hj_53, hW2_125, hf_54⟩ := hp_50
                have ht0_55 : vTop cy B g_49 0 la := vTop_fr ht0_42 (fun q h1 h2 => hf_54 q (by omega))
                have hsa_56 : vSA cy B g_49 62  := vSA_fr hsa_43 (fun q h1 h2 => hf_54 q (by omega))
                have hss_57 : vSWs cy B g_49 63 cs Ms (uF fk k 1) := vSWs_fr hss_47 (fun q h1 h2 => hf_54 q (by omega))
                have hsx_58 : vSum cy B g_49 ((63 + 26 * k) + 23) ((63 + 26 * k) + 1) ((63 + 26 * k) + 11) W2_38 T2_39 (les (coL (cs k)) (coR (cs k))) (grs (coL (cs k)) (coR (cs k))) cv_37 := vSum_fr hsx_48 (fun q h1 h2 => hf_54 q (by omega))
                have hfr_59 : ∀ q, (q < 59 ∨ q = 62 ∨ 141 ≤ q) → g_49 q = g q := fun q hq => (hf_54 q (by omega)).trans (hfr_46 q hq)
                refine w_iinc 7 [(6, .int (zI (((k : Nat) : Int) + 1))), (5, .int (zI ((jS cs k) + (coS (cs k))))), (3, .long (zJ ((jA cs k) * (bh (coL (cs k)) (coR (cs k)))))), (8, .long (zJ (bh (coL (cs k)) (coR (cs k))))), (7, .ref (B + (63 + 26 * k))), (0, .ref (B + 0)), (1, .int (zI law)), (2, .int (zI part))] dX10_joined_128 rfl (by decide) rfl ?_
                refine w_goto 38 dX10_joined_131 (by decide) ?_
                refine w_sub [(0, .ref (B + 0)), (1, .int (zI law)), (2, .int (zI part)), (3, .long (zJ ((jA cs k) * (bh (coL (cs k)) (coR (cs k)))))), (5, .int (zI ((jS cs k) + (coS (cs k))))), (6, .int (zI (((k : Nat) : Int) + 1)))] [5, 6, 7, 2, 1, 0] rfl ?_
                refine w_lv (lv' := [(0, .ref (B + 0)), (1, .int (zI law)), (2, .int (zI part)), (3, .long (zJ (jA cs (k + 1)))), (5, .int (zI (jS cs (k + 1)))), (6, .int (zI (((k + 1) : Nat) : Int)))]) (lc_s (lc_s (lc_s (lc_l rfl (lc_i rfl (lc_i (by first | omega | with_reducible rfl) rfl)))))) ?_
                exact ih_38 (k + 1) W2_51 Wa2_52 (uF fk k 1) g_49 ⟨ht0_55, hsa_56, (by have h9 := hj_53; exact h9), hss_57, hfr_59, (by first | omega | with_reducible rfl), (fun y h1 h2 => by rw [hW2_125 y h1 h2]; exact cv_jW (fun i hi => hck1 i (by omega)) (fun a h3 h4 => hW a h3 (by omega)) hsw9), (jA_ok (hck1 k (by omega)) c_90)⟩ (by first | omega | with_reducible rfl)
              · refine w_ldc2 (z := -4) (List.mem_of_getElem? (i := 5) rfl) dX10_joined_94 ?_
                exact w_lret dX10_joined_97 rfl (by unfold aJoi; rw [if_pos hb, if_pos (jA_over hck1 (by omega) c_90)]) ⟨Wk, Wak, (jG cs k), (uF fk k 1), hj_26, hss_29, hfr_28⟩
        · exfalso; omega
