/-! ===== the model: nodes, tables by number, looks ===== -/
set_option maxHeartbeats 4000000 in
set_option maxRecDepth 100000 in
theorem m_n_X11_node {l : Launch} {D : va_G} {cy : Nat → ClassId} {B N : Nat} {g : Nat → va_E} {cg le sp va o0 tn aw mw fw ls gs sn sw kr : Int} {Nw : Int → Int} {S : St} {s j a what : Int} (hm : vM cy B g 141 cg le sp va o0 tn aw mw fw ls gs sn sw kr) (hnow : vIA cy B g 142 49 Nw) (hN : 160 ≤ N) (hER : ER Nw S) (h_s : -2147483648 ≤ s ∧ s < 2147483648) (h_j : -2147483648 ≤ j ∧ j < 2147483648) (h_a : -2147483648 ≤ a ∧ a < 2147483648) (h_what : -2147483648 ≤ what ∧ what < 2147483648) (hb : ¬ ((0 ≤ s ∧ s < S.length))) : CTl l yX11_node wsX11_node (rmo 5 121) D cy B N g [.ref (B + 141), .int (zI s), .int (zI j), .int (zI a), .int (zI what)] (-1) (fun g' => g' = g) := by
  refine WW_of (cc := cX11_node) (maxL := 6) (ret := (some .long)) (own := RX11) (by decide) rfl rfl (Nat.le_of_ble_eq_true rfl) rfl ?_
  intro pp ee ss mm bl me co hmn
  refine w_aload_n dX11_node_0 rfl 0 rfl ?_
  refine w_iload_n dX11_node_1 rfl 1 rfl ?_
  refine w_calli (As := [.int (zI s)]) (rest := []) (n := 1) (c_X11_isStratum hm hnow (by first | omega | with_reducible rfl) (by first | omega | with_reducible rfl) (by first | omega | with_reducible rfl)) gX11_node_X11_isStratum rfl rfl rfl (by decide +kernel) ⟨Nat.le_of_ble_eq_true rfl, Nat.le_of_ble_eq_true rfl⟩ rfl (by first | omega | with_reducible rfl) hm rfl (Nat.le_of_ble_eq_true rfl) ⟨Nat.zero_le _, Nat.zero_le _⟩ dX11_node_2 rfl (fun g_1 hp_2 => ?_)
  subst g_1
  refine w_ifeqB 45 dX11_node_5 (by decide) (fun c_5 => ?_) (fun c_5 => ?_)
  · refine w_ldc2 (z := -1) (List.mem_of_getElem? (i := 1) rfl) dX11_node_45 ?_
    exact w_lret dX11_node_48 rfl (by first | with_reducible rfl | omega | (split <;> omega)) rfl
  · exfalso; omega
set_option maxHeartbeats 4000000 in
set_option maxRecDepth 100000 in
theorem m_y_X11_node {l : Launch} {D : va_G} {cy : Nat → ClassId} {B N : Nat} {g : Nat → va_E} {cg le sp va o0 tn aw mw fw ls gs sn sw kr : Int} {Nw Sv Ah : Int → Int} {Be Lo Sh Ro : Int → Int} {S : St} {k : Nat} {c : List Co} {j a what : Int} (hm : vM cy B g 141 cg le sp va o0 tn aw mw fw ls gs sn sw kr) (hnow : vIA cy B g 142 49 Nw) (hse : vLA cy B g 146 169 Sv) (hah : vLA cy B g 152 366 Ah) (hbe : vLA cy B g 153 366 Be) (hlo : vLA cy B g 154 366 Lo) (hsh : vLA cy B g 155 366 Sh) (hro : vIA cy B g 156 366 Ro) (hN : 160 ≤ N) (hER : ER Nw S) (hkS : k < S.length) (hcS : S.getD k [] = c) (hc : cok c) (h2 : 2 ≤ c.length) (hSv : SvOK Sv) (h_j : -2147483648 ≤ j ∧ j < 2147483648) (h_a : -2147483648 ≤ a ∧ a < 2147483648) (h_what : -2147483648 ≤ what ∧ what < 2147483648) : CTl l yX11_node wsX11_node (rmo 5 121) D cy B N g [.ref (B + 141), .int (zI ((k : Nat) : Int)), .int (zI j), .int (zI a), .int (zI what)] (aNod c j a what) (fun g' => ∃ Ah1 : Int → Int, ∃ Be1 : Int → Int, ∃ Lo1 : Int → Int, ∃ Sh1 : Int → Int, ∃ Ro1 : Int → Int, vLA cy B g' 152 366 Ah1 ∧ vLA cy B g' 153 366 Be1 ∧ vLA cy B g' 154 366 Lo1 ∧ vLA cy B g' 155 366 Sh1 ∧ vIA cy B g' 156 366 Ro1 ∧ (∀ q, (q ≠ 152 ∧ q ≠ 153 ∧ q ≠ 154 ∧ q ≠ 155 ∧ q ≠ 156) → g' q = g q)) := by
  refine WW_of (cc := cX11_node) (maxL := 6) (ret := (some .long)) (own := RX11) (by decide) rfl rfl (Nat.le_of_ble_eq_true rfl) rfl ?_
  intro pp ee ss mm bl me co hmn
  have hfr_0 : ∀ q, (q ≠ 152 ∧ q ≠ 153 ∧ q ≠ 154 ∧ q ≠ 155 ∧ q ≠ 156) → g q = g q := fun _ _ => rfl
  have hmc : MC Nw k c := by have h := hER.2 k hkS; rw [hcS] at h; exact h
  have hk3 := hmc.1
  have hco := coL_S hc
  have hc5 := hc.1
  refine w_aload_n dX11_node_0 rfl 0 rfl ?_
  refine w_iload_n dX11_node_1 rfl 1 rfl ?_
  refine w_calli (As := [.int (zI ((k : Nat) : Int))]) (rest := []) (n := 1) (c_X11_isStratum hm hnow (by first | omega | with_reducible rfl) (by first | omega | with_reducible rfl) (by first | omega | with_reducible rfl)) gX11_node_X11_isStratum rfl rfl rfl (by decide +kernel) ⟨Nat.le_of_ble_eq_true rfl, Nat.le_of_ble_eq_true rfl⟩ rfl (by first | omega | with_reducible rfl) hm rfl (Nat.le_of_ble_eq_true rfl) ⟨Nat.zero_le _, Nat.zero_le _⟩ dX11_node_2 rfl (fun g_1 hp_2 => ?_)
  subst g_1
  refine w_ifeqB 45 dX11_node_5 (by decide) (fun c_5 => ?_) (fun c_5 => ?_)
  · exfalso; omega
  · refine w_iload_n dX11_node_8 rfl 2 rfl ?_
    refine w_iconst dX11_node_9 ?_
    refine w_aload_n dX11_node_10 rfl 0 rfl ?_
    refine w_iload_n dX11_node_11 rfl 1 rfl ?_
    refine w_calli (As := [.int (zI ((k : Nat) : Int))]) (rest := [.int (zI 0), .int (zI j)]) (n := 1) (c_X11_columns (k := k) hm hnow (by first | omega | with_reducible rfl) (by first | omega | with_reducible rfl)) gX11_node_X11_columns rfl rfl rfl (by decide +kernel) ⟨Nat.le_of_ble_eq_true rfl, Nat.le_of_ble_eq_true rfl⟩ rfl (by first | omega | with_reducible rfl) hm rfl (Nat.le_of_ble_eq_true rfl) ⟨Nat.zero_le _, Nat.zero_le _⟩ dX11_node_12 rfl (fun g_3 hp_4 => ?_)
    subst g_3
    refine w_calliS (As := [.int (zI j), .int (zI 0), .int (zI ((c.length : Nat) : Int))]) (rest := []) (n := 3) (c_X11_in (by first | omega | with_reducible rfl) (by first | omega | with_reducible rfl) (by first | omega | with_reducible rfl)) gX11_node_X11_in rfl rfl rfl (by decide +kernel) ⟨Nat.le_of_ble_eq_true rfl, Nat.le_of_ble_eq_true rfl⟩ rfl (Nat.le_of_ble_eq_true rfl) ⟨Nat.zero_le _, Nat.zero_le _⟩ dX11_node_15 rfl (fun g_5 hp_6 => ?_)
    subst g_5
    refine w_ifeqB 45 dX11_node_18 (by decide) (fun c_18 => ?_) (fun c_18 => ?_)
    · refine w_ldc2 (z := -1) (List.mem_of_getElem? (i := 1) rfl) dX11_node_45 ?_
      exact w_lret dX11_node_48 rfl (by unfold aNod; rw [if_neg (by omega)]) ⟨Ah, Be, Lo, Sh, Ro, hah, hbe, hlo, hsh, hro, hfr_0⟩
    · refine w_iload_n dX11_node_21 rfl 3 rfl ?_
      refine w_iconst dX11_node_22 ?_
      refine w_aload_n dX11_node_23 rfl 0 rfl ?_
      refine w_iload_n dX11_node_24 rfl 1 rfl ?_
      refine w_iconst dX11_node_25 ?_
      refine w_calli (As := [.int (zI ((k : Nat) : Int)), .int (zI 1)]) (rest := [.int (zI 0), .int (zI a)]) (n := 2) (c_X11_total1 (k := k) hm hnow (by first | omega | with_reducible rfl) (by first | omega | with_reducible rfl)) gX11_node_X11_total rfl rfl rfl (by decide +kernel) ⟨Nat.le_of_ble_eq_true rfl, Nat.le_of_ble_eq_true rfl⟩ rfl (by first | omega | with_reducible rfl) hm rfl (Nat.le_of_ble_eq_true rfl) ⟨Nat.zero_le _, Nat.zero_le _⟩ dX11_node_26 rfl (fun g_7 hp_8 => ?_)
      subst g_7
      refine w_as (st' := [.int (zI ((coR c : Nat) : Int)), .int (zI 0), .int (zI a)]) (sc_i (coR_z hc) rfl) ?_
      refine w_calliS (As := [.int (zI a), .int (zI 0), .int (zI ((coR c : Nat) : Int))]) (rest := []) (n := 3) (c_X11_in (by first | omega | with_reducible rfl) (by first | omega | with_reducible rfl) (by first | omega | with_reducible rfl)) gX11_node_X11_in rfl rfl rfl (by decide +kernel) ⟨Nat.le_of_ble_eq_true rfl, Nat.le_of_ble_eq_true rfl⟩ rfl (Nat.le_of_ble_eq_true rfl) ⟨Nat.zero_le _, Nat.zero_le _⟩ dX11_node_29 rfl (fun g_9 hp_10 => ?_)
      subst g_9
      refine w_ifeqB 45 dX11_node_32 (by decide) (fun c_32 => ?_) (fun c_32 => ?_)
      · refine w_ldc2 (z := -1) (List.mem_of_getElem? (i := 1) rfl) dX11_node_45 ?_
        exact w_lret dX11_node_48 rfl (by unfold aNod; rw [if_neg (by omega)]) ⟨Ah, Be, Lo, Sh, Ro, hah, hbe, hlo, hsh, hro, hfr_0⟩
      · refine w_iload dX11_node_35 4 rfl ?_
        refine w_iconst dX11_node_37 ?_
        refine w_iconst dX11_node_38 ?_
        refine w_calliS (As := [.int (zI what), .int (zI 0), .int (zI 3)]) (rest := []) (n := 3) (c_X11_in (by first | omega | with_reducible rfl) (by first | omega | with_reducible rfl) (by first | omega | with_reducible rfl)) gX11_node_X11_in rfl rfl rfl (by decide +kernel) ⟨Nat.le_of_ble_eq_true rfl, Nat.le_of_ble_eq_true rfl⟩ rfl (Nat.le_of_ble_eq_true rfl) ⟨Nat.zero_le _, Nat.zero_le _⟩ dX11_node_39 rfl (fun g_11 hp_12 => ?_)
        subst g_11
        refine w_ifneB 49 dX11_node_42 (by decide) (fun c_42 => ?_) (fun c_42 => ?_)
        · refine w_aload_n dX11_node_49 rfl 0 rfl ?_
          refine w_iload_n dX11_node_50 rfl 1 rfl ?_
          refine w_callv (As := [.int (zI ((k : Nat) : Int))]) (rest := []) (n := 1) (c_X11_laysAhead (k := k) hm hnow hse hah (by first | omega | with_reducible rfl) (by first | omega | with_reducible rfl) (by first | omega | with_reducible rfl) (by first | omega | with_reducible rfl)) gX11_node_X11_laysAhead rfl rfl rfl (by decide +kernel) ⟨Nat.le_of_ble_eq_true rfl, Nat.le_of_ble_eq_true rfl⟩ rfl (by first | omega | with_reducible rfl) hm rfl (Nat.le_of_ble_eq_true rfl) ⟨Nat.zero_le _, Nat.zero_le _⟩ dX11_node_51 rfl (fun g_13 hp_14 => ?_)
          obtain ⟨Ah1_15, hah_16, hAh_51, hf_17⟩ := hp_14
          have hm_18 : vM cy B g_13 141 cg le sp va o0 tn aw mw fw ls gs sn sw kr := vM_fr hm (fun q h1 h2 => hf_17 q (by omega))
          have hnow_19 : vIA cy B g_13 142 49 Nw := vIA_fr hnow (fun q h1 h2 => hf_17 q (by omega))
          have hse_20 : vLA cy B g_13 146 169 Sv := vLA_fr hse (fun q h1 h2 => hf_17 q (by omega))
          have hbe_21 : vLA cy B g_13 153 366 Be := vLA_fr hbe (fun q h1 h2 => hf_17 q (by omega))
          have hlo_22 : vLA cy B g_13 154 366 Lo := vLA_fr hlo (fun q h1 h2 => hf_17 q (by omega))
          have hsh_23 : vLA cy B g_13 155 366 Sh := vLA_fr hsh (fun q h1 h2 => hf_17 q (by omega))
          have hro_24 : vIA cy B g_13 156 366 Ro := vIA_fr hro (fun q h1 h2 => hf_17 q (by omega))
          have hfr_25 : ∀ q, (q ≠ 152 ∧ q ≠ 153 ∧ q ≠ 154 ∧ q ≠ 155 ∧ q ≠ 156) → g_13 q = g q := fun q hq => (hf_17 q (by omega)).trans (hfr_0 q hq)
          refine w_aload_n dX11_node_54 rfl 0 rfl ?_
          refine w_iload_n dX11_node_55 rfl 1 rfl ?_
          refine w_callv (As := [.int (zI ((k : Nat) : Int))]) (rest := []) (n := 1) (c_X11_laysBehind (k := k) hm_18 hnow_19 hse_20 hbe_21 hlo_22 hsh_23 hro_24 (by first | omega | with_reducible rfl) (by first | omega | with_reducible rfl) (by first | omega | with_reducible rfl) (by first | omega | with_reducible rfl)) gX11_node_X11_laysBehind rfl rfl rfl (by decide +kernel) ⟨Nat.le_of_ble_eq_true rfl, Nat.le_of_ble_eq_true rfl⟩ rfl (by first | omega | with_reducible rfl) hm_18 rfl (Nat.le_of_ble_eq_true rfl) ⟨Nat.zero_le _, Nat.zero_le _⟩ dX11_node_56 rfl (fun g_26 hp_27 => ?_)
          obtain ⟨Be1_28, Lo1_29, Sh1_30, Ro1_31, hbe_32, hlo_33, hsh_34, hro_35, hNB_56, hf_36⟩ := hp_27
          have hm_37 : vM cy B g_26 141 cg le sp va o0 tn aw mw fw ls gs sn sw kr := vM_fr hm_18 (fun q h1 h2 => hf_36 q (by omega))
          have hnow_38 : vIA cy B g_26 142 49 Nw := vIA_fr hnow_19 (fun q h1 h2 => hf_36 q (by omega))
          have hse_39 : vLA cy B g_26 146 169 Sv := vLA_fr hse_20 (fun q h1 h2 => hf_36 q (by omega))
          have hah_40 : vLA cy B g_26 152 366 Ah1_15 := vLA_fr hah_16 (fun q h1 h2 => hf_36 q (by omega))
          have hfr_41 : ∀ q, (q ≠ 152 ∧ q ≠ 153 ∧ q ≠ 154 ∧ q ≠ 155 ∧ q ≠ 156) → g_26 q = g q := fun q hq => (hf_36 q (by omega)).trans (hfr_25 q hq)
          have hNV := NV_MB (c := c) (j := j.toNat) (a := a.toNat) (by omega) (by omega)
          have hmb := MB_rg hc j.toNat a.toNat
          have h60 := pow_60 (ts60 hc (j := j.toNat))
          have hahr := ah_rg (cs := clR (coT c) (coV c) j.toNat) (a := a.toNat)
          have hah6 := ah_60 hc (j := j.toNat) (a := a.toNat) (by omega)
          refine w_bipush dX11_node_59 (by decide) ?_
          refine w_iload_n dX11_node_61 rfl 2 rfl ?_
          refine w_imul dX11_node_62 ?_
          refine w_iload_n dX11_node_63 rfl 3 rfl ?_
          refine w_iadd dX11_node_64 ?_
          refine w_as (st' := [.int (zI (61 * ((j.toNat : Nat) : Int) + ((a.toNat : Nat) : Int)))]) (sc_i (by omega) rfl) ?_
          refine w_istore [(5, .int (zI (61 * ((j.toNat : Nat) : Int) + ((a.toNat : Nat) : Int)))), (0, .ref (B + 141)), (1, .int (zI ((k : Nat) : Int))), (2, .int (zI j)), (3, .int (zI a)), (4, .int (zI what))] dX11_node_65 (by decide) rfl ?_
          refine w_aload_n dX11_node_67 rfl 1 rfl ?_
          refine w_get (i := 24) (T := TX11) (NF := 32) 141 (by first | omega | with_reducible rfl) hm_37 rfl (fun _ h => (List.mem_cons_of_mem _ (List.mem_append_right _ h))) (by decide) (List.mem_of_getElem? (i := 2) rfl) rfl dX11_node_68 ?_
          refine w_iload dX11_node_71 0 rfl ?_
          refine w_lald 152 (by first | omega | with_reducible rfl) hah_40 (by first | omega | with_reducible rfl) dX11_node_73 ?_
          refine w_as (st' := [.long (zJ (ah (clR (coT c) (coV c) j.toNat) a.toNat))]) (sc_l (hAh_51 j.toNat (by omega) a.toNat (by omega)) rfl) ?_
          refine w_lconst0 dX11_node_74 ?_
          refine w_lcmp_eq 91 dX11_node_75 dX11_node_76 (by decide) (by first | omega | with_reducible rfl) (by first | omega | with_reducible rfl) (fun c_75 => ?_) (fun c_75 => ?_)
          · refine w_ldc2 (z := -4) (List.mem_of_getElem? (i := 4) rfl) dX11_node_91 ?_
            exact w_lret dX11_node_94 rfl (by unfold aNod; rw [if_pos (by omega), if_neg (fun q => by have := hNV.1.mp q; omega)]) ⟨Ah1_15, Be1_28, Lo1_29, Sh1_30, Ro1_31, hah_40, hbe_32, hlo_33, hsh_34, hro_35, hfr_41⟩
          · refine w_aload_n dX11_node_79 rfl 1 rfl ?_
            refine w_get (i := 25) (T := TX11) (NF := 32) 141 (by first | omega | with_reducible rfl) hm_37 rfl (fun _ h => (List.mem_cons_of_mem _ (List.mem_append_right _ h))) (by decide) (List.mem_of_getElem? (i := 3) rfl) rfl dX11_node_80 ?_
            refine w_iload dX11_node_83 0 rfl ?_
            refine w_lald 153 (by first | omega | with_reducible rfl) hbe_32 (by first | omega | with_reducible rfl) dX11_node_85 ?_
            refine w_as (st' := [.long (zJ (MB c 1 j.toNat a.toNat))]) (sc_l (hNB_56 j.toNat (Nat.zero_le _) (by omega) a.toNat (by omega)).1 rfl) ?_
            refine w_lconst0 dX11_node_86 ?_
            refine w_lcmp_ne 95 dX11_node_87 dX11_node_88 (by decide) (by first | omega | with_reducible rfl) (by first | omega | with_reducible rfl) (fun c_87 => ?_) (fun c_87 => ?_)
            · refine w_iload dX11_node_95 5 rfl ?_
              refine w_if_ne 110 dX11_node_97 (by decide) (by first | omega | with_reducible rfl) (fun c_97 => ?_) (fun c_97 => ?_)
              · refine w_iload dX11_node_110 5 rfl ?_
                refine w_iconst dX11_node_112 ?_
                refine w_icmp_ne 126 dX11_node_113 (by decide) (by first | omega | with_reducible rfl) (by first | omega | with_reducible rfl) (fun c_113 => ?_) (fun c_113 => ?_)
                · refine w_iload dX11_node_126 5 rfl ?_
                  refine w_iconst dX11_node_128 ?_
                  refine w_icmp_ne 142 dX11_node_129 (by decide) (by first | omega | with_reducible rfl) (by first | omega | with_reducible rfl) (fun c_129 => ?_) (fun c_129 => ?_)
                  · refine w_aload_n dX11_node_142 rfl 1 rfl ?_
                    refine w_get (i := 27) (T := TX11) (NF := 32) 141 (by first | omega | with_reducible rfl) hm_37 rfl (fun _ h => (List.mem_cons_of_mem _ (List.mem_append_right _ h))) (by decide) (List.mem_of_getElem? (i := 6) rfl) rfl dX11_node_143 ?_
                    refine w_iload dX11_node_146 0 rfl ?_
                    refine w_lald 155 (by first | omega | with_reducible rfl) hsh_34 (by first | omega | with_reducible rfl) dX11_node_148 ?_
                    refine w_as (st' := [.long (zJ (MB c 3 j.toNat a.toNat))]) (sc_l (hNB_56 j.toNat (Nat.zero_le _) (by omega) a.toNat (by omega)).2.2.1 rfl) ?_
                    exact w_lret dX11_node_149 rfl (by have hq := hNV.1.mpr ⟨by omega, by omega⟩; have hq2 := hNV.2 hq; unfold aNod; rw [if_pos (by omega), if_pos hq]; first | (rw [show what.toNat = 0 by omega, hq2.1]; done) | (rw [show what.toNat = 1 by omega, hq2.2 1 (by omega)]; done) | (rw [show what.toNat = 2 by omega, hq2.2 2 (by omega)]; done) | (rw [show what.toNat = 3 by omega, hq2.2 3 (by omega)]; done)) ⟨Ah1_15, Be1_28, Lo1_29, Sh1_30, Ro1_31, hah_40, hbe_32, hlo_33, hsh_34, hro_35, hfr_41⟩
                  · refine w_aload_n dX11_node_132 rfl 1 rfl ?_
                    refine w_get (i := 26) (T := TX11) (NF := 32) 141 (by first | omega | with_reducible rfl) hm_37 rfl (fun _ h => (List.mem_cons_of_mem _ (List.mem_append_right _ h))) (by decide) (List.mem_of_getElem? (i := 5) rfl) rfl dX11_node_133 ?_
                    refine w_iload dX11_node_136 0 rfl ?_
                    refine w_lald 154 (by first | omega | with_reducible rfl) hlo_33 (by first | omega | with_reducible rfl) dX11_node_138 ?_
                    refine w_as (st' := [.long (zJ (MB c 2 j.toNat a.toNat))]) (sc_l (hNB_56 j.toNat (Nat.zero_le _) (by omega) a.toNat (by omega)).2.1 rfl) ?_
                    refine w_goto 149 dX11_node_139 (by decide) ?_
                    exact w_lret dX11_node_149 rfl (by have hq := hNV.1.mpr ⟨by omega, by omega⟩; have hq2 := hNV.2 hq; unfold aNod; rw [if_pos (by omega), if_pos hq]; first | (rw [show what.toNat = 0 by omega, hq2.1]; done) | (rw [show what.toNat = 1 by omega, hq2.2 1 (by omega)]; done) | (rw [show what.toNat = 2 by omega, hq2.2 2 (by omega)]; done) | (rw [show what.toNat = 3 by omega, hq2.2 3 (by omega)]; done)) ⟨Ah1_15, Be1_28, Lo1_29, Sh1_30, Ro1_31, hah_40, hbe_32, hlo_33, hsh_34, hro_35, hfr_41⟩
                · refine w_aload_n dX11_node_116 rfl 1 rfl ?_
                  refine w_get (i := 25) (T := TX11) (NF := 32) 141 (by first | omega | with_reducible rfl) hm_37 rfl (fun _ h => (List.mem_cons_of_mem _ (List.mem_append_right _ h))) (by decide) (List.mem_of_getElem? (i := 3) rfl) rfl dX11_node_117 ?_
                  refine w_iload dX11_node_120 0 rfl ?_
                  refine w_lald 153 (by first | omega | with_reducible rfl) hbe_32 (by first | omega | with_reducible rfl) dX11_node_122 ?_
                  refine w_as (st' := [.long (zJ (MB c 1 j.toNat a.toNat))]) (sc_l (hNB_56 j.toNat (Nat.zero_le _) (by omega) a.toNat (by omega)).1 rfl) ?_
                  refine w_goto 149 dX11_node_123 (by decide) ?_
                  exact w_lret dX11_node_149 rfl (by have hq := hNV.1.mpr ⟨by omega, by omega⟩; have hq2 := hNV.2 hq; unfold aNod; rw [if_pos (by omega), if_pos hq]; first | (rw [show what.toNat = 0 by omega, hq2.1]; done) | (rw [show what.toNat = 1 by omega, hq2.2 1 (by omega)]; done) | (rw [show what.toNat = 2 by omega, hq2.2 2 (by omega)]; done) | (rw [show what.toNat = 3 by omega, hq2.2 3 (by omega)]; done)) ⟨Ah1_15, Be1_28, Lo1_29, Sh1_30, Ro1_31, hah_40, hbe_32, hlo_33, hsh_34, hro_35, hfr_41⟩
              · refine w_aload_n dX11_node_100 rfl 1 rfl ?_
                refine w_get (i := 24) (T := TX11) (NF := 32) 141 (by first | omega | with_reducible rfl) hm_37 rfl (fun _ h => (List.mem_cons_of_mem _ (List.mem_append_right _ h))) (by decide) (List.mem_of_getElem? (i := 2) rfl) rfl dX11_node_101 ?_
                refine w_iload dX11_node_104 0 rfl ?_
                refine w_lald 152 (by first | omega | with_reducible rfl) hah_40 (by first | omega | with_reducible rfl) dX11_node_106 ?_
                refine w_as (st' := [.long (zJ (ah (clR (coT c) (coV c) j.toNat) a.toNat))]) (sc_l (hAh_51 j.toNat (by omega) a.toNat (by omega)) rfl) ?_
                refine w_goto 149 dX11_node_107 (by decide) ?_
                exact w_lret dX11_node_149 rfl (by have hq := hNV.1.mpr ⟨by omega, by omega⟩; have hq2 := hNV.2 hq; unfold aNod; rw [if_pos (by omega), if_pos hq]; first | (rw [show what.toNat = 0 by omega, hq2.1]; done) | (rw [show what.toNat = 1 by omega, hq2.2 1 (by omega)]; done) | (rw [show what.toNat = 2 by omega, hq2.2 2 (by omega)]; done) | (rw [show what.toNat = 3 by omega, hq2.2 3 (by omega)]; done)) ⟨Ah1_15, Be1_28, Lo1_29, Sh1_30, Ro1_31, hah_40, hbe_32, hlo_33, hsh_34, hro_35, hfr_41⟩
            · refine w_ldc2 (z := -4) (List.mem_of_getElem? (i := 4) rfl) dX11_node_91 ?_
              exact w_lret dX11_node_94 rfl (by unfold aNod; rw [if_pos (by omega), if_neg (fun q => by have := hNV.1.mp q; omega)]) ⟨Ah1_15, Be1_28, Lo1_29, Sh1_30, Ro1_31, hah_40, hbe_32, hlo_33, hsh_34, hro_35, hfr_41⟩
        · refine w_ldc2 (z := -1) (List.mem_of_getElem? (i := 1) rfl) dX11_node_45 ?_
          exact w_lret dX11_node_48 rfl (by unfold aNod; rw [if_neg (by omega)]) ⟨Ah, Be, Lo, Sh, Ro, hah, hbe, hlo, hsh, hro, hfr_0⟩

set_option maxHeartbeats 4000000 in
set_option maxRecDepth 100000 in
theorem m_n_X11_table {l : Launch} {D : va_G} {cy : Nat → ClassId} {B N : Nat} {g : Nat → va_E} {cg le sp va o0 tn aw mw fw ls gs sn sw kr : Int} {Nw : Int → Int} {S : St} {s t j : Int} (hm : vM cy B g 141 cg le sp va o0 tn aw mw fw ls gs sn sw kr) (hnow : vIA cy B g 142 49 Nw) (hN : 160 ≤ N) (hER : ER Nw S) (h_s : -2147483648 ≤ s ∧ s < 2147483648) (h_t : -2147483648 ≤ t ∧ t < 2147483648) (h_j : -2147483648 ≤ j ∧ j < 2147483648) (hb : ¬ ((0 ≤ s ∧ s < S.length))) : CTi l yX11_table wsX11_table (rmo 5 121) D cy B N g [.ref (B + 141), .int (zI s), .int (zI t), .int (zI j)] (-1) (fun g' => g' = g) := by
  refine WW_of (cc := cX11_table) (maxL := 8) (ret := (some .int)) (own := RX11) (by decide) rfl rfl (Nat.le_of_ble_eq_true rfl) rfl ?_
  intro pp ee ss mm bl me co hmn
  refine w_aload_n dX11_table_0 rfl 0 rfl ?_
  refine w_iload_n dX11_table_1 rfl 1 rfl ?_
  refine w_iload_n dX11_table_2 rfl 3 rfl ?_
  refine w_calli (As := [.int (zI s), .int (zI j)]) (rest := []) (n := 2) (c_X11_isColumn hm hnow (by first | omega | with_reducible rfl) (by first | omega | with_reducible rfl) (by first | omega | with_reducible rfl) (by first | omega | with_reducible rfl)) gX11_table_X11_isColumn rfl rfl rfl (by decide +kernel) ⟨Nat.le_of_ble_eq_true rfl, Nat.le_of_ble_eq_true rfl⟩ rfl (by first | omega | with_reducible rfl) hm rfl (Nat.le_of_ble_eq_true rfl) ⟨Nat.zero_le _, Nat.zero_le _⟩ dX11_table_3 rfl (fun g_1 hp_2 => ?_)
  subst g_1
  refine w_ifeqB 13 dX11_table_6 (by decide) (fun c_6 => ?_) (fun c_6 => ?_)
  · refine w_iconst dX11_table_13 ?_
    exact w_iret dX11_table_14 rfl (by first | with_reducible rfl | omega | (split <;> omega)) rfl
  · exfalso; omega
set_option maxHeartbeats 4000000 in
set_option maxRecDepth 100000 in
theorem m_y_X11_table {l : Launch} {D : va_G} {cy : Nat → ClassId} {B N : Nat} {g : Nat → va_E} {cg le sp va o0 tn aw mw fw ls gs sn sw kr : Int} {Nw Sv : Int → Int} {Be Lo Sh Ro : Int → Int} {S : St} {k : Nat} {c : List Co} {t j : Int} (hm : vM cy B g 141 cg le sp va o0 tn aw mw fw ls gs sn sw kr) (hnow : vIA cy B g 142 49 Nw) (hse : vLA cy B g 146 169 Sv) (hbe : vLA cy B g 153 366 Be) (hlo : vLA cy B g 154 366 Lo) (hsh : vLA cy B g 155 366 Sh) (hro : vIA cy B g 156 366 Ro) (hN : 160 ≤ N) (hER : ER Nw S) (hkS : k < S.length) (hcS : S.getD k [] = c) (hc : cok c) (h2 : 2 ≤ c.length) (hSv : SvOK Sv) (h_t : -2147483648 ≤ t ∧ t < 2147483648) (h_j : -2147483648 ≤ j ∧ j < 2147483648) : CTi l yX11_table wsX11_table (rmo 5 121) D cy B N g [.ref (B + 141), .int (zI ((k : Nat) : Int)), .int (zI t), .int (zI j)] (aTab c t j) (fun g' => ∃ Be1 : Int → Int, ∃ Lo1 : Int → Int, ∃ Sh1 : Int → Int, ∃ Ro1 : Int → Int, vLA cy B g' 153 366 Be1 ∧ vLA cy B g' 154 366 Lo1 ∧ vLA cy B g' 155 366 Sh1 ∧ vIA cy B g' 156 366 Ro1 ∧ (∀ q, (q ≠ 153 ∧ q ≠ 154 ∧ q ≠ 155 ∧ q ≠ 156) → g' q = g q)) := by
  refine WW_of (cc := cX11_table) (maxL := 8) (ret := (some .int)) (own := RX11) (by decide) rfl rfl (Nat.le_of_ble_eq_true rfl) rfl ?_
  intro pp ee ss mm bl me co hmn
  have hfr_0 : ∀ q, (q ≠ 153 ∧ q ≠ 154 ∧ q ≠ 155 ∧ q ≠ 156) → g q = g q := fun _ _ => rfl
  have hmc : MC Nw k c := by have h := hER.2 k hkS; rw [hcS] at h; exact h
  have hk3 := hmc.1
  have hcS2 : S.getD (((k : Nat) : Int)).toNat [] = c := by rw [Int.toNat_natCast]; exact hcS
  have hco := coL_S hc
  have hc5 := hc.1
  have htc := tc_small hc
  refine w_aload_n dX11_table_0 rfl 0 rfl ?_
  refine w_iload_n dX11_table_1 rfl 1 rfl ?_
  refine w_iload_n dX11_table_2 rfl 3 rfl ?_
  refine w_calli (As := [.int (zI ((k : Nat) : Int)), .int (zI j)]) (rest := []) (n := 2) (c_X11_isColumn hm hnow (by first | omega | with_reducible rfl) (by first | omega | with_reducible rfl) (by first | omega | with_reducible rfl) (by first | omega | with_reducible rfl)) gX11_table_X11_isColumn rfl rfl rfl (by decide +kernel) ⟨Nat.le_of_ble_eq_true rfl, Nat.le_of_ble_eq_true rfl⟩ rfl (by first | omega | with_reducible rfl) hm rfl (Nat.le_of_ble_eq_true rfl) ⟨Nat.zero_le _, Nat.zero_le _⟩ dX11_table_3 rfl (fun g_1 hp_2 => ?_)
  subst g_1
  refine w_ifeqB 13 dX11_table_6 (by decide) (fun c_6 => ?_) (fun c_6 => ?_)
  · rw [hcS2] at c_6
    refine w_iconst dX11_table_13 ?_
    exact w_iret dX11_table_14 rfl (by unfold aTab; rw [if_neg (by omega)]) ⟨Be, Lo, Sh, Ro, hbe, hlo, hsh, hro, hfr_0⟩
  · rw [hcS2] at c_6
    refine w_iload_n dX11_table_9 rfl 2 rfl ?_
    refine w_if_ge 15 dX11_table_10 (by decide) (by first | omega | with_reducible rfl) (fun c_10 => ?_) (fun c_10 => ?_)
    · refine w_aload_n dX11_table_15 rfl 0 rfl ?_
      refine w_iload_n dX11_table_16 rfl 1 rfl ?_
      refine w_callv (As := [.int (zI ((k : Nat) : Int))]) (rest := []) (n := 1) (c_X11_laysBehind (k := k) hm hnow hse hbe hlo hsh hro (by first | omega | with_reducible rfl) (by first | omega | with_reducible rfl) (by first | omega | with_reducible rfl) (by first | omega | with_reducible rfl)) gX11_table_X11_laysBehind rfl rfl rfl (by decide +kernel) ⟨Nat.le_of_ble_eq_true rfl, Nat.le_of_ble_eq_true rfl⟩ rfl (by first | omega | with_reducible rfl) hm rfl (Nat.le_of_ble_eq_true rfl) ⟨Nat.zero_le _, Nat.zero_le _⟩ dX11_table_17 rfl (fun g_3 hp_4 => ?_)
      obtain ⟨Be1_5, Lo1_6, Sh1_7, Ro1_8, hbe_9, hlo_10, hsh_11, hro_12, hNB_17, hf_13⟩ := hp_4
      have hm_14 : vM cy B g_3 141 cg le sp va o0 tn aw mw fw ls gs sn sw kr := vM_fr hm (fun q h1 h2 => hf_13 q (by omega))
      have hnow_15 : vIA cy B g_3 142 49 Nw := vIA_fr hnow (fun q h1 h2 => hf_13 q (by omega))
      have hse_16 : vLA cy B g_3 146 169 Sv := vLA_fr hse (fun q h1 h2 => hf_13 q (by omega))
      have hfr_17 : ∀ q, (q ≠ 153 ∧ q ≠ 154 ∧ q ≠ 155 ∧ q ≠ 156) → g_3 q = g q := fun q hq => (hf_13 q (by omega)).trans (hfr_0 q hq)
      have h00 := (hNB_17 0 (Nat.le_refl _) (Nat.zero_le _) 0 (by omega)).2.2.2
      have h01 : MB c 4 0 0 = tc (coL c) (coR c) := MB_in ⟨Nat.zero_le _, hco.2.2.1⟩
      have hth0 : thr (coT c) (coV c) c.length (coR c) 0 0 := ⟨Nat.zero_le _, Nat.zero_le _, Nat.zero_le _, hco.2.2.1⟩
      refine w_iload_n dX11_table_20 rfl 2 rfl ?_
      refine w_aload_n dX11_table_21 rfl 0 rfl ?_
      refine w_get (i := 28) (T := TX11) (NF := 32) 141 (by first | omega | with_reducible rfl) hm_14 rfl (fun _ h => (List.mem_cons_of_mem _ (List.mem_append_right _ h))) (by decide) (List.mem_of_getElem? (i := 1) rfl) rfl dX11_table_22 ?_
      refine w_iconst dX11_table_25 ?_
      refine w_iald 156 (by first | omega | with_reducible rfl) hro_12 (by first | omega | with_reducible rfl) dX11_table_26 ?_
      refine w_as (st' := [.int (zI (tc (coL c) (coR c))), .int (zI t)]) (sc_i (by rw [← h01, ← h00]; rfl) rfl) ?_
      refine w_icmp_lt 32 dX11_table_27 (by decide) (by first | omega | with_reducible rfl) (by first | omega | with_reducible rfl) (fun c_27 => ?_) (fun c_27 => ?_)
      · refine w_iload_n dX11_table_32 rfl 2 rfl ?_
        refine w_istore [(4, .int (zI t)), (0, .ref (B + 141)), (1, .int (zI ((k : Nat) : Int))), (2, .int (zI t)), (3, .int (zI j))] dX11_table_33 (by decide) rfl ?_
        refine w_iconst dX11_table_35 ?_
        refine w_istore [(5, .int (zI 0)), (4, .int (zI t)), (0, .ref (B + 141)), (1, .int (zI ((k : Nat) : Int))), (2, .int (zI t)), (3, .int (zI j))] dX11_table_36 (by decide) rfl ?_
        refine w_iconst dX11_table_38 ?_
        refine w_istore [(6, .int (zI 0)), (5, .int (zI 0)), (4, .int (zI t)), (0, .ref (B + 141)), (1, .int (zI ((k : Nat) : Int))), (2, .int (zI t)), (3, .int (zI j))] dX11_table_39 (by decide) rfl ?_
        refine w_iconst dX11_table_41 ?_
        refine w_istore [(7, .int (zI 0)), (6, .int (zI 0)), (5, .int (zI 0)), (4, .int (zI t)), (0, .ref (B + 141)), (1, .int (zI ((k : Nat) : Int))), (2, .int (zI t)), (3, .int (zI j))] dX11_table_42 (by decide) rfl ?_
        refine w_sub [(0, .ref (B + 141)), (3, .int (zI j)), (4, .int (zI t)), (5, .int (zI 0)), (6, .int (zI 0)), (7, .int (zI 0))] [4, 7, 3, 2, 1, 0] rfl ?_
        refine w_lv (lv' := [(0, .ref (B + 141)), (3, .int (zI j)), (4, .int (zI t)), (5, .int (zI ((0 : Nat) : Int))), (6, .int (zI ((0 : Nat) : Int))), (7, .int (zI ((0 : Nat) : Int)))]) (lc_s (lc_s (lc_i (by first | omega | with_reducible rfl) (lc_i (by first | omega | with_reducible rfl) (lc_i (by first | omega | with_reducible rfl) (lc_i (by first | omega | with_reducible rfl) rfl)))))) ?_
        refine w_loop4 (fun (kk : Nat) (l : Int) (a : Nat) (xl : Nat) => ((kk : Nat) : Int) ≤ j + 1 ∧ un (coT c) (coV c) c.length (coR c) t kk = (a, l, xl) ∧ thr (coT c) (coV c) c.length (coR c) kk a ∧ (0 ≤ l ∧ l < 2147483648 ∧ l < tc (clL (coT c) (coV c) kk (c.length - kk)) (coR c - a))) (fun (kk : Nat) (l : Int) (a : Nat) (xl : Nat) => (j + 1).toNat - kk) (fun (kk : Nat) (l : Int) (a : Nat) (xl : Nat) => g_3) (fun (kk : Nat) (l : Int) (a : Nat) (xl : Nat) => [(0, .ref (B + 141)), (3, .int (zI j)), (4, .int (zI l)), (5, .int (zI ((a : Nat) : Int))), (6, .int (zI ((xl : Nat) : Int))), (7, .int (zI ((kk : Nat) : Int)))]) ?_ 0 t 0 0 ⟨(by first | omega | with_reducible rfl), rfl, hth0, ⟨by omega, by omega, by show t < tc (coL c) (coR c); omega⟩⟩
        rintro kk l a xl ⟨hkk, hun, hth, hl⟩ ih_44
        refine w_iload dX11_table_44 5 rfl ?_
        refine w_iload_n dX11_table_46 rfl 1 rfl ?_
        refine w_icmp_gt 118 dX11_table_47 (by decide) (by first | omega | with_reducible rfl) (by first | omega | with_reducible rfl) (fun c_47 => ?_) (fun c_47 => ?_)
        · have hkj : kk = j.toNat + 1 := by omega
          refine w_iload dX11_table_118 4 rfl ?_
          exact w_iret dX11_table_120 rfl (by unfold aTab; rw [if_pos (by omega), show min (j.toNat + 1) c.length = kk by omega, hun]) ⟨Be1_5, Lo1_6, Sh1_7, Ro1_8, hbe_9, hlo_10, hsh_11, hro_12, hfr_17⟩
        · have hklt : kk < c.length := by omega
          have hlm := thr_lo hth hklt
          have htR := hth.2.1
          refine w_iconst dX11_table_50 ?_
          refine w_istore [(6, .int (zI 0)), (0, .ref (B + 141)), (3, .int (zI j)), (4, .int (zI l)), (5, .int (zI ((a : Nat) : Int))), (7, .int (zI ((kk : Nat) : Int)))] dX11_table_51 (by decide) rfl ?_
          refine w_sub [(0, .ref (B + 141)), (3, .int (zI j)), (4, .int (zI l)), (5, .int (zI ((a : Nat) : Int))), (6, .int (zI 0)), (7, .int (zI ((kk : Nat) : Int)))] [1, 2, 3, 4, 0, 5] rfl ?_
          refine w_lv (lv' := [(0, .ref (B + 141)), (3, .int (zI j)), (4, .int (zI l)), (5, .int (zI ((a : Nat) : Int))), (6, .int (zI ((0 : Nat) : Int))), (7, .int (zI ((kk : Nat) : Int)))]) (lc_s (lc_s (lc_i (by first | omega | with_reducible rfl) (lc_s (lc_i (by first | omega | with_reducible rfl) (lc_s rfl)))))) ?_
          refine w_loop2 (fun (x : Nat) (lx : Int) => tbi c kk a l x lx ∧ lx ≤ l) (fun (x : Nat) (lx : Int) => (tmx c kk a) + 1 - x) (fun (x : Nat) (lx : Int) => g_3) (fun (x : Nat) (lx : Int) => [(0, .ref (B + 141)), (3, .int (zI j)), (4, .int (zI lx)), (5, .int (zI ((a : Nat) : Int))), (6, .int (zI ((x : Nat) : Int))), (7, .int (zI ((kk : Nat) : Int)))]) ?_ 0 l ⟨(tbi_0 hklt hth ⟨hl.1, hl.2.2⟩), (by first | omega | with_reducible rfl)⟩
          rintro x lx ⟨htb, hlx⟩ ih_53
          have htx := htb.1
          have hrx := (MB_rg hc (kk + 1) (a + x)).2.2.2.1
          have hmr : mr c kk a x = MB c 4 (kk + 1) (a + x) := rfl
          have hlx0 := htb.2.1
          have htmx : (tmx c kk a) ≤ coR c - a := Nat.min_le_right _ _
          refine w_iload dX11_table_53 2 rfl ?_
          refine w_aload_n dX11_table_55 rfl 0 rfl ?_
          refine w_get (i := 28) (T := TX11) (NF := 32) 141 (by first | omega | with_reducible rfl) hm_14 rfl (fun _ h => (List.mem_cons_of_mem _ (List.mem_append_right _ h))) (by decide) (List.mem_of_getElem? (i := 1) rfl) rfl dX11_table_56 ?_
          refine w_bipush dX11_table_59 (by decide) ?_
          refine w_iload dX11_table_61 5 rfl ?_
          refine w_iconst dX11_table_63 ?_
          refine w_iadd dX11_table_64 ?_
          refine w_imul dX11_table_65 ?_
          refine w_iload dX11_table_66 3 rfl ?_
          refine w_iadd dX11_table_68 ?_
          refine w_iload dX11_table_69 4 rfl ?_
          refine w_iadd dX11_table_71 ?_
          refine w_as (st' := [.int (zI (61 * (((kk + 1) : Nat) : Int) + (((a + x) : Nat) : Int))), .ref (B + 156), .int (zI lx)]) (sc_i (by omega) rfl) ?_
          refine w_iald 156 (by first | omega | with_reducible rfl) hro_12 (by first | omega | with_reducible rfl) dX11_table_72 ?_
          refine w_as (st' := [.int (zI (mr c kk a x)), .int (zI lx)]) (sc_i (hNB_17 (kk + 1) (Nat.zero_le _) (by omega) (a + x) (by unfold tmx at *; omega)).2.2.2 rfl) ?_
          refine w_icmp_lt 105 dX11_table_73 (by decide) (by first | omega | with_reducible rfl) (by first | omega | with_reducible rfl) (fun c_73 => ?_) (fun c_73 => ?_)
          · obtain ⟨hxlo, hpk⟩ := tbi_e hlm htb c_73
            have hus := un_step hklt hth hun hpk ⟨hxlo, htx⟩ c_73
            refine w_iload dX11_table_105 3 rfl ?_
            refine w_iload dX11_table_107 4 rfl ?_
            refine w_iadd dX11_table_109 ?_
            refine w_istore [(5, .int (zI (((a : Nat) : Int) + ((x : Nat) : Int)))), (0, .ref (B + 141)), (3, .int (zI j)), (4, .int (zI lx)), (6, .int (zI ((x : Nat) : Int))), (7, .int (zI ((kk : Nat) : Int)))] dX11_table_110 (by decide) rfl ?_
            refine w_iinc 5 [(7, .int (zI (((kk : Nat) : Int) + 1))), (5, .int (zI (((a : Nat) : Int) + ((x : Nat) : Int)))), (0, .ref (B + 141)), (3, .int (zI j)), (4, .int (zI lx)), (6, .int (zI ((x : Nat) : Int)))] dX11_table_112 rfl (by decide) rfl ?_
            refine w_goto 44 dX11_table_115 (by decide) ?_
            refine w_sub [(0, .ref (B + 141)), (3, .int (zI j)), (4, .int (zI lx)), (5, .int (zI (((a : Nat) : Int) + ((x : Nat) : Int)))), (6, .int (zI ((x : Nat) : Int))), (7, .int (zI (((kk : Nat) : Int) + 1)))] [2, 3, 4, 1, 5, 0] rfl ?_
            refine w_lv (lv' := [(0, .ref (B + 141)), (3, .int (zI j)), (4, .int (zI lx)), (5, .int (zI (((a + x) : Nat) : Int))), (6, .int (zI ((x : Nat) : Int))), (7, .int (zI (((kk + 1) : Nat) : Int)))]) (lc_s (lc_s (lc_i (by first | omega | with_reducible rfl) (lc_i (by first | omega | with_reducible rfl) (lc_i (by first | omega | with_reducible rfl) (lc_i (by first | omega | with_reducible rfl) rfl)))))) ?_
            exact ih_44 (kk + 1) lx (a + x) x ⟨(by first | omega | with_reducible rfl), hus.1, hus.2.1, ⟨htb.2.1, by omega, hus.2.2⟩⟩ (by first | omega | with_reducible rfl)
          · refine w_iload dX11_table_76 2 rfl ?_
            refine w_aload_n dX11_table_78 rfl 0 rfl ?_
            refine w_get (i := 28) (T := TX11) (NF := 32) 141 (by first | omega | with_reducible rfl) hm_14 rfl (fun _ h => (List.mem_cons_of_mem _ (List.mem_append_right _ h))) (by decide) (List.mem_of_getElem? (i := 1) rfl) rfl dX11_table_79 ?_
            refine w_bipush dX11_table_82 (by decide) ?_
            refine w_iload dX11_table_84 5 rfl ?_
            refine w_iconst dX11_table_86 ?_
            refine w_iadd dX11_table_87 ?_
            refine w_imul dX11_table_88 ?_
            refine w_iload dX11_table_89 3 rfl ?_
            refine w_iadd dX11_table_91 ?_
            refine w_iload dX11_table_92 4 rfl ?_
            refine w_iadd dX11_table_94 ?_
            refine w_as (st' := [.int (zI (61 * (((kk + 1) : Nat) : Int) + (((a + x) : Nat) : Int))), .ref (B + 156), .int (zI lx)]) (sc_i (by omega) rfl) ?_
            refine w_iald 156 (by first | omega | with_reducible rfl) hro_12 (by first | omega | with_reducible rfl) dX11_table_95 ?_
            refine w_as (st' := [.int (zI (mr c kk a x)), .int (zI lx)]) (sc_i (hNB_17 (kk + 1) (Nat.zero_le _) (by omega) (a + x) (by unfold tmx at *; omega)).2.2.2 rfl) ?_
            refine w_isub dX11_table_96 ?_
            refine w_istore [(4, .int (zI (lx - (mr c kk a x)))), (0, .ref (B + 141)), (3, .int (zI j)), (5, .int (zI ((a : Nat) : Int))), (6, .int (zI ((x : Nat) : Int))), (7, .int (zI ((kk : Nat) : Int)))] dX11_table_97 (by decide) rfl ?_
            refine w_iinc 4 [(6, .int (zI (((x : Nat) : Int) + 1))), (4, .int (zI (lx - (mr c kk a x)))), (0, .ref (B + 141)), (3, .int (zI j)), (5, .int (zI ((a : Nat) : Int))), (7, .int (zI ((kk : Nat) : Int)))] dX11_table_99 rfl (by decide) rfl ?_
            refine w_goto 53 dX11_table_102 (by decide) ?_
            refine w_sub [(0, .ref (B + 141)), (3, .int (zI j)), (4, .int (zI (lx - (mr c kk a x)))), (5, .int (zI ((a : Nat) : Int))), (6, .int (zI (((x : Nat) : Int) + 1))), (7, .int (zI ((kk : Nat) : Int)))] [2, 3, 1, 4, 0, 5] rfl ?_
            refine w_lv (lv' := [(0, .ref (B + 141)), (3, .int (zI j)), (4, .int (zI (lx - (mr c kk a x)))), (5, .int (zI ((a : Nat) : Int))), (6, .int (zI (((x + 1) : Nat) : Int))), (7, .int (zI ((kk : Nat) : Int)))]) (lc_s (lc_s (lc_i (by first | omega | with_reducible rfl) (lc_s (lc_i (by first | omega | with_reducible rfl) (lc_s rfl)))))) ?_
            exact ih_53 (x + 1) (lx - (mr c kk a x)) ⟨(tbi_s hc htb (by omega)), (by first | omega | with_reducible rfl)⟩ (by first | omega | with_reducible rfl)
      · refine w_iconst dX11_table_30 ?_
        exact w_iret dX11_table_31 rfl (by unfold aTab; rw [if_neg (by omega)]) ⟨Be1_5, Lo1_6, Sh1_7, Ro1_8, hbe_9, hlo_10, hsh_11, hro_12, hfr_17⟩
    · refine w_iconst dX11_table_13 ?_
      exact w_iret dX11_table_14 rfl (by unfold aTab; rw [if_neg (by omega)]) ⟨Be, Lo, Sh, Ro, hbe, hlo, hsh, hro, hfr_0⟩

theorem lvS_0 {c : List Co} (hc : cok c) {Tr Su So : Int → Int} (h2 : 1 ≤ c.length) : ∀ i : Nat, i < 1 → lvS c (uZ Tr 0 (-1)) (uZ Su 0 0) (uZ So 0 1) i := fun i hi => by
  have e : i = 0 := by omega
  subst e
  have h := hc.2 0 (by omega) (by omega)
  have hco := coL_S hc
  have e0 : ((0 : Nat) : Int) = 0 := rfl
  unfold lvS
  rw [e0, uZ_same, uZ_same, uZ_same]
  exact ⟨⟨Int.le_refl _, by omega⟩, ⟨Int.le_refl _, Nat.zero_le _, hco.2.2.1⟩, wok_1 hco.2.1⟩
theorem rmS_0 {b : Bool} {c : List Co} (hc : cok c) {Tr Su So : Int → Int} (h2 : 1 ≤ c.length) : 0 + rmS b c (uZ Tr 0 (-1)) (uZ Su 0 0) (uZ So 0 1) 1 = wkC b (coP c) (coL c) (coR c) 1 := by
  have h := rmS_new (b := b) hc (Tr := Tr) (Su := Su) (So := So) (Tr' := uZ Tr 0 (-1)) (Su' := uZ Su 0 0) (So' := uZ So 0 1) (j := 0) (a := 0) (w := 1) (by omega) ⟨Nat.zero_le _, (coL_S hc).2.2.1⟩ (fun i hi => absurd hi (Nat.not_lt_zero _)) (uZ_same _ _ _) (uZ_same _ _ _) (uZ_same _ _ _)
  rw [Int.zero_add]
  refine h.trans ?_
  show 0 + wkC b (coP c) (coL c) (coR c) 1 = _
  exact Int.zero_add _
theorem lvS_low {c : List Co} {Tj Sj Oj : Int → Int} {j1 j : Nat} {v : Int} (h : ∀ i : Nat, i < j1 → lvS c Tj Sj Oj i) (hj : j1 = j + 1) (i : Nat) (hi : i < j) : lvS c (uZ Tj ((j : Nat) : Int) v) Sj Oj i := by
  have h1 := h i (by omega)
  unfold lvS
  rw [uZ_ne (by omega)]
  exact h1
theorem lvS_same {c : List Co} {Tj Sj Oj : Int → Int} {j1 j : Nat} (h : ∀ i : Nat, i < j1 → lvS c Tj Sj Oj i) (hj : j1 = j + 1) (i : Nat) (hi : i < j + 1) (hT : Tj ((j : Nat) : Int) + 1 ≤ coT c ((j : Nat) : Int)) : lvS c (uZ Tj ((j : Nat) : Int) (Tj ((j : Nat) : Int) + 1)) Sj Oj i := by
  by_cases q : i = j
  · subst q
    have h1 := h i (by omega)
    unfold lvS
    rw [uZ_same]
    exact ⟨⟨by have := h1.1; omega, hT⟩, h1.2⟩
  · exact lvS_low h hj i (by omega)
theorem lvS_new {c : List Co} {Tj Sj Oj : Int → Int} {j1 j : Nat} {a : Int} {w : Int} (h : ∀ i : Nat, i < j1 → lvS c Tj Sj Oj i) (hj : j1 = j + 1) (i : Nat) (hi : i < j + 1 + 1) (hT : Tj ((j : Nat) : Int) + 1 ≤ coT c ((j : Nat) : Int) ∧ -1 ≤ coT c (((j + 1 : Nat)) : Int)) (ha : 0 ≤ a ∧ a.toNat ≤ coR c ∧ coR c - a.toNat ≤ tsum (clL (coT c) (coV c) (j + 1) (c.length - (j + 1)))) (hw : wok w (clL (coT c) (coV c) (j + 1) (c.length - (j + 1)))) : lvS c (uZ (uZ Tj ((j : Nat) : Int) (Tj ((j : Nat) : Int) + 1)) (((j + 1 : Nat)) : Int) (-1)) (uZ Sj (((j + 1 : Nat)) : Int) a) (uZ Oj (((j + 1 : Nat)) : Int) w) i := by
  by_cases q : i = j + 1
  · subst q
    unfold lvS
    rw [uZ_same, uZ_same, uZ_same]
    exact ⟨⟨Int.le_refl _, hT.2⟩, ha, hw⟩
  · have h1 := lvS_same h hj i (by omega) hT.1
    unfold lvS at h1 ⊢
    have e1 : uZ (uZ Tj ((j : Nat) : Int) (Tj ((j : Nat) : Int) + 1)) (((j + 1 : Nat)) : Int) (-1) ((i : Nat) : Int) = uZ Tj ((j : Nat) : Int) (Tj ((j : Nat) : Int) + 1) ((i : Nat) : Int) := uZ_ne (by omega)
    have e2 : uZ Sj (((j + 1 : Nat)) : Int) a ((i : Nat) : Int) = Sj ((i : Nat) : Int) := uZ_ne (by omega)
    have e3 : uZ Oj (((j + 1 : Nat)) : Int) w ((i : Nat) : Int) = Oj ((i : Nat) : Int) := uZ_ne (by omega)
    rw [e1, e2, e3]
    exact h1

set_option maxHeartbeats 4000000 in
set_option maxRecDepth 100000 in
theorem m_walks_1 {l : Launch} {D : va_G} {cy : Nat → ClassId} {B N : Nat} {g : Nat → va_E} {cg le sp va o0 tn aw mw fw ls gs sn sw kr : Int} {Nw Sv Tr Su So : Int → Int} {Be Lo Sh Ro : Int → Int} {k : Nat} {c : List Co} (hm : vM cy B g 141 cg le sp va o0 tn aw mw fw ls gs sn sw kr) (hnow : vIA cy B g 142 49 Nw) (hse : vLA cy B g 146 169 Sv) (hbe : vLA cy B g 153 366 Be) (hlo : vLA cy B g 154 366 Lo) (hsh : vLA cy B g 155 366 Sh) (hro : vIA cy B g 156 366 Ro) (htr : vIA cy B g 157 5 Tr) (hsu : vIA cy B g 158 6 Su) (hso : vLA cy B g 159 6 So) (hN : 160 ≤ N) (hmc : MC Nw k c) (hc : cok c) (h2 : 2 ≤ c.length) (hSv : SvOK Sv) : CTi l yX11_walks wsX11_walks (rmo 5 121) D cy B N g [.ref (B + 141), .int (zI ((k : Nat) : Int)), .int (zI 1)] (wkC true (coP c) (coL c) (coR c) 1) (fun g' => ∃ Be1 : Int → Int, ∃ Lo1 : Int → Int, ∃ Sh1 : Int → Int, ∃ Ro1 : Int → Int, ∃ Tr1 : Int → Int, ∃ Su1 : Int → Int, ∃ So1 : Int → Int, vLA cy B g' 153 366 Be1 ∧ vLA cy B g' 154 366 Lo1 ∧ vLA cy B g' 155 366 Sh1 ∧ vIA cy B g' 156 366 Ro1 ∧ vIA cy B g' 157 5 Tr1 ∧ vIA cy B g' 158 6 Su1 ∧ vLA cy B g' 159 6 So1 ∧ (∀ q, (q ≠ 153 ∧ q ≠ 154 ∧ q ≠ 155 ∧ q ≠ 156 ∧ q ≠ 157 ∧ q ≠ 158 ∧ q ≠ 159) → g' q = g q)) := by
  refine WW_of (cc := cX11_walks) (maxL := 12) (ret := (some .int)) (own := RX11) (by decide) rfl rfl (Nat.le_of_ble_eq_true rfl) rfl ?_
  intro pp ee ss mm bl me co hmn
  have hfr_0 : ∀ q, (q ≠ 153 ∧ q ≠ 154 ∧ q ≠ 155 ∧ q ≠ 156 ∧ q ≠ 157 ∧ q ≠ 158 ∧ q ≠ 159) → g q = g q := fun _ _ => rfl
  have hk3 := hmc.1
  have hc5 := hc.1
  have hco := coL_S hc
  have hcp := (SO_co hc).1
  refine w_aload_n dX11_walks_0 rfl 0 rfl ?_
  refine w_iload_n dX11_walks_1 rfl 1 rfl ?_
  refine w_callv (As := [.int (zI ((k : Nat) : Int))]) (rest := []) (n := 1) (c_X11_laysBehind (k := k) hm hnow hse hbe hlo hsh hro (by first | omega | with_reducible rfl) (by first | omega | with_reducible rfl) (by first | omega | with_reducible rfl) (by first | omega | with_reducible rfl)) gX11_walks_X11_laysBehind rfl rfl rfl (by decide +kernel) ⟨Nat.le_of_ble_eq_true rfl, Nat.le_of_ble_eq_true rfl⟩ rfl (by first | omega | with_reducible rfl) hm rfl (Nat.le_of_ble_eq_true rfl) ⟨Nat.zero_le _, Nat.zero_le _⟩ dX11_walks_2 rfl (fun g_1 hp_2 => ?_)
  obtain ⟨Be1_3, Lo1_4, Sh1_5, Ro1_6, hbe_7, hlo_8, hsh_9, hro_10, hNB_2, hf_11⟩ := hp_2
  have hm_12 : vM cy B g_1 141 cg le sp va o0 tn aw mw fw ls gs sn sw kr := vM_fr hm (fun q h1 h2 => hf_11 q (by omega))
  have hnow_13 : vIA cy B g_1 142 49 Nw := vIA_fr hnow (fun q h1 h2 => hf_11 q (by omega))
  have hse_14 : vLA cy B g_1 146 169 Sv := vLA_fr hse (fun q h1 h2 => hf_11 q (by omega))
  have htr_15 : vIA cy B g_1 157 5 Tr := vIA_fr htr (fun q h1 h2 => hf_11 q (by omega))
  have hsu_16 : vIA cy B g_1 158 6 Su := vIA_fr hsu (fun q h1 h2 => hf_11 q (by omega))
  have hso_17 : vLA cy B g_1 159 6 So := vLA_fr hso (fun q h1 h2 => hf_11 q (by omega))
  have hfr_18 : ∀ q, (q ≠ 153 ∧ q ≠ 154 ∧ q ≠ 155 ∧ q ≠ 156 ∧ q ≠ 157 ∧ q ≠ 158 ∧ q ≠ 159) → g_1 q = g q := fun q hq => (hf_11 q (by omega)).trans (hfr_0 q hq)
  refine w_aload_n dX11_walks_5 rfl 0 rfl ?_
  refine w_iload_n dX11_walks_6 rfl 1 rfl ?_
  refine w_calll (As := [.int (zI ((k : Nat) : Int))]) (rest := []) (n := 1) (c_X11_seenWays (k := k) hm_12 hnow_13 hse_14 (by first | omega | with_reducible rfl) (by first | omega | with_reducible rfl) (by first | omega | with_reducible rfl) (by first | omega | with_reducible rfl)) gX11_walks_X11_seenWays rfl rfl rfl (by decide +kernel) ⟨Nat.le_of_ble_eq_true rfl, Nat.le_of_ble_eq_true rfl⟩ rfl (by first | omega | with_reducible rfl) hm_12 rfl (Nat.le_of_ble_eq_true rfl) ⟨Nat.zero_le _, Nat.zero_le _⟩ dX11_walks_7 rfl (fun g_19 hp_20 => ?_)
  subst g_19
  refine w_lstore_n [(3, .long (zJ (coP c))), (0, .ref (B + 141)), (1, .int (zI ((k : Nat) : Int))), (2, .int (zI 1))] dX11_walks_10 rfl (by decide) rfl ?_
  refine w_iconst dX11_walks_11 ?_
  refine w_istore [(5, .int (zI 0)), (3, .long (zJ (coP c))), (0, .ref (B + 141)), (1, .int (zI ((k : Nat) : Int))), (2, .int (zI 1))] dX11_walks_12 (by decide) rfl ?_
  refine w_iconst dX11_walks_14 ?_
  refine w_istore [(6, .int (zI 0)), (5, .int (zI 0)), (3, .long (zJ (coP c))), (0, .ref (B + 141)), (1, .int (zI ((k : Nat) : Int))), (2, .int (zI 1))] dX11_walks_15 (by decide) rfl ?_
  refine w_aload_n dX11_walks_17 rfl 3 rfl ?_
  refine w_get (i := 31) (T := TX11) (NF := 32) 141 (by first | omega | with_reducible rfl) hm_12 rfl (fun _ h => (List.mem_cons_of_mem _ (List.mem_append_right _ h))) (by decide) (List.mem_of_getElem? (i := 1) rfl) rfl dX11_walks_18 ?_
  refine w_iconst dX11_walks_21 ?_
  refine w_lconst1 dX11_walks_22 ?_
  refine w_last 159 (by first | omega | with_reducible rfl) hso_17 (by first | omega | with_reducible rfl) dX11_walks_23 (fun g_21 he_22 hn_23 => ?_)
  have hm_24 : vM cy B g_21 141 cg le sp va o0 tn aw mw fw ls gs sn sw kr := vM_fr hm_12 (fun q h1 h2 => hn_23 q (by omega))
  have hnow_25 : vIA cy B g_21 142 49 Nw := vIA_fr hnow_13 (fun q h1 h2 => hn_23 q (by omega))
  have hse_26 : vLA cy B g_21 146 169 Sv := vLA_fr hse_14 (fun q h1 h2 => hn_23 q (by omega))
  have hbe_27 : vLA cy B g_21 153 366 Be1_3 := vLA_fr hbe_7 (fun q h1 h2 => hn_23 q (by omega))
  have hlo_28 : vLA cy B g_21 154 366 Lo1_4 := vLA_fr hlo_8 (fun q h1 h2 => hn_23 q (by omega))
  have hsh_29 : vLA cy B g_21 155 366 Sh1_5 := vLA_fr hsh_9 (fun q h1 h2 => hn_23 q (by omega))
  have hro_30 : vIA cy B g_21 156 366 Ro1_6 := vIA_fr hro_10 (fun q h1 h2 => hn_23 q (by omega))
  have htr_31 : vIA cy B g_21 157 5 Tr := vIA_fr htr_15 (fun q h1 h2 => hn_23 q (by omega))
  have hsu_32 : vIA cy B g_21 158 6 Su := vIA_fr hsu_16 (fun q h1 h2 => hn_23 q (by omega))
  have hso_33 : vLA cy B g_21 159 6 (uZ So 0 1) := he_22
  have hfr_34 : ∀ q, (q ≠ 153 ∧ q ≠ 154 ∧ q ≠ 155 ∧ q ≠ 156 ∧ q ≠ 157 ∧ q ≠ 158 ∧ q ≠ 159) → g_21 q = g q := fun q hq => (hn_23 q (by omega)).trans (hfr_18 q hq)
  refine w_aload_n dX11_walks_24 rfl 3 rfl ?_
  refine w_get (i := 30) (T := TX11) (NF := 32) 141 (by first | omega | with_reducible rfl) hm_24 rfl (fun _ h => (List.mem_cons_of_mem _ (List.mem_append_right _ h))) (by decide) (List.mem_of_getElem? (i := 2) rfl) rfl dX11_walks_25 ?_
  refine w_iconst dX11_walks_28 ?_
  refine w_iconst dX11_walks_29 ?_
  refine w_iast 158 (by first | omega | with_reducible rfl) hsu_32 (by first | omega | with_reducible rfl) dX11_walks_30 (fun g_35 he_36 hn_37 => ?_)
  have hm_38 : vM cy B g_35 141 cg le sp va o0 tn aw mw fw ls gs sn sw kr := vM_fr hm_24 (fun q h1 h2 => hn_37 q (by omega))
  have hnow_39 : vIA cy B g_35 142 49 Nw := vIA_fr hnow_25 (fun q h1 h2 => hn_37 q (by omega))
  have hse_40 : vLA cy B g_35 146 169 Sv := vLA_fr hse_26 (fun q h1 h2 => hn_37 q (by omega))
  have hbe_41 : vLA cy B g_35 153 366 Be1_3 := vLA_fr hbe_27 (fun q h1 h2 => hn_37 q (by omega))
  have hlo_42 : vLA cy B g_35 154 366 Lo1_4 := vLA_fr hlo_28 (fun q h1 h2 => hn_37 q (by omega))
  have hsh_43 : vLA cy B g_35 155 366 Sh1_5 := vLA_fr hsh_29 (fun q h1 h2 => hn_37 q (by omega))
  have hro_44 : vIA cy B g_35 156 366 Ro1_6 := vIA_fr hro_30 (fun q h1 h2 => hn_37 q (by omega))
  have htr_45 : vIA cy B g_35 157 5 Tr := vIA_fr htr_31 (fun q h1 h2 => hn_37 q (by omega))
  have hsu_46 : vIA cy B g_35 158 6 (uZ Su 0 0) := he_36
  have hso_47 : vLA cy B g_35 159 6 (uZ So 0 1) := vLA_fr hso_33 (fun q h1 h2 => hn_37 q (by omega))
  have hfr_48 : ∀ q, (q ≠ 153 ∧ q ≠ 154 ∧ q ≠ 155 ∧ q ≠ 156 ∧ q ≠ 157 ∧ q ≠ 158 ∧ q ≠ 159) → g_35 q = g q := fun q hq => (hn_37 q (by omega)).trans (hfr_34 q hq)
  refine w_aload_n dX11_walks_31 rfl 3 rfl ?_
  refine w_get (i := 29) (T := TX11) (NF := 32) 141 (by first | omega | with_reducible rfl) hm_38 rfl (fun _ h => (List.mem_cons_of_mem _ (List.mem_append_right _ h))) (by decide) (List.mem_of_getElem? (i := 3) rfl) rfl dX11_walks_32 ?_
  refine w_iconst dX11_walks_35 ?_
  refine w_iconst dX11_walks_36 ?_
  refine w_iast 157 (by first | omega | with_reducible rfl) htr_45 (by first | omega | with_reducible rfl) dX11_walks_37 (fun g_49 he_50 hn_51 => ?_)
  have hm_52 : vM cy B g_49 141 cg le sp va o0 tn aw mw fw ls gs sn sw kr := vM_fr hm_38 (fun q h1 h2 => hn_51 q (by omega))
  have hnow_53 : vIA cy B g_49 142 49 Nw := vIA_fr hnow_39 (fun q h1 h2 => hn_51 q (by omega))
  have hse_54 : vLA cy B g_49 146 169 Sv := vLA_fr hse_40 (fun q h1 h2 => hn_51 q (by omega))
  have hbe_55 : vLA cy B g_49 153 366 Be1_3 := vLA_fr hbe_41 (fun q h1 h2 => hn_51 q (by omega))
  have hlo_56 : vLA cy B g_49 154 366 Lo1_4 := vLA_fr hlo_42 (fun q h1 h2 => hn_51 q (by omega))
  have hsh_57 : vLA cy B g_49 155 366 Sh1_5 := vLA_fr hsh_43 (fun q h1 h2 => hn_51 q (by omega))
  have hro_58 : vIA cy B g_49 156 366 Ro1_6 := vIA_fr hro_44 (fun q h1 h2 => hn_51 q (by omega))
  have htr_59 : vIA cy B g_49 157 5 (uZ Tr 0 (-1)) := he_50
  have hsu_60 : vIA cy B g_49 158 6 (uZ Su 0 0) := vIA_fr hsu_46 (fun q h1 h2 => hn_51 q (by omega))
  have hso_61 : vLA cy B g_49 159 6 (uZ So 0 1) := vLA_fr hso_47 (fun q h1 h2 => hn_51 q (by omega))
  have hfr_62 : ∀ q, (q ≠ 153 ∧ q ≠ 154 ∧ q ≠ 155 ∧ q ≠ 156 ∧ q ≠ 157 ∧ q ≠ 158 ∧ q ≠ 159) → g_49 q = g q := fun q hq => (hn_51 q (by omega)).trans (hfr_48 q hq)
  refine w_sub [(0, .ref (B + 141)), (1, .int (zI ((k : Nat) : Int))), (2, .int (zI 1)), (3, .long (zJ (coP c))), (5, .int (zI 0)), (6, .int (zI 0))] [3, 4, 5, 2, 1, 0] rfl ?_
  refine w_lv (lv' := [(0, .ref (B + 141)), (1, .int (zI ((k : Nat) : Int))), (2, .int (zI 1)), (3, .long (zJ (coP c))), (5, .int (zI 0)), (6, .int (zI (((1 : Nat) : Int) - 1)))]) (lc_s (lc_s (lc_s (lc_s (lc_i (by first | omega | with_reducible rfl) (lc_i (by first | omega | with_reducible rfl) rfl)))))) ?_
  refine w_loop6 (fun (j1 : Nat) (nn9 : Int) (Tj : Int → Int) (Sj : Int → Int) (Oj : Int → Int) (gl_63 : (Nat → va_E)) => vM cy B gl_63 141 cg le sp va o0 tn aw mw fw ls gs sn sw kr ∧ vIA cy B gl_63 142 49 Nw ∧ vLA cy B gl_63 146 169 Sv ∧ vLA cy B gl_63 153 366 Be1_3 ∧ vLA cy B gl_63 154 366 Lo1_4 ∧ vLA cy B gl_63 155 366 Sh1_5 ∧ vIA cy B gl_63 156 366 Ro1_6 ∧ vIA cy B gl_63 157 5 Tj ∧ vIA cy B gl_63 158 6 Sj ∧ vLA cy B gl_63 159 6 Oj ∧ (∀ q, (q ≠ 153 ∧ q ≠ 154 ∧ q ≠ 155 ∧ q ≠ 156 ∧ q ≠ 157 ∧ q ≠ 158 ∧ q ≠ 159) → gl_63 q = g q) ∧ j1 ≤ c.length ∧ (∀ i : Nat, i < j1 → lvS c Tj Sj Oj i) ∧ nn9 + rmS true c Tj Sj Oj j1 = wkC true (coP c) (coL c) (coR c) 1) (fun (j1 : Nat) (nn9 : Int) (Tj : Int → Int) (Sj : Int → Int) (Oj : Int → Int) (gl_63 : (Nat → va_E)) => muS c Tj j1) (fun (j1 : Nat) (nn9 : Int) (Tj : Int → Int) (Sj : Int → Int) (Oj : Int → Int) (gl_63 : (Nat → va_E)) => gl_63) (fun (j1 : Nat) (nn9 : Int) (Tj : Int → Int) (Sj : Int → Int) (Oj : Int → Int) (gl_63 : (Nat → va_E)) => [(0, .ref (B + 141)), (1, .int (zI ((k : Nat) : Int))), (2, .int (zI 1)), (3, .long (zJ (coP c))), (5, .int (zI nn9)), (6, .int (zI (((j1 : Nat) : Int) - 1)))]) ?_ 1 0 (uZ Tr 0 (-1)) (uZ Su 0 0) (uZ So 0 1) g_49 ⟨hm_52, hnow_53, hse_54, hbe_55, hlo_56, hsh_57, hro_58, htr_59, hsu_60, hso_61, hfr_62, (by first | omega | with_reducible rfl), (lvS_0 hc (by omega)), (rmS_0 hc (by omega))⟩
  rintro j1 nn9 Tj Sj Oj gl_63 ⟨hm_64, hnow_65, hse_66, hbe_67, hlo_68, hsh_69, hro_70, htr_71, hsu_72, hso_73, hfr_74, hj1, hlv, hT⟩ ih_38
  refine w_iload dX11_walks_38 5 rfl ?_
  refine w_if_lt 249 dX11_walks_40 (by decide) (by first | omega | with_reducible rfl) (fun c_40 => ?_) (fun c_40 => ?_)
  · have hj0 : j1 = 0 := by omega
    subst hj0
    have hTe9 : nn9 = wkC true (coP c) (coL c) (coR c) 1 := by rw [← hT]; exact (Int.add_zero _).symm
    refine w_iload dX11_walks_249 4 rfl ?_
    exact w_iret dX11_walks_251 rfl (by exact hTe9) ⟨Be1_3, Lo1_4, Sh1_5, Ro1_6, Tj, Sj, Oj, hbe_67, hlo_68, hsh_69, hro_70, htr_71, hsu_72, hso_73, hfr_74⟩
  · obtain ⟨j, hjj⟩ : ∃ j, j1 = j + 1 := ⟨j1 - 1, by omega⟩
    have hlj := hlv
    have hlv := hlj j (by omega)
    have hjc : j < c.length := by omega
    have hcj := hc.2 ((j : Nat) : Int) (by omega) (by omega)
    have hsR := hlv.2.1
    have hlt1 := hlv.1
    refine w_aload_n dX11_walks_43 rfl 0 rfl ?_
    refine w_get (i := 29) (T := TX11) (NF := 32) 141 (by first | omega | with_reducible rfl) hm_64 rfl (fun _ h => (List.mem_cons_of_mem _ (List.mem_append_right _ h))) (by decide) (List.mem_of_getElem? (i := 3) rfl) rfl dX11_walks_44 ?_
    refine w_iload dX11_walks_47 5 rfl ?_
    refine w_as (st' := [.int (zI ((j : Nat) : Int)), .ref (B + 157)]) (sc_i (by first | omega | with_reducible rfl) rfl) ?_
    refine w_dup2 dX11_walks_49 rfl rfl ?_
    refine w_iald 157 (by first | omega | with_reducible rfl) htr_71 (by first | omega | with_reducible rfl) dX11_walks_50 ?_
    refine w_as (st' := [.int (zI (Tj ((j : Nat) : Int))), .int (zI ((j : Nat) : Int)), .ref (B + 157)]) (sc_i rfl rfl) ?_
    refine w_iconst dX11_walks_51 ?_
    refine w_iadd dX11_walks_52 ?_
    refine w_iast 157 (by first | omega | with_reducible rfl) htr_71 (by first | omega | with_reducible rfl) dX11_walks_53 (fun g_75 he_76 hn_77 => ?_)
    have hm_78 : vM cy B g_75 141 cg le sp va o0 tn aw mw fw ls gs sn sw kr := vM_fr hm_64 (fun q h1 h2 => hn_77 q (by omega))
    have hnow_79 : vIA cy B g_75 142 49 Nw := vIA_fr hnow_65 (fun q h1 h2 => hn_77 q (by omega))
    have hse_80 : vLA cy B g_75 146 169 Sv := vLA_fr hse_66 (fun q h1 h2 => hn_77 q (by omega))
    have hbe_81 : vLA cy B g_75 153 366 Be1_3 := vLA_fr hbe_67 (fun q h1 h2 => hn_77 q (by omega))
    have hlo_82 : vLA cy B g_75 154 366 Lo1_4 := vLA_fr hlo_68 (fun q h1 h2 => hn_77 q (by omega))
    have hsh_83 : vLA cy B g_75 155 366 Sh1_5 := vLA_fr hsh_69 (fun q h1 h2 => hn_77 q (by omega))
    have hro_84 : vIA cy B g_75 156 366 Ro1_6 := vIA_fr hro_70 (fun q h1 h2 => hn_77 q (by omega))
    have htr_85 : vIA cy B g_75 157 5 (uZ Tj ((j : Nat) : Int) ((Tj ((j : Nat) : Int)) + 1)) := he_76
    have hsu_86 : vIA cy B g_75 158 6 Sj := vIA_fr hsu_72 (fun q h1 h2 => hn_77 q (by omega))
    have hso_87 : vLA cy B g_75 159 6 Oj := vLA_fr hso_73 (fun q h1 h2 => hn_77 q (by omega))
    have hfr_88 : ∀ q, (q ≠ 153 ∧ q ≠ 154 ∧ q ≠ 155 ∧ q ≠ 156 ∧ q ≠ 157 ∧ q ≠ 158 ∧ q ≠ 159) → g_75 q = g q := fun q hq => (hn_77 q (by omega)).trans (hfr_74 q hq)
    refine w_aload_n dX11_walks_54 rfl 0 rfl ?_
    refine w_get (i := 30) (T := TX11) (NF := 32) 141 (by first | omega | with_reducible rfl) hm_78 rfl (fun _ h => (List.mem_cons_of_mem _ (List.mem_append_right _ h))) (by decide) (List.mem_of_getElem? (i := 2) rfl) rfl dX11_walks_55 ?_
    refine w_iload dX11_walks_58 5 rfl ?_
    refine w_as (st' := [.int (zI ((j : Nat) : Int)), .ref (B + 158)]) (sc_i (by first | omega | with_reducible rfl) rfl) ?_
    refine w_iald 158 (by first | omega | with_reducible rfl) hsu_86 (by first | omega | with_reducible rfl) dX11_walks_60 ?_
    refine w_aload_n dX11_walks_61 rfl 0 rfl ?_
    refine w_get (i := 29) (T := TX11) (NF := 32) 141 (by first | omega | with_reducible rfl) hm_78 rfl (fun _ h => (List.mem_cons_of_mem _ (List.mem_append_right _ h))) (by decide) (List.mem_of_getElem? (i := 3) rfl) rfl dX11_walks_62 ?_
    refine w_iload dX11_walks_65 5 rfl ?_
    refine w_as (st' := [.int (zI ((j : Nat) : Int)), .ref (B + 157), .int (zI (Sj ((j : Nat) : Int)))]) (sc_i (by first | omega | with_reducible rfl) rfl) ?_
    refine w_iald 157 (by first | omega | with_reducible rfl) htr_85 (by first | omega | with_reducible rfl) dX11_walks_67 ?_
    refine w_as (st' := [.int (zI (Tj ((j : Nat) : Int) + 1)), .int (zI (Sj ((j : Nat) : Int)))]) (sc_i (uZ_same _ _ _) rfl) ?_
    refine w_iadd dX11_walks_68 ?_
    refine w_istore [(7, .int (zI ((Sj ((j : Nat) : Int)) + (Tj ((j : Nat) : Int) + 1)))), (0, .ref (B + 141)), (1, .int (zI ((k : Nat) : Int))), (2, .int (zI 1)), (3, .long (zJ (coP c))), (5, .int (zI nn9)), (6, .int (zI (((j1 : Nat) : Int) - 1)))] dX11_walks_69 (by decide) rfl ?_
    refine w_aload_n dX11_walks_71 rfl 1 rfl ?_
    refine w_get (i := 29) (T := TX11) (NF := 32) 141 (by first | omega | with_reducible rfl) hm_78 rfl (fun _ h => (List.mem_cons_of_mem _ (List.mem_append_right _ h))) (by decide) (List.mem_of_getElem? (i := 3) rfl) rfl dX11_walks_72 ?_
    refine w_iload dX11_walks_75 6 rfl ?_
    refine w_as (st' := [.int (zI ((j : Nat) : Int)), .ref (B + 157)]) (sc_i (by first | omega | with_reducible rfl) rfl) ?_
    refine w_iald 157 (by first | omega | with_reducible rfl) htr_85 (by first | omega | with_reducible rfl) dX11_walks_77 ?_
    refine w_as (st' := [.int (zI (Tj ((j : Nat) : Int) + 1))]) (sc_i (uZ_same _ _ _) rfl) ?_
    refine w_aload_n dX11_walks_78 rfl 1 rfl ?_
    refine w_iload_n dX11_walks_79 rfl 2 rfl ?_
    refine w_iload dX11_walks_80 6 rfl ?_
    refine w_iconst dX11_walks_82 ?_
    refine w_as (st' := [.int (zI 0), .int (zI ((j : Nat) : Int)), .int (zI ((k : Nat) : Int)), .ref (B + 141), .int (zI (Tj ((j : Nat) : Int) + 1))]) (sc_i (by first | omega | with_reducible rfl) (sc_i (by first | omega | with_reducible rfl) rfl)) ?_
    refine w_calli (As := [.int (zI ((k : Nat) : Int)), .int (zI ((j : Nat) : Int)), .int (zI 0)]) (rest := [.int (zI (Tj ((j : Nat) : Int) + 1))]) (n := 3) (c_X11_of0 (k := k) hm_78 hnow_79 (by first | omega | with_reducible rfl) (by first | omega | with_reducible rfl) (by first | omega | with_reducible rfl)) gX11_walks_X11_of rfl rfl rfl (by decide +kernel) ⟨Nat.le_of_ble_eq_true rfl, Nat.le_of_ble_eq_true rfl⟩ rfl (by first | omega | with_reducible rfl) hm_78 rfl (Nat.le_of_ble_eq_true rfl) ⟨Nat.zero_le _, Nat.zero_le _⟩ dX11_walks_83 rfl (fun g_89 hp_90 => ?_)
    subst g_89
    refine w_icmp_le 95 dX11_walks_86 (by decide) (by first | omega | with_reducible rfl) (by first | omega | with_reducible rfl) (fun c_86 => ?_) (fun c_86 => ?_)
    · have hxn : ((Tj ((j : Nat) : Int) + 1).toNat : Nat) ≤ (coT c ((j : Nat) : Int)).toNat := by omega
      refine w_iload dX11_walks_95 0 rfl ?_
      refine w_bipush dX11_walks_97 (by decide) ?_
      refine w_icmp_ge 246 dX11_walks_99 (by decide) (by first | omega | with_reducible rfl) (by first | omega | with_reducible rfl) (fun c_99 => ?_) (fun c_99 => ?_)
      · have hst9 : fwk true c j (Sj ((j : Nat) : Int)).toNat (Oj ((j : Nat) : Int)) (Tj ((j : Nat) : Int) + 1).toNat = 0 := fwk_no (by rw [MB_out (by omega)]; exact Int.le_refl 0)
        skip
        refine w_goto 38 dX11_walks_246 (by decide) ?_
        refine w_sub [(0, .ref (B + 141)), (1, .int (zI ((k : Nat) : Int))), (2, .int (zI 1)), (3, .long (zJ (coP c))), (5, .int (zI nn9)), (6, .int (zI (((j1 : Nat) : Int) - 1)))] [1, 2, 3, 4, 5, 6] rfl ?_
        refine w_lv (lv' := [(0, .ref (B + 141)), (1, .int (zI ((k : Nat) : Int))), (2, .int (zI 1)), (3, .long (zJ (coP c))), (5, .int (zI nn9)), (6, .int (zI ((((j + 1) : Nat) : Int) - 1)))]) (lc_s (lc_s (lc_s (lc_s (lc_i (by first | omega | with_reducible rfl) (lc_i (by first | omega | with_reducible rfl) rfl)))))) ?_
        exact ih_38 (j + 1) nn9 (uZ Tj ((j : Nat) : Int) ((Tj ((j : Nat) : Int)) + 1)) Sj Oj g_75 ⟨hm_78, hnow_79, hse_80, hbe_81, hlo_82, hsh_83, hro_84, htr_85, hsu_86, hso_87, hfr_88, (by omega), (fun i hi => lvS_same hlj hjj i hi (by omega)), (by rw [← hT, hjj, rmS_top (t := (Tj ((j : Nat) : Int))) rfl hlv.1.1 (by omega), hst9]; omega)⟩ (by have := muS_top (c := c) (Tr := Tj) (j := j) (t := (Tj ((j : Nat) : Int))) (by omega) rfl hlv.1.1 (by omega); have := (pow15 (show j ≤ 4 by omega)).1; rw [hjj]; omega)
      · have hmb := MB_rg hc (j + 1) ((Sj ((j : Nat) : Int)).toNat + (Tj ((j : Nat) : Int) + 1).toNat)
        refine w_aload_n dX11_walks_102 rfl 1 rfl ?_
        refine w_get (i := 28) (T := TX11) (NF := 32) 141 (by first | omega | with_reducible rfl) hm_78 rfl (fun _ h => (List.mem_cons_of_mem _ (List.mem_append_right _ h))) (by decide) (List.mem_of_getElem? (i := 4) rfl) rfl dX11_walks_103 ?_
        refine w_bipush dX11_walks_106 (by decide) ?_
        refine w_iload dX11_walks_108 6 rfl ?_
        refine w_iconst dX11_walks_110 ?_
        refine w_iadd dX11_walks_111 ?_
        refine w_imul dX11_walks_112 ?_
        refine w_iload dX11_walks_113 0 rfl ?_
        refine w_iadd dX11_walks_115 ?_
        refine w_as (st' := [.int (zI (61 * (((j + 1) : Nat) : Int) + (((Sj ((j : Nat) : Int)).toNat + (Tj ((j : Nat) : Int) + 1).toNat : Nat) : Int))), .ref (B + 156)]) (sc_i (by omega) rfl) ?_
        refine w_iald 156 (by first | omega | with_reducible rfl) hro_84 (by first | omega | with_reducible rfl) dX11_walks_116 ?_
        refine w_as (st' := [.int (zI (MB c 4 (j + 1) ((Sj ((j : Nat) : Int)).toNat + (Tj ((j : Nat) : Int) + 1).toNat)))]) (sc_i (hNB_2 (j + 1) (Nat.zero_le _) (by omega) ((Sj ((j : Nat) : Int)).toNat + (Tj ((j : Nat) : Int) + 1).toNat) (by omega)).2.2.2 rfl) ?_
        refine w_if_le 246 dX11_walks_117 (by decide) (by first | omega | with_reducible rfl) (fun c_117 => ?_) (fun c_117 => ?_)
        · have hst9 : fwk true c j (Sj ((j : Nat) : Int)).toNat (Oj ((j : Nat) : Int)) (Tj ((j : Nat) : Int) + 1).toNat = 0 := fwk_no (by omega)
          skip
          refine w_goto 38 dX11_walks_246 (by decide) ?_
          refine w_sub [(0, .ref (B + 141)), (1, .int (zI ((k : Nat) : Int))), (2, .int (zI 1)), (3, .long (zJ (coP c))), (5, .int (zI nn9)), (6, .int (zI (((j1 : Nat) : Int) - 1)))] [1, 2, 3, 4, 5, 6] rfl ?_
          refine w_lv (lv' := [(0, .ref (B + 141)), (1, .int (zI ((k : Nat) : Int))), (2, .int (zI 1)), (3, .long (zJ (coP c))), (5, .int (zI nn9)), (6, .int (zI ((((j + 1) : Nat) : Int) - 1)))]) (lc_s (lc_s (lc_s (lc_s (lc_i (by first | omega | with_reducible rfl) (lc_i (by first | omega | with_reducible rfl) rfl)))))) ?_
          exact ih_38 (j + 1) nn9 (uZ Tj ((j : Nat) : Int) ((Tj ((j : Nat) : Int)) + 1)) Sj Oj g_75 ⟨hm_78, hnow_79, hse_80, hbe_81, hlo_82, hsh_83, hro_84, htr_85, hsu_86, hso_87, hfr_88, (by omega), (fun i hi => lvS_same hlj hjj i hi (by omega)), (by rw [← hT, hjj, rmS_top (t := (Tj ((j : Nat) : Int))) rfl hlv.1.1 (by omega), hst9]; omega)⟩ (by have := muS_top (c := c) (Tr := Tj) (j := j) (t := (Tj ((j : Nat) : Int))) (by omega) rfl hlv.1.1 (by omega); have := (pow15 (show j ≤ 4 by omega)).1; rw [hjj]; omega)
        · have hthn := hmb.2.2.2.2.1.mp (by omega)
          refine w_iinc 5 [(5, .int (zI (nn9 + 1))), (7, .int (zI ((Sj ((j : Nat) : Int)) + (Tj ((j : Nat) : Int) + 1)))), (0, .ref (B + 141)), (1, .int (zI ((k : Nat) : Int))), (2, .int (zI 1)), (3, .long (zJ (coP c))), (6, .int (zI (((j1 : Nat) : Int) - 1)))] dX11_walks_120 rfl (by decide) rfl ?_
          refine w_aload_n dX11_walks_123 rfl 2 rfl ?_
          refine w_get (i := 31) (T := TX11) (NF := 32) 141 (by first | omega | with_reducible rfl) hm_78 rfl (fun _ h => (List.mem_cons_of_mem _ (List.mem_append_right _ h))) (by decide) (List.mem_of_getElem? (i := 1) rfl) rfl dX11_walks_124 ?_
          refine w_iload dX11_walks_127 6 rfl ?_
          refine w_as (st' := [.int (zI ((j : Nat) : Int)), .ref (B + 159)]) (sc_i (by first | omega | with_reducible rfl) rfl) ?_
          refine w_lald 159 (by first | omega | with_reducible rfl) hso_87 (by first | omega | with_reducible rfl) dX11_walks_129 ?_
          refine w_aload_n dX11_walks_130 rfl 2 rfl ?_
          refine w_iload_n dX11_walks_131 rfl 3 rfl ?_
          refine w_iload dX11_walks_132 6 rfl ?_
          refine w_aload_n dX11_walks_134 rfl 2 rfl ?_
          refine w_get (i := 29) (T := TX11) (NF := 32) 141 (by first | omega | with_reducible rfl) hm_78 rfl (fun _ h => (List.mem_cons_of_mem _ (List.mem_append_right _ h))) (by decide) (List.mem_of_getElem? (i := 3) rfl) rfl dX11_walks_135 ?_
          refine w_iload dX11_walks_138 6 rfl ?_
          refine w_as (st' := [.int (zI ((j : Nat) : Int)), .ref (B + 157), .int (zI (((j1 : Nat) : Int) - 1)), .int (zI ((k : Nat) : Int)), .ref (B + 141), .long (zJ (Oj ((j : Nat) : Int)))]) (sc_i (by first | omega | with_reducible rfl) rfl) ?_
          refine w_iald 157 (by first | omega | with_reducible rfl) htr_85 (by first | omega | with_reducible rfl) dX11_walks_140 ?_
          refine w_as (st' := [.int (zI (((Tj ((j : Nat) : Int) + 1).toNat : Nat) : Int)), .int (zI ((j : Nat) : Int)), .int (zI ((k : Nat) : Int)), .ref (B + 141), .long (zJ (Oj ((j : Nat) : Int)))]) (sc_i (by rw [uZ_same]; omega) (sc_i (by first | omega | with_reducible rfl) rfl)) ?_
          refine w_calll (As := [.int (zI ((k : Nat) : Int)), .int (zI ((j : Nat) : Int)), .int (zI (((Tj ((j : Nat) : Int) + 1).toNat : Nat) : Int))]) (rest := [.long (zJ (Oj ((j : Nat) : Int)))]) (n := 3) (c_X11_setsOf (k := k) hm_78 hnow_79 hse_80 (by first | omega | with_reducible rfl) (by first | omega | with_reducible rfl) (by first | omega | with_reducible rfl) (by first | omega | with_reducible rfl) (by first | omega | with_reducible rfl) (by first | omega | with_reducible rfl)) gX11_walks_X11_setsOf rfl rfl rfl (by decide +kernel) ⟨Nat.le_of_ble_eq_true rfl, Nat.le_of_ble_eq_true rfl⟩ rfl (by first | omega | with_reducible rfl) hm_78 rfl (Nat.le_of_ble_eq_true rfl) ⟨Nat.zero_le _, Nat.zero_le _⟩ dX11_walks_141 rfl (fun g_91 hp_92 => ?_)
          subst g_91
          refine w_as (st' := [.long (zJ ((ch (coT c ((j : Nat) : Int)).toNat (Tj ((j : Nat) : Int) + 1).toNat : Nat) : Int)), .long (zJ (Oj ((j : Nat) : Int)))]) (sc_l (by rw [Int.toNat_natCast]) rfl) ?_
          refine w_lmul dX11_walks_144 ?_
          have hwk := hlv.2.2
          rw [clL_c hjc] at hwk
          have hww : wok ((Oj ((j : Nat) : Int)) * ((ch (coT c ((j : Nat) : Int)).toNat (Tj ((j : Nat) : Int) + 1).toNat : Nat) : Int)) (clL (coT c) (coV c) (j + 1) (c.length - (j + 1))) := wok_c hwk (Tj ((j : Nat) : Int) + 1).toNat
          have hwl := wok_lg hww (coR c - ((Sj ((j : Nat) : Int)).toNat + (Tj ((j : Nat) : Int) + 1).toNat))
          have hws := wok_sh hww (r := coR c - ((Sj ((j : Nat) : Int)).toNat + (Tj ((j : Nat) : Int) + 1).toNat)) (by omega)
          have hL2 : (MB c 2 (j + 1) ((Sj ((j : Nat) : Int)).toNat + (Tj ((j : Nat) : Int) + 1).toNat)) = lg (clL (coT c) (coV c) (j + 1) (c.length - (j + 1))) (coR c - ((Sj ((j : Nat) : Int)).toNat + (Tj ((j : Nat) : Int) + 1).toNat)) := MB_in hthn
          have hS2 : (MB c 3 (j + 1) ((Sj ((j : Nat) : Int)).toNat + (Tj ((j : Nat) : Int) + 1).toNat)) = sh (clL (coT c) (coV c) (j + 1) (c.length - (j + 1))) (coR c - ((Sj ((j : Nat) : Int)).toNat + (Tj ((j : Nat) : Int) + 1).toNat)) := MB_in hthn
          rw [← hL2] at hwl
          rw [← hS2] at hws
          refine w_lstore [(8, .long (zJ ((Oj ((j : Nat) : Int)) * ((ch (coT c ((j : Nat) : Int)).toNat (Tj ((j : Nat) : Int) + 1).toNat : Nat) : Int)))), (5, .int (zI (nn9 + 1))), (7, .int (zI ((Sj ((j : Nat) : Int)) + (Tj ((j : Nat) : Int) + 1)))), (0, .ref (B + 141)), (1, .int (zI ((k : Nat) : Int))), (2, .int (zI 1)), (3, .long (zJ (coP c))), (6, .int (zI (((j1 : Nat) : Int) - 1)))] dX11_walks_145 (by decide) rfl ?_
          refine w_bipush dX11_walks_147 (by decide) ?_
          refine w_iload dX11_walks_149 7 rfl ?_
          refine w_iconst dX11_walks_151 ?_
          refine w_iadd dX11_walks_152 ?_
          refine w_imul dX11_walks_153 ?_
          refine w_iload dX11_walks_154 2 rfl ?_
          refine w_iadd dX11_walks_156 ?_
          refine w_as (st' := [.int (zI (61 * (((j + 1) : Nat) : Int) + (((Sj ((j : Nat) : Int)).toNat + (Tj ((j : Nat) : Int) + 1).toNat : Nat) : Int)))]) (sc_i (by omega) rfl) ?_
          refine w_istore [(10, .int (zI (61 * (((j + 1) : Nat) : Int) + (((Sj ((j : Nat) : Int)).toNat + (Tj ((j : Nat) : Int) + 1).toNat : Nat) : Int)))), (8, .long (zJ ((Oj ((j : Nat) : Int)) * ((ch (coT c ((j : Nat) : Int)).toNat (Tj ((j : Nat) : Int) + 1).toNat : Nat) : Int)))), (5, .int (zI (nn9 + 1))), (7, .int (zI ((Sj ((j : Nat) : Int)) + (Tj ((j : Nat) : Int) + 1)))), (0, .ref (B + 141)), (1, .int (zI ((k : Nat) : Int))), (2, .int (zI 1)), (3, .long (zJ (coP c))), (6, .int (zI (((j1 : Nat) : Int) - 1)))] dX11_walks_157 (by decide) rfl ?_
          refine w_iload dX11_walks_159 8 rfl ?_
          refine w_iconst dX11_walks_161 ?_
          refine w_iadd dX11_walks_162 ?_
          refine w_aload_n dX11_walks_163 rfl 4 rfl ?_
          refine w_iload_n dX11_walks_164 rfl 5 rfl ?_
          refine w_calli (As := [.int (zI ((k : Nat) : Int))]) (rest := [.int (zI ((((j1 : Nat) : Int) - 1) + 1))]) (n := 1) (c_X11_columns (k := k) hm_78 hnow_79 (by first | omega | with_reducible rfl) (by first | omega | with_reducible rfl)) gX11_walks_X11_columns rfl rfl rfl (by decide +kernel) ⟨Nat.le_of_ble_eq_true rfl, Nat.le_of_ble_eq_true rfl⟩ rfl (by first | omega | with_reducible rfl) hm_78 rfl (Nat.le_of_ble_eq_true rfl) ⟨Nat.zero_le _, Nat.zero_le _⟩ dX11_walks_165 rfl (fun g_93 hp_94 => ?_)
          subst g_93
          refine w_as (st' := [.int (zI ((c.length : Nat) : Int)), .int (zI (((j + 1) : Nat) : Int))]) (lc_s (sc_i (by omega) rfl)) ?_
          refine w_icmp_eq 205 dX11_walks_168 (by decide) (by first | omega | with_reducible rfl) (by first | omega | with_reducible rfl) (fun c_168 => ?_) (fun c_168 => ?_)
          · have hst9 : fwk true c j (Sj ((j : Nat) : Int)).toNat (Oj ((j : Nat) : Int)) (Tj ((j : Nat) : Int) + 1).toNat = 1 := fwk_end (by omega) (by omega)
            refine w_iconst dX11_walks_205 ?_
            refine w_goto 210 dX11_walks_206 (by decide) ?_
            refine w_istore [(11, .int (zI 1)), (10, .int (zI (61 * (((j + 1) : Nat) : Int) + (((Sj ((j : Nat) : Int)).toNat + (Tj ((j : Nat) : Int) + 1).toNat : Nat) : Int)))), (8, .long (zJ ((Oj ((j : Nat) : Int)) * ((ch (coT c ((j : Nat) : Int)).toNat (Tj ((j : Nat) : Int) + 1).toNat : Nat) : Int)))), (5, .int (zI (nn9 + 1))), (7, .int (zI ((Sj ((j : Nat) : Int)) + (Tj ((j : Nat) : Int) + 1)))), (0, .ref (B + 141)), (1, .int (zI ((k : Nat) : Int))), (2, .int (zI 1)), (3, .long (zJ (coP c))), (6, .int (zI (((j1 : Nat) : Int) - 1)))] dX11_walks_210 (by decide) rfl ?_
            refine w_iload dX11_walks_212 0 rfl ?_
            refine w_if_ne 246 dX11_walks_214 (by decide) (by first | omega | with_reducible rfl) (fun c_214 => ?_) (fun c_214 => ?_)
            · skip
              refine w_goto 38 dX11_walks_246 (by decide) ?_
              refine w_sub [(0, .ref (B + 141)), (1, .int (zI ((k : Nat) : Int))), (2, .int (zI 1)), (3, .long (zJ (coP c))), (5, .int (zI (nn9 + 1))), (6, .int (zI (((j1 : Nat) : Int) - 1)))] [5, 6, 7, 8, 3, 9] rfl ?_
              refine w_lv (lv' := [(0, .ref (B + 141)), (1, .int (zI ((k : Nat) : Int))), (2, .int (zI 1)), (3, .long (zJ (coP c))), (5, .int (zI (nn9 + 1))), (6, .int (zI ((((j + 1) : Nat) : Int) - 1)))]) (lc_s (lc_s (lc_s (lc_s (lc_i (by first | omega | with_reducible rfl) (lc_i (by first | omega | with_reducible rfl) rfl)))))) ?_
              exact ih_38 (j + 1) (nn9 + 1) (uZ Tj ((j : Nat) : Int) ((Tj ((j : Nat) : Int)) + 1)) Sj Oj g_75 ⟨hm_78, hnow_79, hse_80, hbe_81, hlo_82, hsh_83, hro_84, htr_85, hsu_86, hso_87, hfr_88, (by omega), (fun i hi => lvS_same hlj hjj i hi (by omega)), (by rw [← hT, hjj, rmS_top (t := (Tj ((j : Nat) : Int))) rfl hlv.1.1 (by omega), hst9]; omega)⟩ (by have := muS_top (c := c) (Tr := Tj) (j := j) (t := (Tj ((j : Nat) : Int))) (by omega) rfl hlv.1.1 (by omega); have := (pow15 (show j ≤ 4 by omega)).1; rw [hjj]; omega)
            · exfalso; omega
          · refine w_iload_n dX11_walks_171 rfl 6 rfl ?_
            refine w_if_eq 209 dX11_walks_172 (by decide) (by first | omega | with_reducible rfl) (fun c_172 => ?_) (fun c_172 => ?_)
            · exfalso; omega
            · refine w_lload dX11_walks_175 1 rfl ?_
              refine w_aload_n dX11_walks_177 rfl 4 rfl ?_
              refine w_get (i := 26) (T := TX11) (NF := 32) 141 (by first | omega | with_reducible rfl) hm_78 rfl (fun _ h => (List.mem_cons_of_mem _ (List.mem_append_right _ h))) (by decide) (List.mem_of_getElem? (i := 5) rfl) rfl dX11_walks_178 ?_
              refine w_iload dX11_walks_181 0 rfl ?_
              refine w_lald 154 (by first | omega | with_reducible rfl) hlo_82 (by first | omega | with_reducible rfl) dX11_walks_183 ?_
              refine w_as (st' := [.long (zJ (MB c 2 (j + 1) ((Sj ((j : Nat) : Int)).toNat + (Tj ((j : Nat) : Int) + 1).toNat))), .long (zJ ((Oj ((j : Nat) : Int)) * ((ch (coT c ((j : Nat) : Int)).toNat (Tj ((j : Nat) : Int) + 1).toNat : Nat) : Int)))]) (sc_l (hNB_2 (j + 1) (Nat.zero_le _) (by omega) ((Sj ((j : Nat) : Int)).toNat + (Tj ((j : Nat) : Int) + 1).toNat) (by omega)).2.1 rfl) ?_
              refine w_lmul dX11_walks_184 ?_
              refine w_lload_n dX11_walks_185 rfl 7 rfl ?_
              refine w_lcmp_le 205 dX11_walks_186 dX11_walks_187 (by decide) (by first | omega | with_reducible rfl) (by first | omega | with_reducible rfl) (fun c_186 => ?_) (fun c_186 => ?_)
              · have hst9 : fwk true c j (Sj ((j : Nat) : Int)).toNat (Oj ((j : Nat) : Int)) (Tj ((j : Nat) : Int) + 1).toNat = 1 := fwk_stop (by omega) rfl hL2 hS2 (Or.inl c_186)
                refine w_iconst dX11_walks_205 ?_
                refine w_goto 210 dX11_walks_206 (by decide) ?_
                refine w_istore [(11, .int (zI 1)), (10, .int (zI (61 * (((j + 1) : Nat) : Int) + (((Sj ((j : Nat) : Int)).toNat + (Tj ((j : Nat) : Int) + 1).toNat : Nat) : Int)))), (8, .long (zJ ((Oj ((j : Nat) : Int)) * ((ch (coT c ((j : Nat) : Int)).toNat (Tj ((j : Nat) : Int) + 1).toNat : Nat) : Int)))), (5, .int (zI (nn9 + 1))), (7, .int (zI ((Sj ((j : Nat) : Int)) + (Tj ((j : Nat) : Int) + 1)))), (0, .ref (B + 141)), (1, .int (zI ((k : Nat) : Int))), (2, .int (zI 1)), (3, .long (zJ (coP c))), (6, .int (zI (((j1 : Nat) : Int) - 1)))] dX11_walks_210 (by decide) rfl ?_
                refine w_iload dX11_walks_212 0 rfl ?_
                refine w_if_ne 246 dX11_walks_214 (by decide) (by first | omega | with_reducible rfl) (fun c_214 => ?_) (fun c_214 => ?_)
                · skip
                  refine w_goto 38 dX11_walks_246 (by decide) ?_
                  refine w_sub [(0, .ref (B + 141)), (1, .int (zI ((k : Nat) : Int))), (2, .int (zI 1)), (3, .long (zJ (coP c))), (5, .int (zI (nn9 + 1))), (6, .int (zI (((j1 : Nat) : Int) - 1)))] [5, 6, 7, 8, 3, 9] rfl ?_
                  refine w_lv (lv' := [(0, .ref (B + 141)), (1, .int (zI ((k : Nat) : Int))), (2, .int (zI 1)), (3, .long (zJ (coP c))), (5, .int (zI (nn9 + 1))), (6, .int (zI ((((j + 1) : Nat) : Int) - 1)))]) (lc_s (lc_s (lc_s (lc_s (lc_i (by first | omega | with_reducible rfl) (lc_i (by first | omega | with_reducible rfl) rfl)))))) ?_
                  exact ih_38 (j + 1) (nn9 + 1) (uZ Tj ((j : Nat) : Int) ((Tj ((j : Nat) : Int)) + 1)) Sj Oj g_75 ⟨hm_78, hnow_79, hse_80, hbe_81, hlo_82, hsh_83, hro_84, htr_85, hsu_86, hso_87, hfr_88, (by omega), (fun i hi => lvS_same hlj hjj i hi (by omega)), (by rw [← hT, hjj, rmS_top (t := (Tj ((j : Nat) : Int))) rfl hlv.1.1 (by omega), hst9]; omega)⟩ (by have := muS_top (c := c) (Tr := Tj) (j := j) (t := (Tj ((j : Nat) : Int))) (by omega) rfl hlv.1.1 (by omega); have := (pow15 (show j ≤ 4 by omega)).1; rw [hjj]; omega)
                · exfalso; omega
              · refine w_lload dX11_walks_190 1 rfl ?_
                refine w_aload_n dX11_walks_192 rfl 4 rfl ?_
                refine w_get (i := 27) (T := TX11) (NF := 32) 141 (by first | omega | with_reducible rfl) hm_78 rfl (fun _ h => (List.mem_cons_of_mem _ (List.mem_append_right _ h))) (by decide) (List.mem_of_getElem? (i := 6) rfl) rfl dX11_walks_193 ?_
                refine w_iload dX11_walks_196 0 rfl ?_
                refine w_lald 155 (by first | omega | with_reducible rfl) hsh_83 (by first | omega | with_reducible rfl) dX11_walks_198 ?_
                refine w_as (st' := [.long (zJ (MB c 3 (j + 1) ((Sj ((j : Nat) : Int)).toNat + (Tj ((j : Nat) : Int) + 1).toNat))), .long (zJ ((Oj ((j : Nat) : Int)) * ((ch (coT c ((j : Nat) : Int)).toNat (Tj ((j : Nat) : Int) + 1).toNat : Nat) : Int)))]) (sc_l (hNB_2 (j + 1) (Nat.zero_le _) (by omega) ((Sj ((j : Nat) : Int)).toNat + (Tj ((j : Nat) : Int) + 1).toNat) (by omega)).2.2.1 rfl) ?_
                refine w_lmul dX11_walks_199 ?_
                refine w_lload_n dX11_walks_200 rfl 7 rfl ?_
                refine w_lcmp_le 209 dX11_walks_201 dX11_walks_202 (by decide) (by first | omega | with_reducible rfl) (by first | omega | with_reducible rfl) (fun c_201 => ?_) (fun c_201 => ?_)
                · have hgo9 := fwk_go (b := true) (c := c) (j := j) (a := (Sj ((j : Nat) : Int)).toNat) (x := (Tj ((j : Nat) : Int) + 1).toNat) (w := Oj ((j : Nat) : Int)) (by omega) rfl hL2 hS2 (Or.inr ⟨by omega, by omega⟩)
                  refine w_iconst dX11_walks_209 ?_
                  refine w_istore [(11, .int (zI 0)), (10, .int (zI (61 * (((j + 1) : Nat) : Int) + (((Sj ((j : Nat) : Int)).toNat + (Tj ((j : Nat) : Int) + 1).toNat : Nat) : Int)))), (8, .long (zJ ((Oj ((j : Nat) : Int)) * ((ch (coT c ((j : Nat) : Int)).toNat (Tj ((j : Nat) : Int) + 1).toNat : Nat) : Int)))), (5, .int (zI (nn9 + 1))), (7, .int (zI ((Sj ((j : Nat) : Int)) + (Tj ((j : Nat) : Int) + 1)))), (0, .ref (B + 141)), (1, .int (zI ((k : Nat) : Int))), (2, .int (zI 1)), (3, .long (zJ (coP c))), (6, .int (zI (((j1 : Nat) : Int) - 1)))] dX11_walks_210 (by decide) rfl ?_
                  refine w_iload dX11_walks_212 0 rfl ?_
                  refine w_if_ne 246 dX11_walks_214 (by decide) (by first | omega | with_reducible rfl) (fun c_214 => ?_) (fun c_214 => ?_)
                  · exfalso; omega
                  · have hth9 : (Sj ((j : Nat) : Int)).toNat + (Tj ((j : Nat) : Int) + 1).toNat ≤ coR c ∧ coR c - ((Sj ((j : Nat) : Int)).toNat + (Tj ((j : Nat) : Int) + 1).toNat) ≤ tsum (clL (coT c) (coV c) (j + 1) (c.length - (j + 1))) := hthn
                    have hcj1 := hc.2 ((((j + 1) : Nat)) : Int) (by omega) (by omega)
                    have hTT : Tj ((j : Nat) : Int) + 1 ≤ coT c ((j : Nat) : Int) ∧ -1 ≤ coT c ((((j + 1) : Nat)) : Int) := ⟨by omega, by omega⟩
                    have hvl : 0 ≤ Sj ((j : Nat) : Int) + (Tj ((j : Nat) : Int) + 1) ∧ (Sj ((j : Nat) : Int) + (Tj ((j : Nat) : Int) + 1)).toNat ≤ coR c ∧ coR c - (Sj ((j : Nat) : Int) + (Tj ((j : Nat) : Int) + 1)).toNat ≤ tsum (clL (coT c) (coV c) (j + 1) (c.length - (j + 1))) := ⟨by omega, by omega, by omega⟩
                    have hsu9 : ∀ G : Int → Int, uZ G ((((j + 1) : Nat)) : Int) (Sj ((j : Nat) : Int) + (Tj ((j : Nat) : Int) + 1)) ((((j + 1) : Nat)) : Int) = (((Sj ((j : Nat) : Int)).toNat + (Tj ((j : Nat) : Int) + 1).toNat : Nat) : Int) := fun G => by rw [uZ_same]; omega
                    refine w_iinc 9 [(6, .int (zI ((((j1 : Nat) : Int) - 1) + 1))), (11, .int (zI 0)), (10, .int (zI (61 * (((j + 1) : Nat) : Int) + (((Sj ((j : Nat) : Int)).toNat + (Tj ((j : Nat) : Int) + 1).toNat : Nat) : Int)))), (8, .long (zJ ((Oj ((j : Nat) : Int)) * ((ch (coT c ((j : Nat) : Int)).toNat (Tj ((j : Nat) : Int) + 1).toNat : Nat) : Int)))), (5, .int (zI (nn9 + 1))), (7, .int (zI ((Sj ((j : Nat) : Int)) + (Tj ((j : Nat) : Int) + 1)))), (0, .ref (B + 141)), (1, .int (zI ((k : Nat) : Int))), (2, .int (zI 1)), (3, .long (zJ (coP c)))] dX11_walks_217 rfl (by decide) rfl ?_
                    refine w_aload_n dX11_walks_220 rfl 6 rfl ?_
                    refine w_get (i := 31) (T := TX11) (NF := 32) 141 (by first | omega | with_reducible rfl) hm_78 rfl (fun _ h => (List.mem_cons_of_mem _ (List.mem_append_right _ h))) (by decide) (List.mem_of_getElem? (i := 1) rfl) rfl dX11_walks_221 ?_
                    refine w_iload dX11_walks_224 0 rfl ?_
                    refine w_as (st' := [.int (zI (((j + 1) : Nat) : Int)), .ref (B + 159)]) (sc_i (by first | omega | with_reducible rfl) rfl) ?_
                    refine w_lload dX11_walks_226 3 rfl ?_
                    refine w_last 159 (by first | omega | with_reducible rfl) hso_87 (by first | omega | with_reducible rfl) dX11_walks_228 (fun g_95 he_96 hn_97 => ?_)
                    have hm_98 : vM cy B g_95 141 cg le sp va o0 tn aw mw fw ls gs sn sw kr := vM_fr hm_78 (fun q h1 h2 => hn_97 q (by omega))
                    have hnow_99 : vIA cy B g_95 142 49 Nw := vIA_fr hnow_79 (fun q h1 h2 => hn_97 q (by omega))
                    have hse_100 : vLA cy B g_95 146 169 Sv := vLA_fr hse_80 (fun q h1 h2 => hn_97 q (by omega))
                    have hbe_101 : vLA cy B g_95 153 366 Be1_3 := vLA_fr hbe_81 (fun q h1 h2 => hn_97 q (by omega))
                    have hlo_102 : vLA cy B g_95 154 366 Lo1_4 := vLA_fr hlo_82 (fun q h1 h2 => hn_97 q (by omega))
                    have hsh_103 : vLA cy B g_95 155 366 Sh1_5 := vLA_fr hsh_83 (fun q h1 h2 => hn_97 q (by omega))
                    have hro_104 : vIA cy B g_95 156 366 Ro1_6 := vIA_fr hro_84 (fun q h1 h2 => hn_97 q (by omega))
                    have htr_105 : vIA cy B g_95 157 5 (uZ Tj ((j : Nat) : Int) ((Tj ((j : Nat) : Int)) + 1)) := vIA_fr htr_85 (fun q h1 h2 => hn_97 q (by omega))
                    have hsu_106 : vIA cy B g_95 158 6 Sj := vIA_fr hsu_86 (fun q h1 h2 => hn_97 q (by omega))
                    have hso_107 : vLA cy B g_95 159 6 (uZ Oj (((j + 1) : Nat) : Int) ((Oj ((j : Nat) : Int)) * ((ch (coT c ((j : Nat) : Int)).toNat (Tj ((j : Nat) : Int) + 1).toNat : Nat) : Int))) := he_96
                    have hfr_108 : ∀ q, (q ≠ 153 ∧ q ≠ 154 ∧ q ≠ 155 ∧ q ≠ 156 ∧ q ≠ 157 ∧ q ≠ 158 ∧ q ≠ 159) → g_95 q = g q := fun q hq => (hn_97 q (by omega)).trans (hfr_88 q hq)
                    refine w_aload_n dX11_walks_229 rfl 6 rfl ?_
                    refine w_get (i := 30) (T := TX11) (NF := 32) 141 (by first | omega | with_reducible rfl) hm_98 rfl (fun _ h => (List.mem_cons_of_mem _ (List.mem_append_right _ h))) (by decide) (List.mem_of_getElem? (i := 2) rfl) rfl dX11_walks_230 ?_
                    refine w_iload dX11_walks_233 0 rfl ?_
                    refine w_as (st' := [.int (zI (((j + 1) : Nat) : Int)), .ref (B + 158)]) (sc_i (by first | omega | with_reducible rfl) rfl) ?_
                    refine w_iload dX11_walks_235 5 rfl ?_
                    refine w_iast 158 (by first | omega | with_reducible rfl) hsu_106 (by first | omega | with_reducible rfl) dX11_walks_237 (fun g_109 he_110 hn_111 => ?_)
                    have hm_112 : vM cy B g_109 141 cg le sp va o0 tn aw mw fw ls gs sn sw kr := vM_fr hm_98 (fun q h1 h2 => hn_111 q (by omega))
                    have hnow_113 : vIA cy B g_109 142 49 Nw := vIA_fr hnow_99 (fun q h1 h2 => hn_111 q (by omega))
                    have hse_114 : vLA cy B g_109 146 169 Sv := vLA_fr hse_100 (fun q h1 h2 => hn_111 q (by omega))
                    have hbe_115 : vLA cy B g_109 153 366 Be1_3 := vLA_fr hbe_101 (fun q h1 h2 => hn_111 q (by omega))
                    have hlo_116 : vLA cy B g_109 154 366 Lo1_4 := vLA_fr hlo_102 (fun q h1 h2 => hn_111 q (by omega))
                    have hsh_117 : vLA cy B g_109 155 366 Sh1_5 := vLA_fr hsh_103 (fun q h1 h2 => hn_111 q (by omega))
                    have hro_118 : vIA cy B g_109 156 366 Ro1_6 := vIA_fr hro_104 (fun q h1 h2 => hn_111 q (by omega))
                    have htr_119 : vIA cy B g_109 157 5 (uZ Tj ((j : Nat) : Int) ((Tj ((j : Nat) : Int)) + 1)) := vIA_fr htr_105 (fun q h1 h2 => hn_111 q (by omega))
                    have hsu_120 : vIA cy B g_109 158 6 (uZ Sj (((j + 1) : Nat) : Int) ((Sj ((j : Nat) : Int)) + (Tj ((j : Nat) : Int) + 1))) := he_110
                    have hso_121 : vLA cy B g_109 159 6 (uZ Oj (((j + 1) : Nat) : Int) ((Oj ((j : Nat) : Int)) * ((ch (coT c ((j : Nat) : Int)).toNat (Tj ((j : Nat) : Int) + 1).toNat : Nat) : Int))) := vLA_fr hso_107 (fun q h1 h2 => hn_111 q (by omega))
                    have hfr_122 : ∀ q, (q ≠ 153 ∧ q ≠ 154 ∧ q ≠ 155 ∧ q ≠ 156 ∧ q ≠ 157 ∧ q ≠ 158 ∧ q ≠ 159) → g_109 q = g q := fun q hq => (hn_111 q (by omega)).trans (hfr_108 q hq)
                    refine w_aload_n dX11_walks_238 rfl 6 rfl ?_
                    refine w_get (i := 29) (T := TX11) (NF := 32) 141 (by first | omega | with_reducible rfl) hm_112 rfl (fun _ h => (List.mem_cons_of_mem _ (List.mem_append_right _ h))) (by decide) (List.mem_of_getElem? (i := 3) rfl) rfl dX11_walks_239 ?_
                    refine w_iload dX11_walks_242 0 rfl ?_
                    refine w_as (st' := [.int (zI (((j + 1) : Nat) : Int)), .ref (B + 157)]) (sc_i (by first | omega | with_reducible rfl) rfl) ?_
                    refine w_iconst dX11_walks_244 ?_
                    refine w_iast 157 (by first | omega | with_reducible rfl) htr_119 (by first | omega | with_reducible rfl) dX11_walks_245 (fun g_123 he_124 hn_125 => ?_)
                    have hm_126 : vM cy B g_123 141 cg le sp va o0 tn aw mw fw ls gs sn sw kr := vM_fr hm_112 (fun q h1 h2 => hn_125 q (by omega))
                    have hnow_127 : vIA cy B g_123 142 49 Nw := vIA_fr hnow_113 (fun q h1 h2 => hn_125 q (by omega))
                    have hse_128 : vLA cy B g_123 146 169 Sv := vLA_fr hse_114 (fun q h1 h2 => hn_125 q (by omega))
                    have hbe_129 : vLA cy B g_123 153 366 Be1_3 := vLA_fr hbe_115 (fun q h1 h2 => hn_125 q (by omega))
                    have hlo_130 : vLA cy B g_123 154 366 Lo1_4 := vLA_fr hlo_116 (fun q h1 h2 => hn_125 q (by omega))
                    have hsh_131 : vLA cy B g_123 155 366 Sh1_5 := vLA_fr hsh_117 (fun q h1 h2 => hn_125 q (by omega))
                    have hro_132 : vIA cy B g_123 156 366 Ro1_6 := vIA_fr hro_118 (fun q h1 h2 => hn_125 q (by omega))
                    have htr_133 : vIA cy B g_123 157 5 (uZ (uZ Tj ((j : Nat) : Int) ((Tj ((j : Nat) : Int)) + 1)) (((j + 1) : Nat) : Int) (-1)) := he_124
                    have hsu_134 : vIA cy B g_123 158 6 (uZ Sj (((j + 1) : Nat) : Int) ((Sj ((j : Nat) : Int)) + (Tj ((j : Nat) : Int) + 1))) := vIA_fr hsu_120 (fun q h1 h2 => hn_125 q (by omega))
                    have hso_135 : vLA cy B g_123 159 6 (uZ Oj (((j + 1) : Nat) : Int) ((Oj ((j : Nat) : Int)) * ((ch (coT c ((j : Nat) : Int)).toNat (Tj ((j : Nat) : Int) + 1).toNat : Nat) : Int))) := vLA_fr hso_121 (fun q h1 h2 => hn_125 q (by omega))
                    have hfr_136 : ∀ q, (q ≠ 153 ∧ q ≠ 154 ∧ q ≠ 155 ∧ q ≠ 156 ∧ q ≠ 157 ∧ q ≠ 158 ∧ q ≠ 159) → g_123 q = g q := fun q hq => (hn_125 q (by omega)).trans (hfr_122 q hq)
                    skip
                    refine w_goto 38 dX11_walks_246 (by decide) ?_
                    refine w_sub [(0, .ref (B + 141)), (1, .int (zI ((k : Nat) : Int))), (2, .int (zI 1)), (3, .long (zJ (coP c))), (5, .int (zI (nn9 + 1))), (6, .int (zI ((((j1 : Nat) : Int) - 1) + 1)))] [6, 7, 8, 9, 4, 0] rfl ?_
                    refine w_lv (lv' := [(0, .ref (B + 141)), (1, .int (zI ((k : Nat) : Int))), (2, .int (zI 1)), (3, .long (zJ (coP c))), (5, .int (zI (nn9 + 1))), (6, .int (zI ((((j + 1 + 1) : Nat) : Int) - 1)))]) (lc_s (lc_s (lc_s (lc_s (lc_i (by first | omega | with_reducible rfl) (lc_i (by first | omega | with_reducible rfl) rfl)))))) ?_
                    exact ih_38 (j + 1 + 1) (nn9 + 1) (uZ (uZ Tj ((j : Nat) : Int) ((Tj ((j : Nat) : Int)) + 1)) (((j + 1) : Nat) : Int) (-1)) (uZ Sj (((j + 1) : Nat) : Int) ((Sj ((j : Nat) : Int)) + (Tj ((j : Nat) : Int) + 1))) (uZ Oj (((j + 1) : Nat) : Int) ((Oj ((j : Nat) : Int)) * ((ch (coT c ((j : Nat) : Int)).toNat (Tj ((j : Nat) : Int) + 1).toNat : Nat) : Int))) g_123 ⟨hm_126, hnow_127, hse_128, hbe_129, hlo_130, hsh_131, hro_132, htr_133, hsu_134, hso_135, hfr_136, (by omega), (fun i hi => lvS_new hlj hjj i hi hTT hvl hww), (by rw [← hT, hjj, rmS_top (t := (Tj ((j : Nat) : Int))) rfl hlv.1.1 (by omega), hgo9, rmS_new hc (Tr := (uZ Tj ((j : Nat) : Int) (Tj ((j : Nat) : Int) + 1))) (Su := Sj) (So := Oj) (j := j + 1) (by omega) hth9 (fun i hi => ⟨uZ_ne (by omega), uZ_ne (by omega), uZ_ne (by omega)⟩) (uZ_same _ _ _) (hsu9 _) (uZ_same _ _ _)]; omega)⟩ (by rw [hjj]; exact muS_new hc (by omega) rfl hlv.1.1 (by omega) (fun i hi => uZ_ne (by omega)) (uZ_same _ _ _))
                · have hst9 : fwk true c j (Sj ((j : Nat) : Int)).toNat (Oj ((j : Nat) : Int)) (Tj ((j : Nat) : Int) + 1).toNat = 1 := fwk_stop (by omega) rfl hL2 hS2 (Or.inr (by omega))
                  refine w_iconst dX11_walks_205 ?_
                  refine w_goto 210 dX11_walks_206 (by decide) ?_
                  refine w_istore [(11, .int (zI 1)), (10, .int (zI (61 * (((j + 1) : Nat) : Int) + (((Sj ((j : Nat) : Int)).toNat + (Tj ((j : Nat) : Int) + 1).toNat : Nat) : Int)))), (8, .long (zJ ((Oj ((j : Nat) : Int)) * ((ch (coT c ((j : Nat) : Int)).toNat (Tj ((j : Nat) : Int) + 1).toNat : Nat) : Int)))), (5, .int (zI (nn9 + 1))), (7, .int (zI ((Sj ((j : Nat) : Int)) + (Tj ((j : Nat) : Int) + 1)))), (0, .ref (B + 141)), (1, .int (zI ((k : Nat) : Int))), (2, .int (zI 1)), (3, .long (zJ (coP c))), (6, .int (zI (((j1 : Nat) : Int) - 1)))] dX11_walks_210 (by decide) rfl ?_
                  refine w_iload dX11_walks_212 0 rfl ?_
                  refine w_if_ne 246 dX11_walks_214 (by decide) (by first | omega | with_reducible rfl) (fun c_214 => ?_) (fun c_214 => ?_)
                  · skip
                    refine w_goto 38 dX11_walks_246 (by decide) ?_
                    refine w_sub [(0, .ref (B + 141)), (1, .int (zI ((k : Nat) : Int))), (2, .int (zI 1)), (3, .long (zJ (coP c))), (5, .int (zI (nn9 + 1))), (6, .int (zI (((j1 : Nat) : Int) - 1)))] [5, 6, 7, 8, 3, 9] rfl ?_
                    refine w_lv (lv' := [(0, .ref (B + 141)), (1, .int (zI ((k : Nat) : Int))), (2, .int (zI 1)), (3, .long (zJ (coP c))), (5, .int (zI (nn9 + 1))), (6, .int (zI ((((j + 1) : Nat) : Int) - 1)))]) (lc_s (lc_s (lc_s (lc_s (lc_i (by first | omega | with_reducible rfl) (lc_i (by first | omega | with_reducible rfl) rfl)))))) ?_
                    exact ih_38 (j + 1) (nn9 + 1) (uZ Tj ((j : Nat) : Int) ((Tj ((j : Nat) : Int)) + 1)) Sj Oj g_75 ⟨hm_78, hnow_79, hse_80, hbe_81, hlo_82, hsh_83, hro_84, htr_85, hsu_86, hso_87, hfr_88, (by omega), (fun i hi => lvS_same hlj hjj i hi (by omega)), (by rw [← hT, hjj, rmS_top (t := (Tj ((j : Nat) : Int))) rfl hlv.1.1 (by omega), hst9]; omega)⟩ (by have := muS_top (c := c) (Tr := Tj) (j := j) (t := (Tj ((j : Nat) : Int))) (by omega) rfl hlv.1.1 (by omega); have := (pow15 (show j ≤ 4 by omega)).1; rw [hjj]; omega)
                  · exfalso; omega
    · have hTe : Tj ((j : Nat) : Int) = coT c ((j : Nat) : Int) := by omega
      refine w_iinc 6 [(6, .int (zI ((((j1 : Nat) : Int) - 1) + (-1)))), (7, .int (zI ((Sj ((j : Nat) : Int)) + (Tj ((j : Nat) : Int) + 1)))), (0, .ref (B + 141)), (1, .int (zI ((k : Nat) : Int))), (2, .int (zI 1)), (3, .long (zJ (coP c))), (5, .int (zI nn9))] dX11_walks_89 rfl (by decide) rfl ?_
      refine w_goto 246 dX11_walks_92 (by decide) ?_
      skip
      refine w_goto 38 dX11_walks_246 (by decide) ?_
      refine w_sub [(0, .ref (B + 141)), (1, .int (zI ((k : Nat) : Int))), (2, .int (zI 1)), (3, .long (zJ (coP c))), (5, .int (zI nn9)), (6, .int (zI ((((j1 : Nat) : Int) - 1) + (-1))))] [2, 3, 4, 5, 6, 0] rfl ?_
      refine w_lv (lv' := [(0, .ref (B + 141)), (1, .int (zI ((k : Nat) : Int))), (2, .int (zI 1)), (3, .long (zJ (coP c))), (5, .int (zI nn9)), (6, .int (zI (((j : Nat) : Int) - 1)))]) (lc_s (lc_s (lc_s (lc_s (lc_i (by first | omega | with_reducible rfl) (lc_i (by first | omega | with_reducible rfl) rfl)))))) ?_
      exact ih_38 j nn9 (uZ Tj ((j : Nat) : Int) ((Tj ((j : Nat) : Int)) + 1)) Sj Oj g_75 ⟨hm_78, hnow_79, hse_80, hbe_81, hlo_82, hsh_83, hro_84, htr_85, hsu_86, hso_87, hfr_88, (by omega), (fun i hi => lvS_low hlj hjj i hi), (by rw [← hT, hjj, rmS_pop hTe (Tr' := (uZ Tj ((j : Nat) : Int) (Tj ((j : Nat) : Int) + 1))) (fun i hi => uZ_ne (by omega))])⟩ (by rw [hjj]; exact muS_pop (by omega) hTe (fun i hi => uZ_ne (by omega)))
set_option maxHeartbeats 4000000 in
set_option maxRecDepth 100000 in
theorem m_walks_0 {l : Launch} {D : va_G} {cy : Nat → ClassId} {B N : Nat} {g : Nat → va_E} {cg le sp va o0 tn aw mw fw ls gs sn sw kr : Int} {Nw Sv Tr Su So : Int → Int} {Be Lo Sh Ro : Int → Int} {k : Nat} {c : List Co} (hm : vM cy B g 141 cg le sp va o0 tn aw mw fw ls gs sn sw kr) (hnow : vIA cy B g 142 49 Nw) (hse : vLA cy B g 146 169 Sv) (hbe : vLA cy B g 153 366 Be) (hlo : vLA cy B g 154 366 Lo) (hsh : vLA cy B g 155 366 Sh) (hro : vIA cy B g 156 366 Ro) (htr : vIA cy B g 157 5 Tr) (hsu : vIA cy B g 158 6 Su) (hso : vLA cy B g 159 6 So) (hN : 160 ≤ N) (hmc : MC Nw k c) (hc : cok c) (h2 : 2 ≤ c.length) (hSv : SvOK Sv) : CTi l yX11_walks wsX11_walks (rmo 5 121) D cy B N g [.ref (B + 141), .int (zI ((k : Nat) : Int)), .int (zI 0)] (wkC false (coP c) (coL c) (coR c) 1) (fun g' => ∃ Be1 : Int → Int, ∃ Lo1 : Int → Int, ∃ Sh1 : Int → Int, ∃ Ro1 : Int → Int, ∃ Tr1 : Int → Int, ∃ Su1 : Int → Int, ∃ So1 : Int → Int, vLA cy B g' 153 366 Be1 ∧ vLA cy B g' 154 366 Lo1 ∧ vLA cy B g' 155 366 Sh1 ∧ vIA cy B g' 156 366 Ro1 ∧ vIA cy B g' 157 5 Tr1 ∧ vIA cy B g' 158 6 Su1 ∧ vLA cy B g' 159 6 So1 ∧ (∀ q, (q ≠ 153 ∧ q ≠ 154 ∧ q ≠ 155 ∧ q ≠ 156 ∧ q ≠ 157 ∧ q ≠ 158 ∧ q ≠ 159) → g' q = g q)) := by
  refine WW_of (cc := cX11_walks) (maxL := 12) (ret := (some .int)) (own := RX11) (by decide) rfl rfl (Nat.le_of_ble_eq_true rfl) rfl ?_
  intro pp ee ss mm bl me co hmn
  have hfr_0 : ∀ q, (q ≠ 153 ∧ q ≠ 154 ∧ q ≠ 155 ∧ q ≠ 156 ∧ q ≠ 157 ∧ q ≠ 158 ∧ q ≠ 159) → g q = g q := fun _ _ => rfl
  have hk3 := hmc.1
  have hc5 := hc.1
  have hco := coL_S hc
  have hcp := (SO_co hc).1
  refine w_aload_n dX11_walks_0 rfl 0 rfl ?_
  refine w_iload_n dX11_walks_1 rfl 1 rfl ?_
  refine w_callv (As := [.int (zI ((k : Nat) : Int))]) (rest := []) (n := 1) (c_X11_laysBehind (k := k) hm hnow hse hbe hlo hsh hro (by first | omega | with_reducible rfl) (by first | omega | with_reducible rfl) (by first | omega | with_reducible rfl) (by first | omega | with_reducible rfl)) gX11_walks_X11_laysBehind rfl rfl rfl (by decide +kernel) ⟨Nat.le_of_ble_eq_true rfl, Nat.le_of_ble_eq_true rfl⟩ rfl (by first | omega | with_reducible rfl) hm rfl (Nat.le_of_ble_eq_true rfl) ⟨Nat.zero_le _, Nat.zero_le _⟩ dX11_walks_2 rfl (fun g_1 hp_2 => ?_)
  obtain ⟨Be1_3, Lo1_4, Sh1_5, Ro1_6, hbe_7, hlo_8, hsh_9, hro_10, hNB_2, hf_11⟩ := hp_2
  have hm_12 : vM cy B g_1 141 cg le sp va o0 tn aw mw fw ls gs sn sw kr := vM_fr hm (fun q h1 h2 => hf_11 q (by omega))
  have hnow_13 : vIA cy B g_1 142 49 Nw := vIA_fr hnow (fun q h1 h2 => hf_11 q (by omega))
  have hse_14 : vLA cy B g_1 146 169 Sv := vLA_fr hse (fun q h1 h2 => hf_11 q (by omega))
  have htr_15 : vIA cy B g_1 157 5 Tr := vIA_fr htr (fun q h1 h2 => hf_11 q (by omega))
  have hsu_16 : vIA cy B g_1 158 6 Su := vIA_fr hsu (fun q h1 h2 => hf_11 q (by omega))
  have hso_17 : vLA cy B g_1 159 6 So := vLA_fr hso (fun q h1 h2 => hf_11 q (by omega))
  have hfr_18 : ∀ q, (q ≠ 153 ∧ q ≠ 154 ∧ q ≠ 155 ∧ q ≠ 156 ∧ q ≠ 157 ∧ q ≠ 158 ∧ q ≠ 159) → g_1 q = g q := fun q hq => (hf_11 q (by omega)).trans (hfr_0 q hq)
  refine w_aload_n dX11_walks_5 rfl 0 rfl ?_
  refine w_iload_n dX11_walks_6 rfl 1 rfl ?_
  refine w_calll (As := [.int (zI ((k : Nat) : Int))]) (rest := []) (n := 1) (c_X11_seenWays (k := k) hm_12 hnow_13 hse_14 (by first | omega | with_reducible rfl) (by first | omega | with_reducible rfl) (by first | omega | with_reducible rfl) (by first | omega | with_reducible rfl)) gX11_walks_X11_seenWays rfl rfl rfl (by decide +kernel) ⟨Nat.le_of_ble_eq_true rfl, Nat.le_of_ble_eq_true rfl⟩ rfl (by first | omega | with_reducible rfl) hm_12 rfl (Nat.le_of_ble_eq_true rfl) ⟨Nat.zero_le _, Nat.zero_le _⟩ dX11_walks_7 rfl (fun g_19 hp_20 => ?_)
  subst g_19
  refine w_lstore_n [(3, .long (zJ (coP c))), (0, .ref (B + 141)), (1, .int (zI ((k : Nat) : Int))), (2, .int (zI 0))] dX11_walks_10 rfl (by decide) rfl ?_
  refine w_iconst dX11_walks_11 ?_
  refine w_istore [(5, .int (zI 0)), (3, .long (zJ (coP c))), (0, .ref (B + 141)), (1, .int (zI ((k : Nat) : Int))), (2, .int (zI 0))] dX11_walks_12 (by decide) rfl ?_
  refine w_iconst dX11_walks_14 ?_
  refine w_istore [(6, .int (zI 0)), (5, .int (zI 0)), (3, .long (zJ (coP c))), (0, .ref (B + 141)), (1, .int (zI ((k : Nat) : Int))), (2, .int (zI 0))] dX11_walks_15 (by decide) rfl ?_
  refine w_aload_n dX11_walks_17 rfl 3 rfl ?_
  refine w_get (i := 31) (T := TX11) (NF := 32) 141 (by first | omega | with_reducible rfl) hm_12 rfl (fun _ h => (List.mem_cons_of_mem _ (List.mem_append_right _ h))) (by decide) (List.mem_of_getElem? (i := 1) rfl) rfl dX11_walks_18 ?_
  refine w_iconst dX11_walks_21 ?_
  refine w_lconst1 dX11_walks_22 ?_
  refine w_last 159 (by first | omega | with_reducible rfl) hso_17 (by first | omega | with_reducible rfl) dX11_walks_23 (fun g_21 he_22 hn_23 => ?_)
  have hm_24 : vM cy B g_21 141 cg le sp va o0 tn aw mw fw ls gs sn sw kr := vM_fr hm_12 (fun q h1 h2 => hn_23 q (by omega))
  have hnow_25 : vIA cy B g_21 142 49 Nw := vIA_fr hnow_13 (fun q h1 h2 => hn_23 q (by omega))
  have hse_26 : vLA cy B g_21 146 169 Sv := vLA_fr hse_14 (fun q h1 h2 => hn_23 q (by omega))
  have hbe_27 : vLA cy B g_21 153 366 Be1_3 := vLA_fr hbe_7 (fun q h1 h2 => hn_23 q (by omega))
  have hlo_28 : vLA cy B g_21 154 366 Lo1_4 := vLA_fr hlo_8 (fun q h1 h2 => hn_23 q (by omega))
  have hsh_29 : vLA cy B g_21 155 366 Sh1_5 := vLA_fr hsh_9 (fun q h1 h2 => hn_23 q (by omega))
  have hro_30 : vIA cy B g_21 156 366 Ro1_6 := vIA_fr hro_10 (fun q h1 h2 => hn_23 q (by omega))
  have htr_31 : vIA cy B g_21 157 5 Tr := vIA_fr htr_15 (fun q h1 h2 => hn_23 q (by omega))
  have hsu_32 : vIA cy B g_21 158 6 Su := vIA_fr hsu_16 (fun q h1 h2 => hn_23 q (by omega))
  have hso_33 : vLA cy B g_21 159 6 (uZ So 0 1) := he_22
  have hfr_34 : ∀ q, (q ≠ 153 ∧ q ≠ 154 ∧ q ≠ 155 ∧ q ≠ 156 ∧ q ≠ 157 ∧ q ≠ 158 ∧ q ≠ 159) → g_21 q = g q := fun q hq => (hn_23 q (by omega)).trans (hfr_18 q hq)
  refine w_aload_n dX11_walks_24 rfl 3 rfl ?_
  refine w_get (i := 30) (T := TX11) (NF := 32) 141 (by first | omega | with_reducible rfl) hm_24 rfl (fun _ h => (List.mem_cons_of_mem _ (List.mem_append_right _ h))) (by decide) (List.mem_of_getElem? (i := 2) rfl) rfl dX11_walks_25 ?_
  refine w_iconst dX11_walks_28 ?_
  refine w_iconst dX11_walks_29 ?_
  refine w_iast 158 (by first | omega | with_reducible rfl) hsu_32 (by first | omega | with_reducible rfl) dX11_walks_30 (fun g_35 he_36 hn_37 => ?_)
  have hm_38 : vM cy B g_35 141 cg le sp va o0 tn aw mw fw ls gs sn sw kr := vM_fr hm_24 (fun q h1 h2 => hn_37 q (by omega))
  have hnow_39 : vIA cy B g_35 142 49 Nw := vIA_fr hnow_25 (fun q h1 h2 => hn_37 q (by omega))
  have hse_40 : vLA cy B g_35 146 169 Sv := vLA_fr hse_26 (fun q h1 h2 => hn_37 q (by omega))
  have hbe_41 : vLA cy B g_35 153 366 Be1_3 := vLA_fr hbe_27 (fun q h1 h2 => hn_37 q (by omega))
  have hlo_42 : vLA cy B g_35 154 366 Lo1_4 := vLA_fr hlo_28 (fun q h1 h2 => hn_37 q (by omega))
  have hsh_43 : vLA cy B g_35 155 366 Sh1_5 := vLA_fr hsh_29 (fun q h1 h2 => hn_37 q (by omega))
  have hro_44 : vIA cy B g_35 156 366 Ro1_6 := vIA_fr hro_30 (fun q h1 h2 => hn_37 q (by omega))
  have htr_45 : vIA cy B g_35 157 5 Tr := vIA_fr htr_31 (fun q h1 h2 => hn_37 q (by omega))
  have hsu_46 : vIA cy B g_35 158 6 (uZ Su 0 0) := he_36
  have hso_47 : vLA cy B g_35 159 6 (uZ So 0 1) := vLA_fr hso_33 (fun q h1 h2 => hn_37 q (by omega))
  have hfr_48 : ∀ q, (q ≠ 153 ∧ q ≠ 154 ∧ q ≠ 155 ∧ q ≠ 156 ∧ q ≠ 157 ∧ q ≠ 158 ∧ q ≠ 159) → g_35 q = g q := fun q hq => (hn_37 q (by omega)).trans (hfr_34 q hq)
  refine w_aload_n dX11_walks_31 rfl 3 rfl ?_
  refine w_get (i := 29) (T := TX11) (NF := 32) 141 (by first | omega | with_reducible rfl) hm_38 rfl (fun _ h => (List.mem_cons_of_mem _ (List.mem_append_right _ h))) (by decide) (List.mem_of_getElem? (i := 3) rfl) rfl dX11_walks_32 ?_
  refine w_iconst dX11_walks_35 ?_
  refine w_iconst dX11_walks_36 ?_
  refine w_iast 157 (by first | omega | with_reducible rfl) htr_45 (by first | omega | with_reducible rfl) dX11_walks_37 (fun g_49 he_50 hn_51 => ?_)
  have hm_52 : vM cy B g_49 141 cg le sp va o0 tn aw mw fw ls gs sn sw kr := vM_fr hm_38 (fun q h1 h2 => hn_51 q (by omega))
  have hnow_53 : vIA cy B g_49 142 49 Nw := vIA_fr hnow_39 (fun q h1 h2 => hn_51 q (by omega))
  have hse_54 : vLA cy B g_49 146 169 Sv := vLA_fr hse_40 (fun q h1 h2 => hn_51 q (by omega))
  have hbe_55 : vLA cy B g_49 153 366 Be1_3 := vLA_fr hbe_41 (fun q h1 h2 => hn_51 q (by omega))
  have hlo_56 : vLA cy B g_49 154 366 Lo1_4 := vLA_fr hlo_42 (fun q h1 h2 => hn_51 q (by omega))
  have hsh_57 : vLA cy B g_49 155 366 Sh1_5 := vLA_fr hsh_43 (fun q h1 h2 => hn_51 q (by omega))
  have hro_58 : vIA cy B g_49 156 366 Ro1_6 := vIA_fr hro_44 (fun q h1 h2 => hn_51 q (by omega))
  have htr_59 : vIA cy B g_49 157 5 (uZ Tr 0 (-1)) := he_50
  have hsu_60 : vIA cy B g_49 158 6 (uZ Su 0 0) := vIA_fr hsu_46 (fun q h1 h2 => hn_51 q (by omega))
  have hso_61 : vLA cy B g_49 159 6 (uZ So 0 1) := vLA_fr hso_47 (fun q h1 h2 => hn_51 q (by omega))
  have hfr_62 : ∀ q, (q ≠ 153 ∧ q ≠ 154 ∧ q ≠ 155 ∧ q ≠ 156 ∧ q ≠ 157 ∧ q ≠ 158 ∧ q ≠ 159) → g_49 q = g q := fun q hq => (hn_51 q (by omega)).trans (hfr_48 q hq)
  refine w_sub [(0, .ref (B + 141)), (1, .int (zI ((k : Nat) : Int))), (2, .int (zI 0)), (3, .long (zJ (coP c))), (5, .int (zI 0)), (6, .int (zI 0))] [3, 4, 5, 2, 1, 0] rfl ?_
  refine w_lv (lv' := [(0, .ref (B + 141)), (1, .int (zI ((k : Nat) : Int))), (2, .int (zI 0)), (3, .long (zJ (coP c))), (5, .int (zI 0)), (6, .int (zI (((1 : Nat) : Int) - 1)))]) (lc_s (lc_s (lc_s (lc_s (lc_i (by first | omega | with_reducible rfl) (lc_i (by first | omega | with_reducible rfl) rfl)))))) ?_
  refine w_loop6 (fun (j1 : Nat) (nn9 : Int) (Tj : Int → Int) (Sj : Int → Int) (Oj : Int → Int) (gl_63 : (Nat → va_E)) => vM cy B gl_63 141 cg le sp va o0 tn aw mw fw ls gs sn sw kr ∧ vIA cy B gl_63 142 49 Nw ∧ vLA cy B gl_63 146 169 Sv ∧ vLA cy B gl_63 153 366 Be1_3 ∧ vLA cy B gl_63 154 366 Lo1_4 ∧ vLA cy B gl_63 155 366 Sh1_5 ∧ vIA cy B gl_63 156 366 Ro1_6 ∧ vIA cy B gl_63 157 5 Tj ∧ vIA cy B gl_63 158 6 Sj ∧ vLA cy B gl_63 159 6 Oj ∧ (∀ q, (q ≠ 153 ∧ q ≠ 154 ∧ q ≠ 155 ∧ q ≠ 156 ∧ q ≠ 157 ∧ q ≠ 158 ∧ q ≠ 159) → gl_63 q = g q) ∧ j1 ≤ c.length ∧ (∀ i : Nat, i < j1 → lvS c Tj Sj Oj i) ∧ nn9 + rmS false c Tj Sj Oj j1 = wkC false (coP c) (coL c) (coR c) 1) (fun (j1 : Nat) (nn9 : Int) (Tj : Int → Int) (Sj : Int → Int) (Oj : Int → Int) (gl_63 : (Nat → va_E)) => muS c Tj j1) (fun (j1 : Nat) (nn9 : Int) (Tj : Int → Int) (Sj : Int → Int) (Oj : Int → Int) (gl_63 : (Nat → va_E)) => gl_63) (fun (j1 : Nat) (nn9 : Int) (Tj : Int → Int) (Sj : Int → Int) (Oj : Int → Int) (gl_63 : (Nat → va_E)) => [(0, .ref (B + 141)), (1, .int (zI ((k : Nat) : Int))), (2, .int (zI 0)), (3, .long (zJ (coP c))), (5, .int (zI nn9)), (6, .int (zI (((j1 : Nat) : Int) - 1)))]) ?_ 1 0 (uZ Tr 0 (-1)) (uZ Su 0 0) (uZ So 0 1) g_49 ⟨hm_52, hnow_53, hse_54, hbe_55, hlo_56, hsh_57, hro_58, htr_59, hsu_60, hso_61, hfr_62, (by first | omega | with_reducible rfl), (lvS_0 hc (by omega)), (rmS_0 hc (by omega))⟩
  rintro j1 nn9 Tj Sj Oj gl_63 ⟨hm_64, hnow_65, hse_66, hbe_67, hlo_68, hsh_69, hro_70, htr_71, hsu_72, hso_73, hfr_74, hj1, hlv, hT⟩ ih_38
  refine w_iload dX11_walks_38 5 rfl ?_
  refine w_if_lt 249 dX11_walks_40 (by decide) (by first | omega | with_reducible rfl) (fun c_40 => ?_) (fun c_40 => ?_)
  · have hj0 : j1 = 0 := by omega
    subst hj0
    have hTe9 : nn9 = wkC false (coP c) (coL c) (coR c) 1 := by rw [← hT]; exact (Int.add_zero _).symm
    refine w_iload dX11_walks_249 4 rfl ?_
    exact w_iret dX11_walks_251 rfl (by exact hTe9) ⟨Be1_3, Lo1_4, Sh1_5, Ro1_6, Tj, Sj, Oj, hbe_67, hlo_68, hsh_69, hro_70, htr_71, hsu_72, hso_73, hfr_74⟩
  · obtain ⟨j, hjj⟩ : ∃ j, j1 = j + 1 := ⟨j1 - 1, by omega⟩
    have hlj := hlv
    have hlv := hlj j (by omega)
    have hjc : j < c.length := by omega
    have hcj := hc.2 ((j : Nat) : Int) (by omega) (by omega)
    have hsR := hlv.2.1
    have hlt1 := hlv.1
    refine w_aload_n dX11_walks_43 rfl 0 rfl ?_
    refine w_get (i := 29) (T := TX11) (NF := 32) 141 (by first | omega | with_reducible rfl) hm_64 rfl (fun _ h => (List.mem_cons_of_mem _ (List.mem_append_right _ h))) (by decide) (List.mem_of_getElem? (i := 3) rfl) rfl dX11_walks_44 ?_
    refine w_iload dX11_walks_47 5 rfl ?_
    refine w_as (st' := [.int (zI ((j : Nat) : Int)), .ref (B + 157)]) (sc_i (by first | omega | with_reducible rfl) rfl) ?_
    refine w_dup2 dX11_walks_49 rfl rfl ?_
    refine w_iald 157 (by first | omega | with_reducible rfl) htr_71 (by first | omega | with_reducible rfl) dX11_walks_50 ?_
    refine w_as (st' := [.int (zI (Tj ((j : Nat) : Int))), .int (zI ((j : Nat) : Int)), .ref (B + 157)]) (sc_i rfl rfl) ?_
    refine w_iconst dX11_walks_51 ?_
    refine w_iadd dX11_walks_52 ?_
    refine w_iast 157 (by first | omega | with_reducible rfl) htr_71 (by first | omega | with_reducible rfl) dX11_walks_53 (fun g_75 he_76 hn_77 => ?_)
    have hm_78 : vM cy B g_75 141 cg le sp va o0 tn aw mw fw ls gs sn sw kr := vM_fr hm_64 (fun q h1 h2 => hn_77 q (by omega))
    have hnow_79 : vIA cy B g_75 142 49 Nw := vIA_fr hnow_65 (fun q h1 h2 => hn_77 q (by omega))
    have hse_80 : vLA cy B g_75 146 169 Sv := vLA_fr hse_66 (fun q h1 h2 => hn_77 q (by omega))
    have hbe_81 : vLA cy B g_75 153 366 Be1_3 := vLA_fr hbe_67 (fun q h1 h2 => hn_77 q (by omega))
    have hlo_82 : vLA cy B g_75 154 366 Lo1_4 := vLA_fr hlo_68 (fun q h1 h2 => hn_77 q (by omega))
    have hsh_83 : vLA cy B g_75 155 366 Sh1_5 := vLA_fr hsh_69 (fun q h1 h2 => hn_77 q (by omega))
    have hro_84 : vIA cy B g_75 156 366 Ro1_6 := vIA_fr hro_70 (fun q h1 h2 => hn_77 q (by omega))
    have htr_85 : vIA cy B g_75 157 5 (uZ Tj ((j : Nat) : Int) ((Tj ((j : Nat) : Int)) + 1)) := he_76
    have hsu_86 : vIA cy B g_75 158 6 Sj := vIA_fr hsu_72 (fun q h1 h2 => hn_77 q (by omega))
    have hso_87 : vLA cy B g_75 159 6 Oj := vLA_fr hso_73 (fun q h1 h2 => hn_77 q (by omega))
    have hfr_88 : ∀ q, (q ≠ 153 ∧ q ≠ 154 ∧ q ≠ 155 ∧ q ≠ 156 ∧ q ≠ 157 ∧ q ≠ 158 ∧ q ≠ 159) → g_75 q = g q := fun q hq => (hn_77 q (by omega)).trans (hfr_74 q hq)
    refine w_aload_n dX11_walks_54 rfl 0 rfl ?_
    refine w_get (i := 30) (T := TX11) (NF := 32) 141 (by first | omega | with_reducible rfl) hm_78 rfl (fun _ h => (List.mem_cons_of_mem _ (List.mem_append_right _ h))) (by decide) (List.mem_of_getElem? (i := 2) rfl) rfl dX11_walks_55 ?_
    refine w_iload dX11_walks_58 5 rfl ?_
    refine w_as (st' := [.int (zI ((j : Nat) : Int)), .ref (B + 158)]) (sc_i (by first | omega | with_reducible rfl) rfl) ?_
    refine w_iald 158 (by first | omega | with_reducible rfl) hsu_86 (by first | omega | with_reducible rfl) dX11_walks_60 ?_
    refine w_aload_n dX11_walks_61 rfl 0 rfl ?_
    refine w_get (i := 29) (T := TX11) (NF := 32) 141 (by first | omega | with_reducible rfl) hm_78 rfl (fun _ h => (List.mem_cons_of_mem _ (List.mem_append_right _ h))) (by decide) (List.mem_of_getElem? (i := 3) rfl) rfl dX11_walks_62 ?_
    refine w_iload dX11_walks_65 5 rfl ?_
    refine w_as (st' := [.int (zI ((j : Nat) : Int)), .ref (B + 157), .int (zI (Sj ((j : Nat) : Int)))]) (sc_i (by first | omega | with_reducible rfl) rfl) ?_
    refine w_iald 157 (by first | omega | with_reducible rfl) htr_85 (by first | omega | with_reducible rfl) dX11_walks_67 ?_
    refine w_as (st' := [.int (zI (Tj ((j : Nat) : Int) + 1)), .int (zI (Sj ((j : Nat) : Int)))]) (sc_i (uZ_same _ _ _) rfl) ?_
    refine w_iadd dX11_walks_68 ?_
    refine w_istore [(7, .int (zI ((Sj ((j : Nat) : Int)) + (Tj ((j : Nat) : Int) + 1)))), (0, .ref (B + 141)), (1, .int (zI ((k : Nat) : Int))), (2, .int (zI 0)), (3, .long (zJ (coP c))), (5, .int (zI nn9)), (6, .int (zI (((j1 : Nat) : Int) - 1)))] dX11_walks_69 (by decide) rfl ?_
    refine w_aload_n dX11_walks_71 rfl 1 rfl ?_
    refine w_get (i := 29) (T := TX11) (NF := 32) 141 (by first | omega | with_reducible rfl) hm_78 rfl (fun _ h => (List.mem_cons_of_mem _ (List.mem_append_right _ h))) (by decide) (List.mem_of_getElem? (i := 3) rfl) rfl dX11_walks_72 ?_
    refine w_iload dX11_walks_75 6 rfl ?_
    refine w_as (st' := [.int (zI ((j : Nat) : Int)), .ref (B + 157)]) (sc_i (by first | omega | with_reducible rfl) rfl) ?_
    refine w_iald 157 (by first | omega | with_reducible rfl) htr_85 (by first | omega | with_reducible rfl) dX11_walks_77 ?_
    refine w_as (st' := [.int (zI (Tj ((j : Nat) : Int) + 1))]) (sc_i (uZ_same _ _ _) rfl) ?_
    refine w_aload_n dX11_walks_78 rfl 1 rfl ?_
    refine w_iload_n dX11_walks_79 rfl 2 rfl ?_
    refine w_iload dX11_walks_80 6 rfl ?_
    refine w_iconst dX11_walks_82 ?_
    refine w_as (st' := [.int (zI 0), .int (zI ((j : Nat) : Int)), .int (zI ((k : Nat) : Int)), .ref (B + 141), .int (zI (Tj ((j : Nat) : Int) + 1))]) (sc_i (by first | omega | with_reducible rfl) (sc_i (by first | omega | with_reducible rfl) rfl)) ?_
    refine w_calli (As := [.int (zI ((k : Nat) : Int)), .int (zI ((j : Nat) : Int)), .int (zI 0)]) (rest := [.int (zI (Tj ((j : Nat) : Int) + 1))]) (n := 3) (c_X11_of0 (k := k) hm_78 hnow_79 (by first | omega | with_reducible rfl) (by first | omega | with_reducible rfl) (by first | omega | with_reducible rfl)) gX11_walks_X11_of rfl rfl rfl (by decide +kernel) ⟨Nat.le_of_ble_eq_true rfl, Nat.le_of_ble_eq_true rfl⟩ rfl (by first | omega | with_reducible rfl) hm_78 rfl (Nat.le_of_ble_eq_true rfl) ⟨Nat.zero_le _, Nat.zero_le _⟩ dX11_walks_83 rfl (fun g_89 hp_90 => ?_)
    subst g_89
    refine w_icmp_le 95 dX11_walks_86 (by decide) (by first | omega | with_reducible rfl) (by first | omega | with_reducible rfl) (fun c_86 => ?_) (fun c_86 => ?_)
    · have hxn : ((Tj ((j : Nat) : Int) + 1).toNat : Nat) ≤ (coT c ((j : Nat) : Int)).toNat := by omega
      refine w_iload dX11_walks_95 0 rfl ?_
      refine w_bipush dX11_walks_97 (by decide) ?_
      refine w_icmp_ge 246 dX11_walks_99 (by decide) (by first | omega | with_reducible rfl) (by first | omega | with_reducible rfl) (fun c_99 => ?_) (fun c_99 => ?_)
      · have hst9 : fwk false c j (Sj ((j : Nat) : Int)).toNat (Oj ((j : Nat) : Int)) (Tj ((j : Nat) : Int) + 1).toNat = 0 := fwk_no (by rw [MB_out (by omega)]; exact Int.le_refl 0)
        skip
        refine w_goto 38 dX11_walks_246 (by decide) ?_
        refine w_sub [(0, .ref (B + 141)), (1, .int (zI ((k : Nat) : Int))), (2, .int (zI 0)), (3, .long (zJ (coP c))), (5, .int (zI nn9)), (6, .int (zI (((j1 : Nat) : Int) - 1)))] [1, 2, 3, 4, 5, 6] rfl ?_
        refine w_lv (lv' := [(0, .ref (B + 141)), (1, .int (zI ((k : Nat) : Int))), (2, .int (zI 0)), (3, .long (zJ (coP c))), (5, .int (zI nn9)), (6, .int (zI ((((j + 1) : Nat) : Int) - 1)))]) (lc_s (lc_s (lc_s (lc_s (lc_i (by first | omega | with_reducible rfl) (lc_i (by first | omega | with_reducible rfl) rfl)))))) ?_
        exact ih_38 (j + 1) nn9 (uZ Tj ((j : Nat) : Int) ((Tj ((j : Nat) : Int)) + 1)) Sj Oj g_75 ⟨hm_78, hnow_79, hse_80, hbe_81, hlo_82, hsh_83, hro_84, htr_85, hsu_86, hso_87, hfr_88, (by omega), (fun i hi => lvS_same hlj hjj i hi (by omega)), (by rw [← hT, hjj, rmS_top (t := (Tj ((j : Nat) : Int))) rfl hlv.1.1 (by omega), hst9]; omega)⟩ (by have := muS_top (c := c) (Tr := Tj) (j := j) (t := (Tj ((j : Nat) : Int))) (by omega) rfl hlv.1.1 (by omega); have := (pow15 (show j ≤ 4 by omega)).1; rw [hjj]; omega)
      · have hmb := MB_rg hc (j + 1) ((Sj ((j : Nat) : Int)).toNat + (Tj ((j : Nat) : Int) + 1).toNat)
        refine w_aload_n dX11_walks_102 rfl 1 rfl ?_
        refine w_get (i := 28) (T := TX11) (NF := 32) 141 (by first | omega | with_reducible rfl) hm_78 rfl (fun _ h => (List.mem_cons_of_mem _ (List.mem_append_right _ h))) (by decide) (List.mem_of_getElem? (i := 4) rfl) rfl dX11_walks_103 ?_
        refine w_bipush dX11_walks_106 (by decide) ?_
        refine w_iload dX11_walks_108 6 rfl ?_
        refine w_iconst dX11_walks_110 ?_
        refine w_iadd dX11_walks_111 ?_
        refine w_imul dX11_walks_112 ?_
        refine w_iload dX11_walks_113 0 rfl ?_
        refine w_iadd dX11_walks_115 ?_
        refine w_as (st' := [.int (zI (61 * (((j + 1) : Nat) : Int) + (((Sj ((j : Nat) : Int)).toNat + (Tj ((j : Nat) : Int) + 1).toNat : Nat) : Int))), .ref (B + 156)]) (sc_i (by omega) rfl) ?_
        refine w_iald 156 (by first | omega | with_reducible rfl) hro_84 (by first | omega | with_reducible rfl) dX11_walks_116 ?_
        refine w_as (st' := [.int (zI (MB c 4 (j + 1) ((Sj ((j : Nat) : Int)).toNat + (Tj ((j : Nat) : Int) + 1).toNat)))]) (sc_i (hNB_2 (j + 1) (Nat.zero_le _) (by omega) ((Sj ((j : Nat) : Int)).toNat + (Tj ((j : Nat) : Int) + 1).toNat) (by omega)).2.2.2 rfl) ?_
        refine w_if_le 246 dX11_walks_117 (by decide) (by first | omega | with_reducible rfl) (fun c_117 => ?_) (fun c_117 => ?_)
        · have hst9 : fwk false c j (Sj ((j : Nat) : Int)).toNat (Oj ((j : Nat) : Int)) (Tj ((j : Nat) : Int) + 1).toNat = 0 := fwk_no (by omega)
          skip
          refine w_goto 38 dX11_walks_246 (by decide) ?_
          refine w_sub [(0, .ref (B + 141)), (1, .int (zI ((k : Nat) : Int))), (2, .int (zI 0)), (3, .long (zJ (coP c))), (5, .int (zI nn9)), (6, .int (zI (((j1 : Nat) : Int) - 1)))] [1, 2, 3, 4, 5, 6] rfl ?_
          refine w_lv (lv' := [(0, .ref (B + 141)), (1, .int (zI ((k : Nat) : Int))), (2, .int (zI 0)), (3, .long (zJ (coP c))), (5, .int (zI nn9)), (6, .int (zI ((((j + 1) : Nat) : Int) - 1)))]) (lc_s (lc_s (lc_s (lc_s (lc_i (by first | omega | with_reducible rfl) (lc_i (by first | omega | with_reducible rfl) rfl)))))) ?_
          exact ih_38 (j + 1) nn9 (uZ Tj ((j : Nat) : Int) ((Tj ((j : Nat) : Int)) + 1)) Sj Oj g_75 ⟨hm_78, hnow_79, hse_80, hbe_81, hlo_82, hsh_83, hro_84, htr_85, hsu_86, hso_87, hfr_88, (by omega), (fun i hi => lvS_same hlj hjj i hi (by omega)), (by rw [← hT, hjj, rmS_top (t := (Tj ((j : Nat) : Int))) rfl hlv.1.1 (by omega), hst9]; omega)⟩ (by have := muS_top (c := c) (Tr := Tj) (j := j) (t := (Tj ((j : Nat) : Int))) (by omega) rfl hlv.1.1 (by omega); have := (pow15 (show j ≤ 4 by omega)).1; rw [hjj]; omega)
        · have hthn := hmb.2.2.2.2.1.mp (by omega)
          refine w_iinc 5 [(5, .int (zI (nn9 + 1))), (7, .int (zI ((Sj ((j : Nat) : Int)) + (Tj ((j : Nat) : Int) + 1)))), (0, .ref (B + 141)), (1, .int (zI ((k : Nat) : Int))), (2, .int (zI 0)), (3, .long (zJ (coP c))), (6, .int (zI (((j1 : Nat) : Int) - 1)))] dX11_walks_120 rfl (by decide) rfl ?_
          refine w_aload_n dX11_walks_123 rfl 2 rfl ?_
          refine w_get (i := 31) (T := TX11) (NF := 32) 141 (by first | omega | with_reducible rfl) hm_78 rfl (fun _ h => (List.mem_cons_of_mem _ (List.mem_append_right _ h))) (by decide) (List.mem_of_getElem? (i := 1) rfl) rfl dX11_walks_124 ?_
          refine w_iload dX11_walks_127 6 rfl ?_
          refine w_as (st' := [.int (zI ((j : Nat) : Int)), .ref (B + 159)]) (sc_i (by first | omega | with_reducible rfl) rfl) ?_
          refine w_lald 159 (by first | omega | with_reducible rfl) hso_87 (by first | omega | with_reducible rfl) dX11_walks_129 ?_
          refine w_aload_n dX11_walks_130 rfl 2 rfl ?_
          refine w_iload_n dX11_walks_131 rfl 3 rfl ?_
          refine w_iload dX11_walks_132 6 rfl ?_
          refine w_aload_n dX11_walks_134 rfl 2 rfl ?_
          refine w_get (i := 29) (T := TX11) (NF := 32) 141 (by first | omega | with_reducible rfl) hm_78 rfl (fun _ h => (List.mem_cons_of_mem _ (List.mem_append_right _ h))) (by decide) (List.mem_of_getElem? (i := 3) rfl) rfl dX11_walks_135 ?_
          refine w_iload dX11_walks_138 6 rfl ?_
          refine w_as (st' := [.int (zI ((j : Nat) : Int)), .ref (B + 157), .int (zI (((j1 : Nat) : Int) - 1)), .int (zI ((k : Nat) : Int)), .ref (B + 141), .long (zJ (Oj ((j : Nat) : Int)))]) (sc_i (by first | omega | with_reducible rfl) rfl) ?_
          refine w_iald 157 (by first | omega | with_reducible rfl) htr_85 (by first | omega | with_reducible rfl) dX11_walks_140 ?_
          refine w_as (st' := [.int (zI (((Tj ((j : Nat) : Int) + 1).toNat : Nat) : Int)), .int (zI ((j : Nat) : Int)), .int (zI ((k : Nat) : Int)), .ref (B + 141), .long (zJ (Oj ((j : Nat) : Int)))]) (sc_i (by rw [uZ_same]; omega) (sc_i (by first | omega | with_reducible rfl) rfl)) ?_
          refine w_calll (As := [.int (zI ((k : Nat) : Int)), .int (zI ((j : Nat) : Int)), .int (zI (((Tj ((j : Nat) : Int) + 1).toNat : Nat) : Int))]) (rest := [.long (zJ (Oj ((j : Nat) : Int)))]) (n := 3) (c_X11_setsOf (k := k) hm_78 hnow_79 hse_80 (by first | omega | with_reducible rfl) (by first | omega | with_reducible rfl) (by first | omega | with_reducible rfl) (by first | omega | with_reducible rfl) (by first | omega | with_reducible rfl) (by first | omega | with_reducible rfl)) gX11_walks_X11_setsOf rfl rfl rfl (by decide +kernel) ⟨Nat.le_of_ble_eq_true rfl, Nat.le_of_ble_eq_true rfl⟩ rfl (by first | omega | with_reducible rfl) hm_78 rfl (Nat.le_of_ble_eq_true rfl) ⟨Nat.zero_le _, Nat.zero_le _⟩ dX11_walks_141 rfl (fun g_91 hp_92 => ?_)
          subst g_91
          refine w_as (st' := [.long (zJ ((ch (coT c ((j : Nat) : Int)).toNat (Tj ((j : Nat) : Int) + 1).toNat : Nat) : Int)), .long (zJ (Oj ((j : Nat) : Int)))]) (sc_l (by rw [Int.toNat_natCast]) rfl) ?_
          refine w_lmul dX11_walks_144 ?_
          have hwk := hlv.2.2
          rw [clL_c hjc] at hwk
          have hww : wok ((Oj ((j : Nat) : Int)) * ((ch (coT c ((j : Nat) : Int)).toNat (Tj ((j : Nat) : Int) + 1).toNat : Nat) : Int)) (clL (coT c) (coV c) (j + 1) (c.length - (j + 1))) := wok_c hwk (Tj ((j : Nat) : Int) + 1).toNat
          have hwl := wok_lg hww (coR c - ((Sj ((j : Nat) : Int)).toNat + (Tj ((j : Nat) : Int) + 1).toNat))
          have hws := wok_sh hww (r := coR c - ((Sj ((j : Nat) : Int)).toNat + (Tj ((j : Nat) : Int) + 1).toNat)) (by omega)
          have hL2 : (MB c 2 (j + 1) ((Sj ((j : Nat) : Int)).toNat + (Tj ((j : Nat) : Int) + 1).toNat)) = lg (clL (coT c) (coV c) (j + 1) (c.length - (j + 1))) (coR c - ((Sj ((j : Nat) : Int)).toNat + (Tj ((j : Nat) : Int) + 1).toNat)) := MB_in hthn
          have hS2 : (MB c 3 (j + 1) ((Sj ((j : Nat) : Int)).toNat + (Tj ((j : Nat) : Int) + 1).toNat)) = sh (clL (coT c) (coV c) (j + 1) (c.length - (j + 1))) (coR c - ((Sj ((j : Nat) : Int)).toNat + (Tj ((j : Nat) : Int) + 1).toNat)) := MB_in hthn
          rw [← hL2] at hwl
          rw [← hS2] at hws
          refine w_lstore [(8, .long (zJ ((Oj ((j : Nat) : Int)) * ((ch (coT c ((j : Nat) : Int)).toNat (Tj ((j : Nat) : Int) + 1).toNat : Nat) : Int)))), (5, .int (zI (nn9 + 1))), (7, .int (zI ((Sj ((j : Nat) : Int)) + (Tj ((j : Nat) : Int) + 1)))), (0, .ref (B + 141)), (1, .int (zI ((k : Nat) : Int))), (2, .int (zI 0)), (3, .long (zJ (coP c))), (6, .int (zI (((j1 : Nat) : Int) - 1)))] dX11_walks_145 (by decide) rfl ?_
          refine w_bipush dX11_walks_147 (by decide) ?_
          refine w_iload dX11_walks_149 7 rfl ?_
          refine w_iconst dX11_walks_151 ?_
          refine w_iadd dX11_walks_152 ?_
          refine w_imul dX11_walks_153 ?_
          refine w_iload dX11_walks_154 2 rfl ?_
          refine w_iadd dX11_walks_156 ?_
          refine w_as (st' := [.int (zI (61 * (((j + 1) : Nat) : Int) + (((Sj ((j : Nat) : Int)).toNat + (Tj ((j : Nat) : Int) + 1).toNat : Nat) : Int)))]) (sc_i (by omega) rfl) ?_
          refine w_istore [(10, .int (zI (61 * (((j + 1) : Nat) : Int) + (((Sj ((j : Nat) : Int)).toNat + (Tj ((j : Nat) : Int) + 1).toNat : Nat) : Int)))), (8, .long (zJ ((Oj ((j : Nat) : Int)) * ((ch (coT c ((j : Nat) : Int)).toNat (Tj ((j : Nat) : Int) + 1).toNat : Nat) : Int)))), (5, .int (zI (nn9 + 1))), (7, .int (zI ((Sj ((j : Nat) : Int)) + (Tj ((j : Nat) : Int) + 1)))), (0, .ref (B + 141)), (1, .int (zI ((k : Nat) : Int))), (2, .int (zI 0)), (3, .long (zJ (coP c))), (6, .int (zI (((j1 : Nat) : Int) - 1)))] dX11_walks_157 (by decide) rfl ?_
          refine w_iload dX11_walks_159 8 rfl ?_
          refine w_iconst dX11_walks_161 ?_
          refine w_iadd dX11_walks_162 ?_
          refine w_aload_n dX11_walks_163 rfl 4 rfl ?_
          refine w_iload_n dX11_walks_164 rfl 5 rfl ?_
          refine w_calli (As := [.int (zI ((k : Nat) : Int))]) (rest := [.int (zI ((((j1 : Nat) : Int) - 1) + 1))]) (n := 1) (c_X11_columns (k := k) hm_78 hnow_79 (by first | omega | with_reducible rfl) (by first | omega | with_reducible rfl)) gX11_walks_X11_columns rfl rfl rfl (by decide +kernel) ⟨Nat.le_of_ble_eq_true rfl, Nat.le_of_ble_eq_true rfl⟩ rfl (by first | omega | with_reducible rfl) hm_78 rfl (Nat.le_of_ble_eq_true rfl) ⟨Nat.zero_le _, Nat.zero_le _⟩ dX11_walks_165 rfl (fun g_93 hp_94 => ?_)
          subst g_93
          refine w_as (st' := [.int (zI ((c.length : Nat) : Int)), .int (zI (((j + 1) : Nat) : Int))]) (lc_s (sc_i (by omega) rfl)) ?_
          refine w_icmp_eq 205 dX11_walks_168 (by decide) (by first | omega | with_reducible rfl) (by first | omega | with_reducible rfl) (fun c_168 => ?_) (fun c_168 => ?_)
          · have hst9 : fwk false c j (Sj ((j : Nat) : Int)).toNat (Oj ((j : Nat) : Int)) (Tj ((j : Nat) : Int) + 1).toNat = 1 := fwk_end (by omega) (by omega)
            refine w_iconst dX11_walks_205 ?_
            refine w_goto 210 dX11_walks_206 (by decide) ?_
            refine w_istore [(11, .int (zI 1)), (10, .int (zI (61 * (((j + 1) : Nat) : Int) + (((Sj ((j : Nat) : Int)).toNat + (Tj ((j : Nat) : Int) + 1).toNat : Nat) : Int)))), (8, .long (zJ ((Oj ((j : Nat) : Int)) * ((ch (coT c ((j : Nat) : Int)).toNat (Tj ((j : Nat) : Int) + 1).toNat : Nat) : Int)))), (5, .int (zI (nn9 + 1))), (7, .int (zI ((Sj ((j : Nat) : Int)) + (Tj ((j : Nat) : Int) + 1)))), (0, .ref (B + 141)), (1, .int (zI ((k : Nat) : Int))), (2, .int (zI 0)), (3, .long (zJ (coP c))), (6, .int (zI (((j1 : Nat) : Int) - 1)))] dX11_walks_210 (by decide) rfl ?_
            refine w_iload dX11_walks_212 0 rfl ?_
            refine w_if_ne 246 dX11_walks_214 (by decide) (by first | omega | with_reducible rfl) (fun c_214 => ?_) (fun c_214 => ?_)
            · skip
              refine w_goto 38 dX11_walks_246 (by decide) ?_
              refine w_sub [(0, .ref (B + 141)), (1, .int (zI ((k : Nat) : Int))), (2, .int (zI 0)), (3, .long (zJ (coP c))), (5, .int (zI (nn9 + 1))), (6, .int (zI (((j1 : Nat) : Int) - 1)))] [5, 6, 7, 8, 3, 9] rfl ?_
              refine w_lv (lv' := [(0, .ref (B + 141)), (1, .int (zI ((k : Nat) : Int))), (2, .int (zI 0)), (3, .long (zJ (coP c))), (5, .int (zI (nn9 + 1))), (6, .int (zI ((((j + 1) : Nat) : Int) - 1)))]) (lc_s (lc_s (lc_s (lc_s (lc_i (by first | omega | with_reducible rfl) (lc_i (by first | omega | with_reducible rfl) rfl)))))) ?_
              exact ih_38 (j + 1) (nn9 + 1) (uZ Tj ((j : Nat) : Int) ((Tj ((j : Nat) : Int)) + 1)) Sj Oj g_75 ⟨hm_78, hnow_79, hse_80, hbe_81, hlo_82, hsh_83, hro_84, htr_85, hsu_86, hso_87, hfr_88, (by omega), (fun i hi => lvS_same hlj hjj i hi (by omega)), (by rw [← hT, hjj, rmS_top (t := (Tj ((j : Nat) : Int))) rfl hlv.1.1 (by omega), hst9]; omega)⟩ (by have := muS_top (c := c) (Tr := Tj) (j := j) (t := (Tj ((j : Nat) : Int))) (by omega) rfl hlv.1.1 (by omega); have := (pow15 (show j ≤ 4 by omega)).1; rw [hjj]; omega)
            · exfalso; omega
          · refine w_iload_n dX11_walks_171 rfl 6 rfl ?_
            refine w_if_eq 209 dX11_walks_172 (by decide) (by first | omega | with_reducible rfl) (fun c_172 => ?_) (fun c_172 => ?_)
            · have hgo9 := fwk_go (b := false) (c := c) (j := j) (a := (Sj ((j : Nat) : Int)).toNat) (x := (Tj ((j : Nat) : Int) + 1).toNat) (w := Oj ((j : Nat) : Int)) (by omega) rfl hL2 hS2 (Or.inl rfl)
              refine w_iconst dX11_walks_209 ?_
              refine w_istore [(11, .int (zI 0)), (10, .int (zI (61 * (((j + 1) : Nat) : Int) + (((Sj ((j : Nat) : Int)).toNat + (Tj ((j : Nat) : Int) + 1).toNat : Nat) : Int)))), (8, .long (zJ ((Oj ((j : Nat) : Int)) * ((ch (coT c ((j : Nat) : Int)).toNat (Tj ((j : Nat) : Int) + 1).toNat : Nat) : Int)))), (5, .int (zI (nn9 + 1))), (7, .int (zI ((Sj ((j : Nat) : Int)) + (Tj ((j : Nat) : Int) + 1)))), (0, .ref (B + 141)), (1, .int (zI ((k : Nat) : Int))), (2, .int (zI 0)), (3, .long (zJ (coP c))), (6, .int (zI (((j1 : Nat) : Int) - 1)))] dX11_walks_210 (by decide) rfl ?_
              refine w_iload dX11_walks_212 0 rfl ?_
              refine w_if_ne 246 dX11_walks_214 (by decide) (by first | omega | with_reducible rfl) (fun c_214 => ?_) (fun c_214 => ?_)
              · exfalso; omega
              · have hth9 : (Sj ((j : Nat) : Int)).toNat + (Tj ((j : Nat) : Int) + 1).toNat ≤ coR c ∧ coR c - ((Sj ((j : Nat) : Int)).toNat + (Tj ((j : Nat) : Int) + 1).toNat) ≤ tsum (clL (coT c) (coV c) (j + 1) (c.length - (j + 1))) := hthn
                have hcj1 := hc.2 ((((j + 1) : Nat)) : Int) (by omega) (by omega)
                have hTT : Tj ((j : Nat) : Int) + 1 ≤ coT c ((j : Nat) : Int) ∧ -1 ≤ coT c ((((j + 1) : Nat)) : Int) := ⟨by omega, by omega⟩
                have hvl : 0 ≤ Sj ((j : Nat) : Int) + (Tj ((j : Nat) : Int) + 1) ∧ (Sj ((j : Nat) : Int) + (Tj ((j : Nat) : Int) + 1)).toNat ≤ coR c ∧ coR c - (Sj ((j : Nat) : Int) + (Tj ((j : Nat) : Int) + 1)).toNat ≤ tsum (clL (coT c) (coV c) (j + 1) (c.length - (j + 1))) := ⟨by omega, by omega, by omega⟩
                have hsu9 : ∀ G : Int → Int, uZ G ((((j + 1) : Nat)) : Int) (Sj ((j : Nat) : Int) + (Tj ((j : Nat) : Int) + 1)) ((((j + 1) : Nat)) : Int) = (((Sj ((j : Nat) : Int)).toNat + (Tj ((j : Nat) : Int) + 1).toNat : Nat) : Int) := fun G => by rw [uZ_same]; omega
                refine w_iinc 9 [(6, .int (zI ((((j1 : Nat) : Int) - 1) + 1))), (11, .int (zI 0)), (10, .int (zI (61 * (((j + 1) : Nat) : Int) + (((Sj ((j : Nat) : Int)).toNat + (Tj ((j : Nat) : Int) + 1).toNat : Nat) : Int)))), (8, .long (zJ ((Oj ((j : Nat) : Int)) * ((ch (coT c ((j : Nat) : Int)).toNat (Tj ((j : Nat) : Int) + 1).toNat : Nat) : Int)))), (5, .int (zI (nn9 + 1))), (7, .int (zI ((Sj ((j : Nat) : Int)) + (Tj ((j : Nat) : Int) + 1)))), (0, .ref (B + 141)), (1, .int (zI ((k : Nat) : Int))), (2, .int (zI 0)), (3, .long (zJ (coP c)))] dX11_walks_217 rfl (by decide) rfl ?_
                refine w_aload_n dX11_walks_220 rfl 6 rfl ?_
                refine w_get (i := 31) (T := TX11) (NF := 32) 141 (by first | omega | with_reducible rfl) hm_78 rfl (fun _ h => (List.mem_cons_of_mem _ (List.mem_append_right _ h))) (by decide) (List.mem_of_getElem? (i := 1) rfl) rfl dX11_walks_221 ?_
                refine w_iload dX11_walks_224 0 rfl ?_
                refine w_as (st' := [.int (zI (((j + 1) : Nat) : Int)), .ref (B + 159)]) (sc_i (by first | omega | with_reducible rfl) rfl) ?_
                refine w_lload dX11_walks_226 3 rfl ?_
                refine w_last 159 (by first | omega | with_reducible rfl) hso_87 (by first | omega | with_reducible rfl) dX11_walks_228 (fun g_95 he_96 hn_97 => ?_)
                have hm_98 : vM cy B g_95 141 cg le sp va o0 tn aw mw fw ls gs sn sw kr := vM_fr hm_78 (fun q h1 h2 => hn_97 q (by omega))
                have hnow_99 : vIA cy B g_95 142 49 Nw := vIA_fr hnow_79 (fun q h1 h2 => hn_97 q (by omega))
                have hse_100 : vLA cy B g_95 146 169 Sv := vLA_fr hse_80 (fun q h1 h2 => hn_97 q (by omega))
                have hbe_101 : vLA cy B g_95 153 366 Be1_3 := vLA_fr hbe_81 (fun q h1 h2 => hn_97 q (by omega))
                have hlo_102 : vLA cy B g_95 154 366 Lo1_4 := vLA_fr hlo_82 (fun q h1 h2 => hn_97 q (by omega))
                have hsh_103 : vLA cy B g_95 155 366 Sh1_5 := vLA_fr hsh_83 (fun q h1 h2 => hn_97 q (by omega))
                have hro_104 : vIA cy B g_95 156 366 Ro1_6 := vIA_fr hro_84 (fun q h1 h2 => hn_97 q (by omega))
                have htr_105 : vIA cy B g_95 157 5 (uZ Tj ((j : Nat) : Int) ((Tj ((j : Nat) : Int)) + 1)) := vIA_fr htr_85 (fun q h1 h2 => hn_97 q (by omega))
                have hsu_106 : vIA cy B g_95 158 6 Sj := vIA_fr hsu_86 (fun q h1 h2 => hn_97 q (by omega))
                have hso_107 : vLA cy B g_95 159 6 (uZ Oj (((j + 1) : Nat) : Int) ((Oj ((j : Nat) : Int)) * ((ch (coT c ((j : Nat) : Int)).toNat (Tj ((j : Nat) : Int) + 1).toNat : Nat) : Int))) := he_96
                have hfr_108 : ∀ q, (q ≠ 153 ∧ q ≠ 154 ∧ q ≠ 155 ∧ q ≠ 156 ∧ q ≠ 157 ∧ q ≠ 158 ∧ q ≠ 159) → g_95 q = g q := fun q hq => (hn_97 q (by omega)).trans (hfr_88 q hq)
                refine w_aload_n dX11_walks_229 rfl 6 rfl ?_
                refine w_get (i := 30) (T := TX11) (NF := 32) 141 (by first | omega | with_reducible rfl) hm_98 rfl (fun _ h => (List.mem_cons_of_mem _ (List.mem_append_right _ h))) (by decide) (List.mem_of_getElem? (i := 2) rfl) rfl dX11_walks_230 ?_
                refine w_iload dX11_walks_233 0 rfl ?_
                refine w_as (st' := [.int (zI (((j + 1) : Nat) : Int)), .ref (B + 158)]) (sc_i (by first | omega | with_reducible rfl) rfl) ?_
                refine w_iload dX11_walks_235 5 rfl ?_
                refine w_iast 158 (by first | omega | with_reducible rfl) hsu_106 (by first | omega | with_reducible rfl) dX11_walks_237 (fun g_109 he_110 hn_111 => ?_)
                have hm_112 : vM cy B g_109 141 cg le sp va o0 tn aw mw fw ls gs sn sw kr := vM_fr hm_98 (fun q h1 h2 => hn_111 q (by omega))
                have hnow_113 : vIA cy B g_109 142 49 Nw := vIA_fr hnow_99 (fun q h1 h2 => hn_111 q (by omega))
                have hse_114 : vLA cy B g_109 146 169 Sv := vLA_fr hse_100 (fun q h1 h2 => hn_111 q (by omega))
                have hbe_115 : vLA cy B g_109 153 366 Be1_3 := vLA_fr hbe_101 (fun q h1 h2 => hn_111 q (by omega))
                have hlo_116 : vLA cy B g_109 154 366 Lo1_4 := vLA_fr hlo_102 (fun q h1 h2 => hn_111 q (by omega))
                have hsh_117 : vLA cy B g_109 155 366 Sh1_5 := vLA_fr hsh_103 (fun q h1 h2 => hn_111 q (by omega))
                have hro_118 : vIA cy B g_109 156 366 Ro1_6 := vIA_fr hro_104 (fun q h1 h2 => hn_111 q (by omega))
                have htr_119 : vIA cy B g_109 157 5 (uZ Tj ((j : Nat) : Int) ((Tj ((j : Nat) : Int)) + 1)) := vIA_fr htr_105 (fun q h1 h2 => hn_111 q (by omega))
                have hsu_120 : vIA cy B g_109 158 6 (uZ Sj (((j + 1) : Nat) : Int) ((Sj ((j : Nat) : Int)) + (Tj ((j : Nat) : Int) + 1))) := he_110
                have hso_121 : vLA cy B g_109 159 6 (uZ Oj (((j + 1) : Nat) : Int) ((Oj ((j : Nat) : Int)) * ((ch (coT c ((j : Nat) : Int)).toNat (Tj ((j : Nat) : Int) + 1).toNat : Nat) : Int))) := vLA_fr hso_107 (fun q h1 h2 => hn_111 q (by omega))
                have hfr_122 : ∀ q, (q ≠ 153 ∧ q ≠ 154 ∧ q ≠ 155 ∧ q ≠ 156 ∧ q ≠ 157 ∧ q ≠ 158 ∧ q ≠ 159) → g_109 q = g q := fun q hq => (hn_111 q (by omega)).trans (hfr_108 q hq)
                refine w_aload_n dX11_walks_238 rfl 6 rfl ?_
                refine w_get (i := 29) (T := TX11) (NF := 32) 141 (by first | omega | with_reducible rfl) hm_112 rfl (fun _ h => (List.mem_cons_of_mem _ (List.mem_append_right _ h))) (by decide) (List.mem_of_getElem? (i := 3) rfl) rfl dX11_walks_239 ?_
                refine w_iload dX11_walks_242 0 rfl ?_
                refine w_as (st' := [.int (zI (((j + 1) : Nat) : Int)), .ref (B + 157)]) (sc_i (by first | omega | with_reducible rfl) rfl) ?_
                refine w_iconst dX11_walks_244 ?_
                refine w_iast 157 (by first | omega | with_reducible rfl) htr_119 (by first | omega | with_reducible rfl) dX11_walks_245 (fun g_123 he_124 hn_125 => ?_)
                have hm_126 : vM cy B g_123 141 cg le sp va o0 tn aw mw fw ls gs sn sw kr := vM_fr hm_112 (fun q h1 h2 => hn_125 q (by omega))
                have hnow_127 : vIA cy B g_123 142 49 Nw := vIA_fr hnow_113 (fun q h1 h2 => hn_125 q (by omega))
                have hse_128 : vLA cy B g_123 146 169 Sv := vLA_fr hse_114 (fun q h1 h2 => hn_125 q (by omega))
                have hbe_129 : vLA cy B g_123 153 366 Be1_3 := vLA_fr hbe_115 (fun q h1 h2 => hn_125 q (by omega))
                have hlo_130 : vLA cy B g_123 154 366 Lo1_4 := vLA_fr hlo_116 (fun q h1 h2 => hn_125 q (by omega))
                have hsh_131 : vLA cy B g_123 155 366 Sh1_5 := vLA_fr hsh_117 (fun q h1 h2 => hn_125 q (by omega))
                have hro_132 : vIA cy B g_123 156 366 Ro1_6 := vIA_fr hro_118 (fun q h1 h2 => hn_125 q (by omega))
                have htr_133 : vIA cy B g_123 157 5 (uZ (uZ Tj ((j : Nat) : Int) ((Tj ((j : Nat) : Int)) + 1)) (((j + 1) : Nat) : Int) (-1)) := he_124
                have hsu_134 : vIA cy B g_123 158 6 (uZ Sj (((j + 1) : Nat) : Int) ((Sj ((j : Nat) : Int)) + (Tj ((j : Nat) : Int) + 1))) := vIA_fr hsu_120 (fun q h1 h2 => hn_125 q (by omega))
                have hso_135 : vLA cy B g_123 159 6 (uZ Oj (((j + 1) : Nat) : Int) ((Oj ((j : Nat) : Int)) * ((ch (coT c ((j : Nat) : Int)).toNat (Tj ((j : Nat) : Int) + 1).toNat : Nat) : Int))) := vLA_fr hso_121 (fun q h1 h2 => hn_125 q (by omega))
                have hfr_136 : ∀ q, (q ≠ 153 ∧ q ≠ 154 ∧ q ≠ 155 ∧ q ≠ 156 ∧ q ≠ 157 ∧ q ≠ 158 ∧ q ≠ 159) → g_123 q = g q := fun q hq => (hn_125 q (by omega)).trans (hfr_122 q hq)
                skip
                refine w_goto 38 dX11_walks_246 (by decide) ?_
                refine w_sub [(0, .ref (B + 141)), (1, .int (zI ((k : Nat) : Int))), (2, .int (zI 0)), (3, .long (zJ (coP c))), (5, .int (zI (nn9 + 1))), (6, .int (zI ((((j1 : Nat) : Int) - 1) + 1)))] [6, 7, 8, 9, 4, 0] rfl ?_
                refine w_lv (lv' := [(0, .ref (B + 141)), (1, .int (zI ((k : Nat) : Int))), (2, .int (zI 0)), (3, .long (zJ (coP c))), (5, .int (zI (nn9 + 1))), (6, .int (zI ((((j + 1 + 1) : Nat) : Int) - 1)))]) (lc_s (lc_s (lc_s (lc_s (lc_i (by first | omega | with_reducible rfl) (lc_i (by first | omega | with_reducible rfl) rfl)))))) ?_
                exact ih_38 (j + 1 + 1) (nn9 + 1) (uZ (uZ Tj ((j : Nat) : Int) ((Tj ((j : Nat) : Int)) + 1)) (((j + 1) : Nat) : Int) (-1)) (uZ Sj (((j + 1) : Nat) : Int) ((Sj ((j : Nat) : Int)) + (Tj ((j : Nat) : Int) + 1))) (uZ Oj (((j + 1) : Nat) : Int) ((Oj ((j : Nat) : Int)) * ((ch (coT c ((j : Nat) : Int)).toNat (Tj ((j : Nat) : Int) + 1).toNat : Nat) : Int))) g_123 ⟨hm_126, hnow_127, hse_128, hbe_129, hlo_130, hsh_131, hro_132, htr_133, hsu_134, hso_135, hfr_136, (by omega), (fun i hi => lvS_new hlj hjj i hi hTT hvl hww), (by rw [← hT, hjj, rmS_top (t := (Tj ((j : Nat) : Int))) rfl hlv.1.1 (by omega), hgo9, rmS_new hc (Tr := (uZ Tj ((j : Nat) : Int) (Tj ((j : Nat) : Int) + 1))) (Su := Sj) (So := Oj) (j := j + 1) (by omega) hth9 (fun i hi => ⟨uZ_ne (by omega), uZ_ne (by omega), uZ_ne (by omega)⟩) (uZ_same _ _ _) (hsu9 _) (uZ_same _ _ _)]; omega)⟩ (by rw [hjj]; exact muS_new hc (by omega) rfl hlv.1.1 (by omega) (fun i hi => uZ_ne (by omega)) (uZ_same _ _ _))
            · exfalso; omega
    · have hTe : Tj ((j : Nat) : Int) = coT c ((j : Nat) : Int) := by omega
      refine w_iinc 6 [(6, .int (zI ((((j1 : Nat) : Int) - 1) + (-1)))), (7, .int (zI ((Sj ((j : Nat) : Int)) + (Tj ((j : Nat) : Int) + 1)))), (0, .ref (B + 141)), (1, .int (zI ((k : Nat) : Int))), (2, .int (zI 0)), (3, .long (zJ (coP c))), (5, .int (zI nn9))] dX11_walks_89 rfl (by decide) rfl ?_
      refine w_goto 246 dX11_walks_92 (by decide) ?_
      skip
      refine w_goto 38 dX11_walks_246 (by decide) ?_
      refine w_sub [(0, .ref (B + 141)), (1, .int (zI ((k : Nat) : Int))), (2, .int (zI 0)), (3, .long (zJ (coP c))), (5, .int (zI nn9)), (6, .int (zI ((((j1 : Nat) : Int) - 1) + (-1))))] [2, 3, 4, 5, 6, 0] rfl ?_
      refine w_lv (lv' := [(0, .ref (B + 141)), (1, .int (zI ((k : Nat) : Int))), (2, .int (zI 0)), (3, .long (zJ (coP c))), (5, .int (zI nn9)), (6, .int (zI (((j : Nat) : Int) - 1)))]) (lc_s (lc_s (lc_s (lc_s (lc_i (by first | omega | with_reducible rfl) (lc_i (by first | omega | with_reducible rfl) rfl)))))) ?_
      exact ih_38 j nn9 (uZ Tj ((j : Nat) : Int) ((Tj ((j : Nat) : Int)) + 1)) Sj Oj g_75 ⟨hm_78, hnow_79, hse_80, hbe_81, hlo_82, hsh_83, hro_84, htr_85, hsu_86, hso_87, hfr_88, (by omega), (fun i hi => lvS_low hlj hjj i hi), (by rw [← hT, hjj, rmS_pop hTe (Tr' := (uZ Tj ((j : Nat) : Int) (Tj ((j : Nat) : Int) + 1))) (fun i hi => uZ_ne (by omega))])⟩ (by rw [hjj]; exact muS_pop (by omega) hTe (fun i hi => uZ_ne (by omega)))

