/-! ===== the constructor of MarginTables ===== -/
set_option maxHeartbeats 8000000 in
set_option maxRecDepth 100000 in
theorem c_X10_init {l : Launch} {D : va_G} {cy : Nat → ClassId} {B : Nat} {g : Nat → va_E}  {sa va : Nat} (h0 : nO10 cy B g 0 (.null) (.null) (.null) (.null) (.null) (.int (zI 0))) : CTc4 l yX10_init wsX10_init (rmc 6 140 140 16408) D cy B (0 + 1) g sa va [.ref (B + 0)] 140 16408 (fun g' => (∃ L : Int → Int, CW cy B g' 0 L firstS [] 7) ∧ ∀ q, q < 0 → g' q = g q) := by
  refine WW_of4 (cc := cX10_init) (maxL := 3) (ret := none) (own := RX10) (by decide) rfl rfl (Nat.le_of_ble_eq_true rfl) rfl ?_
  intro pp ee ss mm bl me co hmn hao hsf
  have hfr_0 : ∀ q, q < 0 → g q = g q := fun _ _ => rfl
  refine w_aload_n dX10_init_0 rfl 0 rfl ?_
  refine w_objInit (List.mem_of_getElem? (i := 1) rfl) (List.mem_of_getElem? (i := 2) rfl) (List.mem_of_getElem? (i := 3) rfl) dX10_init_1 (Nat.le_of_ble_eq_true rfl) (Nat.le_of_ble_eq_true rfl) (by decide) ?_
  refine w_new (ci := 6) (T := TX6) (NF := 1) (fs := [.null]) rfl (fun _ h => (List.mem_cons_of_mem _ (List.mem_append_left _ (List.mem_append_left _ (List.mem_append_left _ (List.mem_append_left _ (List.mem_append_left _ (List.mem_append_left _ (List.mem_append_left _ (List.mem_append_left _ (List.mem_append_left _ (List.mem_append_left _ (List.mem_append_right _ h))))))))))))) tyX6 tyX6_ok (List.mem_of_getElem? (i := 4) rfl) (List.mem_of_getElem? (i := 5) rfl) (List.mem_of_getElem? (i := 6) rfl) (fun j hj => match j, hj with | 0, _ => rfl | (_ + 1), h => absurd h (by omega)) (Nat.le_of_ble_eq_true rfl) (Nat.le_of_ble_eq_true rfl) dX10_init_4 (fun g_1 he_2 hn_3 => ?_)
  have h0_4 : nO10 cy B g_1 0 (.null) (.null) (.null) (.null) (.null) (.int (zI 0)) := nO10_fr h0 (fun q h1 h2 => hn_3 q (by omega))
  have hfr_5 : ∀ q, q < 0 → g_1 q = g q := fun q hq => (hn_3 q (by omega)).trans (hfr_0 q hq)
  have a1_6 : nO6 cy B g_1 1 (.null) := he_2
  refine w_dup dX10_init_7 rfl ?_
  refine w_ctor2 (As := []) (rest := [.ref (B + 1)]) (n := 0) (k := 1) hao (c_X6_init (b := 1) a1_6) gX10_init_X6_init rfl rfl rfl (List.mem_of_getElem? (i := 6) rfl) (List.mem_of_getElem? (i := 28) rfl) (List.mem_of_getElem? (i := 29) rfl) rfl (by decide +kernel) ⟨(Nat.le_of_ble_eq_true rfl), (Nat.le_of_ble_eq_true rfl)⟩ rfl (Nat.le_of_ble_eq_true rfl) ⟨(Nat.le_of_ble_eq_true rfl), (Nat.le_of_ble_eq_true rfl)⟩ dX10_init_8 rfl (fun g_7 hp_8 => ?_)
  obtain ⟨pX6_10, hf_9⟩ := hp_8
  have h0_11 : nO10 cy B g_7 0 (.null) (.null) (.null) (.null) (.null) (.int (zI 0)) := nO10_fr h0_4 (fun q h1 h2 => hf_9 q (by omega))
  have hfr_12 : ∀ q, q < 0 → g_7 q = g q := fun q hq => (hf_9 q (by omega)).trans (hfr_5 q hq)
  obtain ⟨Cn_14, nsets_13, hSI_15⟩ := pX6_10
  refine w_astore_n [(1, .ref (B + 1)), (0, .ref (B + 0))] dX10_init_11 rfl (by decide) rfl ?_
  refine w_aload_n dX10_init_12 rfl 1 rfl ?_
  refine w_new (ci := 9) (T := TX9) (NF := 2) (fs := [.null, (.int (zI 0))]) rfl (fun _ h => (List.mem_cons_of_mem _ (List.mem_append_left _ (List.mem_append_left _ (List.mem_append_left _ (List.mem_append_left _ (List.mem_append_left _ (List.mem_append_left _ (List.mem_append_left _ (List.mem_append_left _ (List.mem_append_left _ (List.mem_append_right _ h)))))))))))) tyX9 tyX9_ok (List.mem_of_getElem? (i := 7) rfl) (List.mem_of_getElem? (i := 8) rfl) (List.mem_of_getElem? (i := 9) rfl) (fun j hj => match j, hj with | 0, _ => rfl | 1, _ => rfl | (_ + 2), h => absurd h (by omega)) (Nat.le_of_ble_eq_true rfl) (Nat.le_of_ble_eq_true rfl) dX10_init_13 (fun g_16 he_17 hn_18 => ?_)
  have h0_19 : nO10 cy B g_16 0 (.null) (.null) (.null) (.null) (.null) (.int (zI 0)) := nO10_fr h0_11 (fun q h1 h2 => hn_18 q (by omega))
  have nsets_20 : vSets cy B g_16 1 Cn_14 := vSets_fr nsets_13 (fun q h1 h2 => hn_18 q (by omega))
  have hfr_21 : ∀ q, q < 0 → g_16 q = g q := fun q hq => (hn_18 q (by omega)).trans (hfr_12 q hq)
  have a16_22 : nO9 cy B g_16 16 (.null) (.int (zI 0)) := he_17
  refine w_dup dX10_init_16 rfl ?_
  refine w_ctor2 (As := []) (rest := [.ref (B + 16), .ref (B + 0)]) (n := 0) (k := 16) hao (c_X9_init (b := 16) a16_22) gX10_init_X9_init rfl rfl rfl (List.mem_of_getElem? (i := 9) rfl) (List.mem_of_getElem? (i := 35) rfl) (List.mem_of_getElem? (i := 36) rfl) rfl (by decide +kernel) ⟨(Nat.le_of_ble_eq_true rfl), (Nat.le_of_ble_eq_true rfl)⟩ rfl (Nat.le_of_ble_eq_true rfl) ⟨(Nat.le_of_ble_eq_true rfl), (Nat.le_of_ble_eq_true rfl)⟩ dX10_init_17 rfl (fun g_23 hp_24 => ?_)
  obtain ⟨pX9_26, hf_25⟩ := hp_24
  have h0_27 : nO10 cy B g_23 0 (.null) (.null) (.null) (.null) (.null) (.int (zI 0)) := nO10_fr h0_19 (fun q h1 h2 => hf_25 q (by omega))
  have nsets_28 : vSets cy B g_23 1 Cn_14 := vSets_fr nsets_20 (fun q h1 h2 => hf_25 q (by omega))
  have hfr_29 : ∀ q, q < 0 → g_23 q = g q := fun q hq => (hf_25 q (by omega)).trans (hfr_21 q hq)
  have ntext_30 := pX9_26
  refine w_putF (i := 0) (T := TX10) (NF := 6) 0 (by first | omega | with_reducible rfl) h0_27 rfl (fun _ h => (List.mem_cons_of_mem _ (List.mem_append_left _ (List.mem_append_left _ (List.mem_append_left _ (List.mem_append_left _ (List.mem_append_left _ (List.mem_append_left _ (List.mem_append_left _ (List.mem_append_left _ (List.mem_append_right _ h))))))))))) tyX10 tyX10_ok nmX10 (by decide) (List.mem_of_getElem? (i := 10) rfl) rfl hmn rfl rfl rfl (Nat.le_of_ble_eq_true rfl) dX10_init_20 (fun g_31 he_32 hn_33 => ?_)
  have h0_34 : nO10 cy B g_31 0 (.ref (B + 16)) (.null) (.null) (.null) (.null) (.int (zI 0)) := he_32
  have nsets_35 : vSets cy B g_31 1 Cn_14 := vSets_fr nsets_28 (fun q h1 h2 => hn_33 q (by omega))
  have ntext_36 : vText cy B g_31 16 0 (fun _ => 0) := vText_fr ntext_30 (fun q h1 h2 => hn_33 q (by omega))
  have hfr_37 : ∀ q, q < 0 → g_31 q = g q := fun q hq => (hn_33 q (by omega)).trans (hfr_29 q hq)
  refine w_aload_n dX10_init_23 rfl 1 rfl ?_
  refine w_new (ci := 5) (T := TX5) (NF := 3) (fs := [.null, (.int (zI 0)), (.int (zI 0))]) rfl (fun _ h => (List.mem_cons_of_mem _ (List.mem_append_left _ (List.mem_append_left _ (List.mem_append_left _ (List.mem_append_left _ (List.mem_append_left _ (List.mem_append_left _ (List.mem_append_left _ (List.mem_append_right _ h)))))))))) tyX5 tyX5_ok (List.mem_of_getElem? (i := 11) rfl) (List.mem_of_getElem? (i := 12) rfl) (List.mem_of_getElem? (i := 13) rfl) (fun j hj => match j, hj with | 0, _ => rfl | 1, _ => rfl | 2, _ => rfl | (_ + 3), h => absurd h (by omega)) (Nat.le_of_ble_eq_true rfl) (Nat.le_of_ble_eq_true rfl) dX10_init_24 (fun g_38 he_39 hn_40 => ?_)
  have h0_41 : nO10 cy B g_38 0 (.ref (B + 16)) (.null) (.null) (.null) (.null) (.int (zI 0)) := nO10_fr h0_34 (fun q h1 h2 => hn_40 q (by omega))
  have nsets_42 : vSets cy B g_38 1 Cn_14 := vSets_fr nsets_35 (fun q h1 h2 => hn_40 q (by omega))
  have ntext_43 : vText cy B g_38 16 0 (fun _ => 0) := vText_fr ntext_36 (fun q h1 h2 => hn_40 q (by omega))
  have hfr_44 : ∀ q, q < 0 → g_38 q = g q := fun q hq => (hn_40 q (by omega)).trans (hfr_37 q hq)
  have a18_45 : nO5 cy B g_38 18 (.null) (.int (zI 0)) (.int (zI 0)) := he_39
  refine w_dup dX10_init_27 rfl ?_
  refine w_aload_n dX10_init_28 rfl 0 rfl ?_
  refine w_ctor2 (As := [.ref (B + 1)]) (rest := [.ref (B + 18), .ref (B + 0)]) (n := 1) (k := 18) hao (c_X5_init (b := 18) (sets := 1) a18_45) gX10_init_X5_init rfl rfl rfl (List.mem_of_getElem? (i := 13) rfl) (List.mem_of_getElem? (i := 42) rfl) (List.mem_of_getElem? (i := 43) rfl) rfl (by decide +kernel) ⟨(Nat.le_of_ble_eq_true rfl), (Nat.le_of_ble_eq_true rfl)⟩ rfl (Nat.le_of_ble_eq_true rfl) ⟨(Nat.le_of_ble_eq_true rfl), (Nat.le_of_ble_eq_true rfl)⟩ dX10_init_29 rfl (fun g_46 hp_47 => ?_)
  obtain ⟨pX5_49, hf_48⟩ := hp_47
  have h0_50 : nO10 cy B g_46 0 (.ref (B + 16)) (.null) (.null) (.null) (.null) (.int (zI 0)) := nO10_fr h0_41 (fun q h1 h2 => hf_48 q (by omega))
  have nsets_51 : vSets cy B g_46 1 Cn_14 := vSets_fr nsets_42 (fun q h1 h2 => hf_48 q (by omega))
  have ntext_52 : vText cy B g_46 16 0 (fun _ => 0) := vText_fr ntext_43 (fun q h1 h2 => hf_48 q (by omega))
  have hfr_53 : ∀ q, q < 0 → g_46 q = g q := fun q hq => (hf_48 q (by omega)).trans (hfr_44 q hq)
  have nreaderd_54 := pX5_49
  refine w_putF (i := 1) (T := TX10) (NF := 6) 0 (by first | omega | with_reducible rfl) h0_50 rfl (fun _ h => (List.mem_cons_of_mem _ (List.mem_append_left _ (List.mem_append_left _ (List.mem_append_left _ (List.mem_append_left _ (List.mem_append_left _ (List.mem_append_left _ (List.mem_append_left _ (List.mem_append_left _ (List.mem_append_right _ h))))))))))) tyX10 tyX10_ok nmX10 (by decide) (List.mem_of_getElem? (i := 14) rfl) rfl hmn rfl rfl rfl (Nat.le_of_ble_eq_true rfl) dX10_init_32 (fun g_55 he_56 hn_57 => ?_)
  have h0_58 : nO10 cy B g_55 0 (.ref (B + 16)) (.ref (B + 18)) (.null) (.null) (.null) (.int (zI 0)) := he_56
  have nsets_59 : vSets cy B g_55 1 Cn_14 := vSets_fr nsets_51 (fun q h1 h2 => hn_57 q (by omega))
  have ntext_60 : vText cy B g_55 16 0 (fun _ => 0) := vText_fr ntext_52 (fun q h1 h2 => hn_57 q (by omega))
  have nreaderd_61 : vReaderD cy B g_55 18 1 := vReaderD_fr nreaderd_54 (fun q h1 h2 => hn_57 q (by omega))
  have hfr_62 : ∀ q, q < 0 → g_55 q = g q := fun q hq => (hn_57 q (by omega)).trans (hfr_53 q hq)
  refine w_aload_n dX10_init_35 rfl 1 rfl ?_
  refine w_new (ci := 3) (T := TX3) (NF := 4) (fs := [.null, .null, (.int (zI 0)), (.int (zI 0))]) rfl (fun _ h => (List.mem_cons_of_mem _ (List.mem_append_left _ (List.mem_append_left _ (List.mem_append_left _ (List.mem_append_left _ (List.mem_append_left _ (List.mem_append_left _ (List.mem_append_right _ h))))))))) tyX3 tyX3_ok (List.mem_of_getElem? (i := 15) rfl) (List.mem_of_getElem? (i := 16) rfl) (List.mem_of_getElem? (i := 17) rfl) (fun j hj => match j, hj with | 0, _ => rfl | 1, _ => rfl | 2, _ => rfl | 3, _ => rfl | (_ + 4), h => absurd h (by omega)) (Nat.le_of_ble_eq_true rfl) (Nat.le_of_ble_eq_true rfl) dX10_init_36 (fun g_63 he_64 hn_65 => ?_)
  have h0_66 : nO10 cy B g_63 0 (.ref (B + 16)) (.ref (B + 18)) (.null) (.null) (.null) (.int (zI 0)) := nO10_fr h0_58 (fun q h1 h2 => hn_65 q (by omega))
  have nsets_67 : vSets cy B g_63 1 Cn_14 := vSets_fr nsets_59 (fun q h1 h2 => hn_65 q (by omega))
  have ntext_68 : vText cy B g_63 16 0 (fun _ => 0) := vText_fr ntext_60 (fun q h1 h2 => hn_65 q (by omega))
  have nreaderd_69 : vReaderD cy B g_63 18 1 := vReaderD_fr nreaderd_61 (fun q h1 h2 => hn_65 q (by omega))
  have hfr_70 : ∀ q, q < 0 → g_63 q = g q := fun q hq => (hn_65 q (by omega)).trans (hfr_62 q hq)
  have a50_71 : nO3 cy B g_63 50 (.null) (.null) (.int (zI 0)) (.int (zI 0)) := he_64
  refine w_dup dX10_init_39 rfl ?_
  refine w_ctor2 (As := []) (rest := [.ref (B + 50), .ref (B + 0)]) (n := 0) (k := 50) hao (c_X3_init (b := 50) a50_71) gX10_init_X3_init rfl rfl rfl (List.mem_of_getElem? (i := 17) rfl) (List.mem_of_getElem? (i := 65) rfl) (List.mem_of_getElem? (i := 66) rfl) rfl (by decide +kernel) ⟨(Nat.le_of_ble_eq_true rfl), (Nat.le_of_ble_eq_true rfl)⟩ rfl (Nat.le_of_ble_eq_true rfl) ⟨(Nat.le_of_ble_eq_true rfl), (Nat.le_of_ble_eq_true rfl)⟩ dX10_init_40 rfl (fun g_72 hp_73 => ?_)
  obtain ⟨pX3_75, hf_74⟩ := hp_73
  have h0_76 : nO10 cy B g_72 0 (.ref (B + 16)) (.ref (B + 18)) (.null) (.null) (.null) (.int (zI 0)) := nO10_fr h0_66 (fun q h1 h2 => hf_74 q (by omega))
  have nsets_77 : vSets cy B g_72 1 Cn_14 := vSets_fr nsets_67 (fun q h1 h2 => hf_74 q (by omega))
  have ntext_78 : vText cy B g_72 16 0 (fun _ => 0) := vText_fr ntext_68 (fun q h1 h2 => hf_74 q (by omega))
  have nreaderd_79 : vReaderD cy B g_72 18 1 := vReaderD_fr nreaderd_69 (fun q h1 h2 => hf_74 q (by omega))
  have hfr_80 : ∀ q, q < 0 → g_72 q = g q := fun q hq => (hf_74 q (by omega)).trans (hfr_70 q hq)
  have npast_81 := pX3_75
  refine w_putF (i := 2) (T := TX10) (NF := 6) 0 (by first | omega | with_reducible rfl) h0_76 rfl (fun _ h => (List.mem_cons_of_mem _ (List.mem_append_left _ (List.mem_append_left _ (List.mem_append_left _ (List.mem_append_left _ (List.mem_append_left _ (List.mem_append_left _ (List.mem_append_left _ (List.mem_append_left _ (List.mem_append_right _ h))))))))))) tyX10 tyX10_ok nmX10 (by decide) (List.mem_of_getElem? (i := 18) rfl) rfl hmn rfl rfl rfl (Nat.le_of_ble_eq_true rfl) dX10_init_43 (fun g_82 he_83 hn_84 => ?_)
  have h0_85 : nO10 cy B g_82 0 (.ref (B + 16)) (.ref (B + 18)) (.ref (B + 50)) (.null) (.null) (.int (zI 0)) := he_83
  have nsets_86 : vSets cy B g_82 1 Cn_14 := vSets_fr nsets_77 (fun q h1 h2 => hn_84 q (by omega))
  have ntext_87 : vText cy B g_82 16 0 (fun _ => 0) := vText_fr ntext_78 (fun q h1 h2 => hn_84 q (by omega))
  have nreaderd_88 : vReaderD cy B g_82 18 1 := vReaderD_fr nreaderd_79 (fun q h1 h2 => hn_84 q (by omega))
  have npast_89 : vPast cy B g_82 50 (fun _ => 0) (fun _ _ => 0) 0 0 := vPast_fr npast_81 (fun q h1 h2 => hn_84 q (by omega))
  have hfr_90 : ∀ q, q < 0 → g_82 q = g q := fun q hq => (hn_84 q (by omega)).trans (hfr_80 q hq)
  refine w_aload_n dX10_init_46 rfl 1 rfl ?_
  refine w_new (ci := 1) (T := TX1) (NF := 3) (fs := [.null, .null, (.int (zI 0))]) rfl (fun _ h => (List.mem_cons_of_mem _ (List.mem_append_left _ (List.mem_append_left _ (List.mem_append_left _ (List.mem_append_left _ (List.mem_append_left _ (List.mem_append_right _ h)))))))) tyX1 tyX1_ok (List.mem_of_getElem? (i := 19) rfl) (List.mem_of_getElem? (i := 20) rfl) (List.mem_of_getElem? (i := 21) rfl) (fun j hj => match j, hj with | 0, _ => rfl | 1, _ => rfl | 2, _ => rfl | (_ + 3), h => absurd h (by omega)) (Nat.le_of_ble_eq_true rfl) (Nat.le_of_ble_eq_true rfl) dX10_init_47 (fun g_91 he_92 hn_93 => ?_)
  have h0_94 : nO10 cy B g_91 0 (.ref (B + 16)) (.ref (B + 18)) (.ref (B + 50)) (.null) (.null) (.int (zI 0)) := nO10_fr h0_85 (fun q h1 h2 => hn_93 q (by omega))
  have nsets_95 : vSets cy B g_91 1 Cn_14 := vSets_fr nsets_86 (fun q h1 h2 => hn_93 q (by omega))
  have ntext_96 : vText cy B g_91 16 0 (fun _ => 0) := vText_fr ntext_87 (fun q h1 h2 => hn_93 q (by omega))
  have nreaderd_97 : vReaderD cy B g_91 18 1 := vReaderD_fr nreaderd_88 (fun q h1 h2 => hn_93 q (by omega))
  have npast_98 : vPast cy B g_91 50 (fun _ => 0) (fun _ _ => 0) 0 0 := vPast_fr npast_89 (fun q h1 h2 => hn_93 q (by omega))
  have hfr_99 : ∀ q, q < 0 → g_91 q = g q := fun q hq => (hn_93 q (by omega)).trans (hfr_90 q hq)
  have a59_100 : nO1 cy B g_91 59 (.null) (.null) (.int (zI 0)) := he_92
  refine w_dup dX10_init_50 rfl ?_
  refine w_ctor2 (As := []) (rest := [.ref (B + 59), .ref (B + 0)]) (n := 0) (k := 59) hao (c_X1_init (b := 59) a59_100) gX10_init_X1_init rfl rfl rfl (List.mem_of_getElem? (i := 21) rfl) (List.mem_of_getElem? (i := 74) rfl) (List.mem_of_getElem? (i := 75) rfl) rfl (by decide +kernel) ⟨(Nat.le_of_ble_eq_true rfl), (Nat.le_of_ble_eq_true rfl)⟩ rfl (Nat.le_of_ble_eq_true rfl) ⟨(Nat.le_of_ble_eq_true rfl), (Nat.le_of_ble_eq_true rfl)⟩ dX10_init_51 rfl (fun g_101 hp_102 => ?_)
  obtain ⟨pX1_104, hf_103⟩ := hp_102
  have h0_105 : nO10 cy B g_101 0 (.ref (B + 16)) (.ref (B + 18)) (.ref (B + 50)) (.null) (.null) (.int (zI 0)) := nO10_fr h0_94 (fun q h1 h2 => hf_103 q (by omega))
  have nsets_106 : vSets cy B g_101 1 Cn_14 := vSets_fr nsets_95 (fun q h1 h2 => hf_103 q (by omega))
  have ntext_107 : vText cy B g_101 16 0 (fun _ => 0) := vText_fr ntext_96 (fun q h1 h2 => hf_103 q (by omega))
  have nreaderd_108 : vReaderD cy B g_101 18 1 := vReaderD_fr nreaderd_97 (fun q h1 h2 => hf_103 q (by omega))
  have npast_109 : vPast cy B g_101 50 (fun _ => 0) (fun _ _ => 0) 0 0 := vPast_fr npast_98 (fun q h1 h2 => hf_103 q (by omega))
  have hfr_110 : ∀ q, q < 0 → g_101 q = g q := fun q hq => (hf_103 q (by omega)).trans (hfr_99 q hq)
  have njoint_111 := pX1_104
  refine w_putF (i := 3) (T := TX10) (NF := 6) 0 (by first | omega | with_reducible rfl) h0_105 rfl (fun _ h => (List.mem_cons_of_mem _ (List.mem_append_left _ (List.mem_append_left _ (List.mem_append_left _ (List.mem_append_left _ (List.mem_append_left _ (List.mem_append_left _ (List.mem_append_left _ (List.mem_append_left _ (List.mem_append_right _ h))))))))))) tyX10 tyX10_ok nmX10 (by decide) (List.mem_of_getElem? (i := 22) rfl) rfl hmn rfl rfl rfl (Nat.le_of_ble_eq_true rfl) dX10_init_54 (fun g_112 he_113 hn_114 => ?_)
  have h0_115 : nO10 cy B g_112 0 (.ref (B + 16)) (.ref (B + 18)) (.ref (B + 50)) (.ref (B + 59)) (.null) (.int (zI 0)) := he_113
  have nsets_116 : vSets cy B g_112 1 Cn_14 := vSets_fr nsets_106 (fun q h1 h2 => hn_114 q (by omega))
  have ntext_117 : vText cy B g_112 16 0 (fun _ => 0) := vText_fr ntext_107 (fun q h1 h2 => hn_114 q (by omega))
  have nreaderd_118 : vReaderD cy B g_112 18 1 := vReaderD_fr nreaderd_108 (fun q h1 h2 => hn_114 q (by omega))
  have npast_119 : vPast cy B g_112 50 (fun _ => 0) (fun _ _ => 0) 0 0 := vPast_fr npast_109 (fun q h1 h2 => hn_114 q (by omega))
  have njoint_120 : vJoint cy B g_112 59 (fun _ => 0) (fun _ => 0) 0 := vJoint_fr njoint_111 (fun q h1 h2 => hn_114 q (by omega))
  have hfr_121 : ∀ q, q < 0 → g_112 q = g q := fun q hq => (hn_114 q (by omega)).trans (hfr_110 q hq)
  refine w_aload_n dX10_init_57 rfl 1 rfl ?_
  refine w_iconst dX10_init_58 ?_
  refine w_newq (Cn := RX7) (n := 3) 4 63 26 rfl hao.2.1 (by omega) (by omega) (List.mem_of_getElem? (i := 23) rfl) (Nat.le_of_ble_eq_true rfl) (Nat.le_of_ble_eq_true rfl) dX10_init_59 (fun g_122 he_123 hn_124 => ?_)
  have h0_125 : nO10 cy B g_122 0 (.ref (B + 16)) (.ref (B + 18)) (.ref (B + 50)) (.ref (B + 59)) (.null) (.int (zI 0)) := nO10_fr h0_115 (fun q h1 h2 => hn_124 q (by omega))
  have nsets_126 : vSets cy B g_122 1 Cn_14 := vSets_fr nsets_116 (fun q h1 h2 => hn_124 q (by omega))
  have ntext_127 : vText cy B g_122 16 0 (fun _ => 0) := vText_fr ntext_117 (fun q h1 h2 => hn_124 q (by omega))
  have nreaderd_128 : vReaderD cy B g_122 18 1 := vReaderD_fr nreaderd_118 (fun q h1 h2 => hn_124 q (by omega))
  have npast_129 : vPast cy B g_122 50 (fun _ => 0) (fun _ _ => 0) 0 0 := vPast_fr npast_119 (fun q h1 h2 => hn_124 q (by omega))
  have njoint_130 : vJoint cy B g_122 59 (fun _ => 0) (fun _ => 0) 0 := vJoint_fr njoint_120 (fun q h1 h2 => hn_124 q (by omega))
  have hfr_131 : ∀ q, q < 0 → g_122 q = g q := fun q hq => (hn_124 q (by omega)).trans (hfr_121 q hq)
  have a62_132 : vQ4 cy B g_122 62 3 0 63 26 := he_123
  refine w_putF (i := 4) (T := TX10) (NF := 6) 0 (by first | omega | with_reducible rfl) h0_125 rfl (fun _ h => (List.mem_cons_of_mem _ (List.mem_append_left _ (List.mem_append_left _ (List.mem_append_left _ (List.mem_append_left _ (List.mem_append_left _ (List.mem_append_left _ (List.mem_append_left _ (List.mem_append_left _ (List.mem_append_right _ h))))))))))) tyX10 tyX10_ok nmX10 (by decide) (List.mem_of_getElem? (i := 24) rfl) rfl hmn rfl rfl rfl (Nat.le_of_ble_eq_true rfl) dX10_init_62 (fun g_133 he_134 hn_135 => ?_)
  have h0_136 : nO10 cy B g_133 0 (.ref (B + 16)) (.ref (B + 18)) (.ref (B + 50)) (.ref (B + 59)) (.ref (B + 62)) (.int (zI 0)) := he_134
  have nsets_137 : vSets cy B g_133 1 Cn_14 := vSets_fr nsets_126 (fun q h1 h2 => hn_135 q (by omega))
  have ntext_138 : vText cy B g_133 16 0 (fun _ => 0) := vText_fr ntext_127 (fun q h1 h2 => hn_135 q (by omega))
  have nreaderd_139 : vReaderD cy B g_133 18 1 := vReaderD_fr nreaderd_128 (fun q h1 h2 => hn_135 q (by omega))
  have npast_140 : vPast cy B g_133 50 (fun _ => 0) (fun _ _ => 0) 0 0 := vPast_fr npast_129 (fun q h1 h2 => hn_135 q (by omega))
  have njoint_141 : vJoint cy B g_133 59 (fun _ => 0) (fun _ => 0) 0 := vJoint_fr njoint_130 (fun q h1 h2 => hn_135 q (by omega))
  have a62_142 : vQ4 cy B g_133 62 3 0 63 26 := vQ4_fr a62_132 (fun q h1 h2 => hn_135 q (by omega))
  have hfr_143 : ∀ q, q < 0 → g_133 q = g q := fun q hq => (hn_135 q (by omega)).trans (hfr_131 q hq)
  refine w_iconst dX10_init_65 ?_
  refine w_istore_n [(2, .int (zI 0)), (1, .ref (B + 1)), (0, .ref (B + 0))] dX10_init_66 rfl (by decide) rfl ?_
  refine w_iload_n dX10_init_67 rfl 0 rfl ?_
  refine w_aload_n dX10_init_68 rfl 2 rfl ?_
  refine w_get (i := 4) (T := TX10) (NF := 6) 0 (by first | omega | with_reducible rfl) h0_136 rfl (fun _ h => (List.mem_cons_of_mem _ (List.mem_append_left _ (List.mem_append_left _ (List.mem_append_left _ (List.mem_append_left _ (List.mem_append_left _ (List.mem_append_left _ (List.mem_append_left _ (List.mem_append_left _ (List.mem_append_right _ h))))))))))) (by decide) (List.mem_of_getElem? (i := 24) rfl) rfl dX10_init_69 ?_
  refine w_alen 62 4 (by first | omega | with_reducible rfl) a62_142 rfl dX10_init_72 ?_
  refine w_icmp_ge 96 dX10_init_73 (by decide) (by first | omega | with_reducible rfl) (by first | omega | with_reducible rfl) (fun c_73 => ?_) (fun c_73 => ?_)
  · exfalso; omega
  · refine w_aload_n dX10_init_76 rfl 2 rfl ?_
    refine w_get (i := 4) (T := TX10) (NF := 6) 0 (by first | omega | with_reducible rfl) h0_136 rfl (fun _ h => (List.mem_cons_of_mem _ (List.mem_append_left _ (List.mem_append_left _ (List.mem_append_left _ (List.mem_append_left _ (List.mem_append_left _ (List.mem_append_left _ (List.mem_append_left _ (List.mem_append_left _ (List.mem_append_right _ h))))))))))) (by decide) (List.mem_of_getElem? (i := 24) rfl) rfl dX10_init_77 ?_
    refine w_iload_n dX10_init_80 rfl 0 rfl ?_
    refine w_new (ci := 7) (T := TX7) (NF := 4) (fs := [.null, .null, .null, .null]) rfl (fun _ h => (List.mem_cons_of_mem _ (List.mem_append_left _ (List.mem_append_left _ (List.mem_append_left _ (List.mem_append_left _ (List.mem_append_right _ h))))))) tyX7 tyX7_ok (List.mem_of_getElem? (i := 23) rfl) (List.mem_of_getElem? (i := 25) rfl) (List.mem_of_getElem? (i := 26) rfl) (fun j hj => match j, hj with | 0, _ => rfl | 1, _ => rfl | 2, _ => rfl | 3, _ => rfl | (_ + 4), h => absurd h (by omega)) (Nat.le_of_ble_eq_true rfl) (Nat.le_of_ble_eq_true rfl) dX10_init_81 (fun g_144 he_145 hn_146 => ?_)
    have h0_147 : nO10 cy B g_144 0 (.ref (B + 16)) (.ref (B + 18)) (.ref (B + 50)) (.ref (B + 59)) (.ref (B + 62)) (.int (zI 0)) := nO10_fr h0_136 (fun q h1 h2 => hn_146 q (by omega))
    have nsets_148 : vSets cy B g_144 1 Cn_14 := vSets_fr nsets_137 (fun q h1 h2 => hn_146 q (by omega))
    have ntext_149 : vText cy B g_144 16 0 (fun _ => 0) := vText_fr ntext_138 (fun q h1 h2 => hn_146 q (by omega))
    have nreaderd_150 : vReaderD cy B g_144 18 1 := vReaderD_fr nreaderd_139 (fun q h1 h2 => hn_146 q (by omega))
    have npast_151 : vPast cy B g_144 50 (fun _ => 0) (fun _ _ => 0) 0 0 := vPast_fr npast_140 (fun q h1 h2 => hn_146 q (by omega))
    have njoint_152 : vJoint cy B g_144 59 (fun _ => 0) (fun _ => 0) 0 := vJoint_fr njoint_141 (fun q h1 h2 => hn_146 q (by omega))
    have a62_153 : vQ4 cy B g_144 62 3 0 63 26 := vQ4_fr a62_142 (fun q h1 h2 => hn_146 q (by omega))
    have hfr_154 : ∀ q, q < 0 → g_144 q = g q := fun q hq => (hn_146 q (by omega)).trans (hfr_143 q hq)
    have a63_155 : nO7 cy B g_144 63 (.null) (.null) (.null) (.null) := he_145
    refine w_dup dX10_init_84 rfl ?_
    refine w_aload_n dX10_init_85 rfl 1 rfl ?_
    refine w_ctor2 (As := [.ref (B + 1)]) (rest := [.ref (B + 63), .int (zI 0), .ref (B + 62)]) (n := 1) (k := 63) hao (c_X7_init (b := 63) a63_155) gX10_init_X7_init rfl rfl rfl (List.mem_of_getElem? (i := 26) rfl) (List.mem_of_getElem? (i := 81) rfl) (List.mem_of_getElem? (i := 82) rfl) rfl (by decide +kernel) ⟨(Nat.le_of_ble_eq_true rfl), (Nat.le_of_ble_eq_true rfl)⟩ rfl (Nat.le_of_ble_eq_true rfl) ⟨(Nat.le_of_ble_eq_true rfl), (Nat.le_of_ble_eq_true rfl)⟩ dX10_init_86 rfl (fun g_156 hp_157 => ?_)
    obtain ⟨pX7_159, hf_158⟩ := hp_157
    have h0_160 : nO10 cy B g_156 0 (.ref (B + 16)) (.ref (B + 18)) (.ref (B + 50)) (.ref (B + 59)) (.ref (B + 62)) (.int (zI 0)) := nO10_fr h0_147 (fun q h1 h2 => hf_158 q (by omega))
    have nsets_161 : vSets cy B g_156 1 Cn_14 := vSets_fr nsets_148 (fun q h1 h2 => hf_158 q (by omega))
    have ntext_162 : vText cy B g_156 16 0 (fun _ => 0) := vText_fr ntext_149 (fun q h1 h2 => hf_158 q (by omega))
    have nreaderd_163 : vReaderD cy B g_156 18 1 := vReaderD_fr nreaderd_150 (fun q h1 h2 => hf_158 q (by omega))
    have npast_164 : vPast cy B g_156 50 (fun _ => 0) (fun _ _ => 0) 0 0 := vPast_fr npast_151 (fun q h1 h2 => hf_158 q (by omega))
    have njoint_165 : vJoint cy B g_156 59 (fun _ => 0) (fun _ => 0) 0 := vJoint_fr njoint_152 (fun q h1 h2 => hf_158 q (by omega))
    have a62_166 : vQ4 cy B g_156 62 3 0 63 26 := vQ4_fr a62_153 (fun q h1 h2 => hf_158 q (by omega))
    have hfr_167 : ∀ q, q < 0 → g_156 q = g q := fun q hq => (hf_158 q (by omega)).trans (hfr_154 q hq)
    have nsw_168 := pX7_159
    refine w_astq (r := (RX7, TX7, 4)) 62 63 (by first | omega | with_reducible rfl) (by first | omega | with_reducible rfl) a62_166 (vSW_str nsw_168) (by omega) rfl rfl (by omega) (by omega) dX10_init_89 (fun g_169 he_170 hn_171 => ?_)
    have h0_172 : nO10 cy B g_169 0 (.ref (B + 16)) (.ref (B + 18)) (.ref (B + 50)) (.ref (B + 59)) (.ref (B + 62)) (.int (zI 0)) := nO10_fr h0_160 (fun q h1 h2 => hn_171 q (by omega))
    have nsets_173 : vSets cy B g_169 1 Cn_14 := vSets_fr nsets_161 (fun q h1 h2 => hn_171 q (by omega))
    have ntext_174 : vText cy B g_169 16 0 (fun _ => 0) := vText_fr ntext_162 (fun q h1 h2 => hn_171 q (by omega))
    have nreaderd_175 : vReaderD cy B g_169 18 1 := vReaderD_fr nreaderd_163 (fun q h1 h2 => hn_171 q (by omega))
    have npast_176 : vPast cy B g_169 50 (fun _ => 0) (fun _ _ => 0) 0 0 := vPast_fr npast_164 (fun q h1 h2 => hn_171 q (by omega))
    have njoint_177 : vJoint cy B g_169 59 (fun _ => 0) (fun _ => 0) 0 := vJoint_fr njoint_165 (fun q h1 h2 => hn_171 q (by omega))
    have a62_178 : vQ4 cy B g_169 62 3 1 63 26 := he_170
    have nsw_179 : vSW cy B g_169 63 ([]) 1 0 := vSW_fr nsw_168 (fun q h1 h2 => hn_171 q (by omega))
    have hfr_180 : ∀ q, q < 0 → g_169 q = g q := fun q hq => (hn_171 q (by omega)).trans (hfr_167 q hq)
    refine w_iinc 0 [(2, .int (zI (0 + 1))), (1, .ref (B + 1)), (0, .ref (B + 0))] dX10_init_90 rfl (by decide) rfl ?_
    refine w_goto 67 dX10_init_93 (by decide) ?_
    refine w_iload_n dX10_init_67 rfl 0 rfl ?_
    refine w_aload_n dX10_init_68 rfl 2 rfl ?_
    refine w_get (i := 4) (T := TX10) (NF := 6) 0 (by first | omega | with_reducible rfl) h0_172 rfl (fun _ h => (List.mem_cons_of_mem _ (List.mem_append_left _ (List.mem_append_left _ (List.mem_append_left _ (List.mem_append_left _ (List.mem_append_left _ (List.mem_append_left _ (List.mem_append_left _ (List.mem_append_left _ (List.mem_append_right _ h))))))))))) (by decide) (List.mem_of_getElem? (i := 24) rfl) rfl dX10_init_69 ?_
    refine w_alen 62 4 (by first | omega | with_reducible rfl) a62_178 rfl dX10_init_72 ?_
    refine w_icmp_ge 96 dX10_init_73 (by decide) (by first | omega | with_reducible rfl) (by first | omega | with_reducible rfl) (fun c_73 => ?_) (fun c_73 => ?_)
    · exfalso; omega
    · refine w_aload_n dX10_init_76 rfl 2 rfl ?_
      refine w_get (i := 4) (T := TX10) (NF := 6) 0 (by first | omega | with_reducible rfl) h0_172 rfl (fun _ h => (List.mem_cons_of_mem _ (List.mem_append_left _ (List.mem_append_left _ (List.mem_append_left _ (List.mem_append_left _ (List.mem_append_left _ (List.mem_append_left _ (List.mem_append_left _ (List.mem_append_left _ (List.mem_append_right _ h))))))))))) (by decide) (List.mem_of_getElem? (i := 24) rfl) rfl dX10_init_77 ?_
      refine w_iload_n dX10_init_80 rfl 0 rfl ?_
      refine w_new (ci := 7) (T := TX7) (NF := 4) (fs := [.null, .null, .null, .null]) rfl (fun _ h => (List.mem_cons_of_mem _ (List.mem_append_left _ (List.mem_append_left _ (List.mem_append_left _ (List.mem_append_left _ (List.mem_append_right _ h))))))) tyX7 tyX7_ok (List.mem_of_getElem? (i := 23) rfl) (List.mem_of_getElem? (i := 25) rfl) (List.mem_of_getElem? (i := 26) rfl) (fun j hj => match j, hj with | 0, _ => rfl | 1, _ => rfl | 2, _ => rfl | 3, _ => rfl | (_ + 4), h => absurd h (by omega)) (Nat.le_of_ble_eq_true rfl) (Nat.le_of_ble_eq_true rfl) dX10_init_81 (fun g_181 he_182 hn_183 => ?_)
      have h0_184 : nO10 cy B g_181 0 (.ref (B + 16)) (.ref (B + 18)) (.ref (B + 50)) (.ref (B + 59)) (.ref (B + 62)) (.int (zI 0)) := nO10_fr h0_172 (fun q h1 h2 => hn_183 q (by omega))
      have nsets_185 : vSets cy B g_181 1 Cn_14 := vSets_fr nsets_173 (fun q h1 h2 => hn_183 q (by omega))
      have ntext_186 : vText cy B g_181 16 0 (fun _ => 0) := vText_fr ntext_174 (fun q h1 h2 => hn_183 q (by omega))
      have nreaderd_187 : vReaderD cy B g_181 18 1 := vReaderD_fr nreaderd_175 (fun q h1 h2 => hn_183 q (by omega))
      have npast_188 : vPast cy B g_181 50 (fun _ => 0) (fun _ _ => 0) 0 0 := vPast_fr npast_176 (fun q h1 h2 => hn_183 q (by omega))
      have njoint_189 : vJoint cy B g_181 59 (fun _ => 0) (fun _ => 0) 0 := vJoint_fr njoint_177 (fun q h1 h2 => hn_183 q (by omega))
      have a62_190 : vQ4 cy B g_181 62 3 1 63 26 := vQ4_fr a62_178 (fun q h1 h2 => hn_183 q (by omega))
      have nsw_191 : vSW cy B g_181 63 ([]) 1 0 := vSW_fr nsw_179 (fun q h1 h2 => hn_183 q (by omega))
      have hfr_192 : ∀ q, q < 0 → g_181 q = g q := fun q hq => (hn_183 q (by omega)).trans (hfr_180 q hq)
      have a89_193 : nO7 cy B g_181 89 (.null) (.null) (.null) (.null) := he_182
      refine w_dup dX10_init_84 rfl ?_
      refine w_aload_n dX10_init_85 rfl 1 rfl ?_
      refine w_ctor2 (As := [.ref (B + 1)]) (rest := [.ref (B + 89), .int (zI (0 + 1)), .ref (B + 62)]) (n := 1) (k := 89) hao (c_X7_init (b := 89) a89_193) gX10_init_X7_init rfl rfl rfl (List.mem_of_getElem? (i := 26) rfl) (List.mem_of_getElem? (i := 81) rfl) (List.mem_of_getElem? (i := 82) rfl) rfl (by decide +kernel) ⟨(Nat.le_of_ble_eq_true rfl), (Nat.le_of_ble_eq_true rfl)⟩ rfl (Nat.le_of_ble_eq_true rfl) ⟨(Nat.le_of_ble_eq_true rfl), (Nat.le_of_ble_eq_true rfl)⟩ dX10_init_86 rfl (fun g_194 hp_195 => ?_)
      obtain ⟨pX7_197, hf_196⟩ := hp_195
      have h0_198 : nO10 cy B g_194 0 (.ref (B + 16)) (.ref (B + 18)) (.ref (B + 50)) (.ref (B + 59)) (.ref (B + 62)) (.int (zI 0)) := nO10_fr h0_184 (fun q h1 h2 => hf_196 q (by omega))
      have nsets_199 : vSets cy B g_194 1 Cn_14 := vSets_fr nsets_185 (fun q h1 h2 => hf_196 q (by omega))
      have ntext_200 : vText cy B g_194 16 0 (fun _ => 0) := vText_fr ntext_186 (fun q h1 h2 => hf_196 q (by omega))
      have nreaderd_201 : vReaderD cy B g_194 18 1 := vReaderD_fr nreaderd_187 (fun q h1 h2 => hf_196 q (by omega))
      have npast_202 : vPast cy B g_194 50 (fun _ => 0) (fun _ _ => 0) 0 0 := vPast_fr npast_188 (fun q h1 h2 => hf_196 q (by omega))
      have njoint_203 : vJoint cy B g_194 59 (fun _ => 0) (fun _ => 0) 0 := vJoint_fr njoint_189 (fun q h1 h2 => hf_196 q (by omega))
      have a62_204 : vQ4 cy B g_194 62 3 1 63 26 := vQ4_fr a62_190 (fun q h1 h2 => hf_196 q (by omega))
      have nsw_205 : vSW cy B g_194 63 ([]) 1 0 := vSW_fr nsw_191 (fun q h1 h2 => hf_196 q (by omega))
      have hfr_206 : ∀ q, q < 0 → g_194 q = g q := fun q hq => (hf_196 q (by omega)).trans (hfr_192 q hq)
      have nsw_207 := pX7_197
      refine w_astq (r := (RX7, TX7, 4)) 62 89 (by first | omega | with_reducible rfl) (by first | omega | with_reducible rfl) a62_204 (vSW_str nsw_207) (by omega) rfl rfl (by omega) (by omega) dX10_init_89 (fun g_208 he_209 hn_210 => ?_)
      have h0_211 : nO10 cy B g_208 0 (.ref (B + 16)) (.ref (B + 18)) (.ref (B + 50)) (.ref (B + 59)) (.ref (B + 62)) (.int (zI 0)) := nO10_fr h0_198 (fun q h1 h2 => hn_210 q (by omega))
      have nsets_212 : vSets cy B g_208 1 Cn_14 := vSets_fr nsets_199 (fun q h1 h2 => hn_210 q (by omega))
      have ntext_213 : vText cy B g_208 16 0 (fun _ => 0) := vText_fr ntext_200 (fun q h1 h2 => hn_210 q (by omega))
      have nreaderd_214 : vReaderD cy B g_208 18 1 := vReaderD_fr nreaderd_201 (fun q h1 h2 => hn_210 q (by omega))
      have npast_215 : vPast cy B g_208 50 (fun _ => 0) (fun _ _ => 0) 0 0 := vPast_fr npast_202 (fun q h1 h2 => hn_210 q (by omega))
      have njoint_216 : vJoint cy B g_208 59 (fun _ => 0) (fun _ => 0) 0 := vJoint_fr njoint_203 (fun q h1 h2 => hn_210 q (by omega))
      have a62_217 : vQ4 cy B g_208 62 3 2 63 26 := he_209
      have nsw_218 : vSW cy B g_208 63 ([]) 1 0 := vSW_fr nsw_205 (fun q h1 h2 => hn_210 q (by omega))
      have nsw_219 : vSW cy B g_208 89 ([]) 1 0 := vSW_fr nsw_207 (fun q h1 h2 => hn_210 q (by omega))
      have hfr_220 : ∀ q, q < 0 → g_208 q = g q := fun q hq => (hn_210 q (by omega)).trans (hfr_206 q hq)
      refine w_iinc 0 [(2, .int (zI ((0 + 1) + 1))), (1, .ref (B + 1)), (0, .ref (B + 0))] dX10_init_90 rfl (by decide) rfl ?_
      refine w_goto 67 dX10_init_93 (by decide) ?_
      refine w_iload_n dX10_init_67 rfl 0 rfl ?_
      refine w_aload_n dX10_init_68 rfl 2 rfl ?_
      refine w_get (i := 4) (T := TX10) (NF := 6) 0 (by first | omega | with_reducible rfl) h0_211 rfl (fun _ h => (List.mem_cons_of_mem _ (List.mem_append_left _ (List.mem_append_left _ (List.mem_append_left _ (List.mem_append_left _ (List.mem_append_left _ (List.mem_append_left _ (List.mem_append_left _ (List.mem_append_left _ (List.mem_append_right _ h))))))))))) (by decide) (List.mem_of_getElem? (i := 24) rfl) rfl dX10_init_69 ?_
      refine w_alen 62 4 (by first | omega | with_reducible rfl) a62_217 rfl dX10_init_72 ?_
      refine w_icmp_ge 96 dX10_init_73 (by decide) (by first | omega | with_reducible rfl) (by first | omega | with_reducible rfl) (fun c_73 => ?_) (fun c_73 => ?_)
      · exfalso; omega
      · refine w_aload_n dX10_init_76 rfl 2 rfl ?_
        refine w_get (i := 4) (T := TX10) (NF := 6) 0 (by first | omega | with_reducible rfl) h0_211 rfl (fun _ h => (List.mem_cons_of_mem _ (List.mem_append_left _ (List.mem_append_left _ (List.mem_append_left _ (List.mem_append_left _ (List.mem_append_left _ (List.mem_append_left _ (List.mem_append_left _ (List.mem_append_left _ (List.mem_append_right _ h))))))))))) (by decide) (List.mem_of_getElem? (i := 24) rfl) rfl dX10_init_77 ?_
        refine w_iload_n dX10_init_80 rfl 0 rfl ?_
        refine w_new (ci := 7) (T := TX7) (NF := 4) (fs := [.null, .null, .null, .null]) rfl (fun _ h => (List.mem_cons_of_mem _ (List.mem_append_left _ (List.mem_append_left _ (List.mem_append_left _ (List.mem_append_left _ (List.mem_append_right _ h))))))) tyX7 tyX7_ok (List.mem_of_getElem? (i := 23) rfl) (List.mem_of_getElem? (i := 25) rfl) (List.mem_of_getElem? (i := 26) rfl) (fun j hj => match j, hj with | 0, _ => rfl | 1, _ => rfl | 2, _ => rfl | 3, _ => rfl | (_ + 4), h => absurd h (by omega)) (Nat.le_of_ble_eq_true rfl) (Nat.le_of_ble_eq_true rfl) dX10_init_81 (fun g_221 he_222 hn_223 => ?_)
        have h0_224 : nO10 cy B g_221 0 (.ref (B + 16)) (.ref (B + 18)) (.ref (B + 50)) (.ref (B + 59)) (.ref (B + 62)) (.int (zI 0)) := nO10_fr h0_211 (fun q h1 h2 => hn_223 q (by omega))
        have nsets_225 : vSets cy B g_221 1 Cn_14 := vSets_fr nsets_212 (fun q h1 h2 => hn_223 q (by omega))
        have ntext_226 : vText cy B g_221 16 0 (fun _ => 0) := vText_fr ntext_213 (fun q h1 h2 => hn_223 q (by omega))
        have nreaderd_227 : vReaderD cy B g_221 18 1 := vReaderD_fr nreaderd_214 (fun q h1 h2 => hn_223 q (by omega))
        have npast_228 : vPast cy B g_221 50 (fun _ => 0) (fun _ _ => 0) 0 0 := vPast_fr npast_215 (fun q h1 h2 => hn_223 q (by omega))
        have njoint_229 : vJoint cy B g_221 59 (fun _ => 0) (fun _ => 0) 0 := vJoint_fr njoint_216 (fun q h1 h2 => hn_223 q (by omega))
        have a62_230 : vQ4 cy B g_221 62 3 2 63 26 := vQ4_fr a62_217 (fun q h1 h2 => hn_223 q (by omega))
        have nsw_231 : vSW cy B g_221 63 ([]) 1 0 := vSW_fr nsw_218 (fun q h1 h2 => hn_223 q (by omega))
        have nsw_232 : vSW cy B g_221 89 ([]) 1 0 := vSW_fr nsw_219 (fun q h1 h2 => hn_223 q (by omega))
        have hfr_233 : ∀ q, q < 0 → g_221 q = g q := fun q hq => (hn_223 q (by omega)).trans (hfr_220 q hq)
        have a115_234 : nO7 cy B g_221 115 (.null) (.null) (.null) (.null) := he_222
        refine w_dup dX10_init_84 rfl ?_
        refine w_aload_n dX10_init_85 rfl 1 rfl ?_
        refine w_ctor2 (As := [.ref (B + 1)]) (rest := [.ref (B + 115), .int (zI ((0 + 1) + 1)), .ref (B + 62)]) (n := 1) (k := 115) hao (c_X7_init (b := 115) a115_234) gX10_init_X7_init rfl rfl rfl (List.mem_of_getElem? (i := 26) rfl) (List.mem_of_getElem? (i := 81) rfl) (List.mem_of_getElem? (i := 82) rfl) rfl (by decide +kernel) ⟨(Nat.le_of_ble_eq_true rfl), (Nat.le_of_ble_eq_true rfl)⟩ rfl (Nat.le_of_ble_eq_true rfl) ⟨(Nat.le_of_ble_eq_true rfl), (Nat.le_of_ble_eq_true rfl)⟩ dX10_init_86 rfl (fun g_235 hp_236 => ?_)
        obtain ⟨pX7_238, hf_237⟩ := hp_236
        have h0_239 : nO10 cy B g_235 0 (.ref (B + 16)) (.ref (B + 18)) (.ref (B + 50)) (.ref (B + 59)) (.ref (B + 62)) (.int (zI 0)) := nO10_fr h0_224 (fun q h1 h2 => hf_237 q (by omega))
        have nsets_240 : vSets cy B g_235 1 Cn_14 := vSets_fr nsets_225 (fun q h1 h2 => hf_237 q (by omega))
        have ntext_241 : vText cy B g_235 16 0 (fun _ => 0) := vText_fr ntext_226 (fun q h1 h2 => hf_237 q (by omega))
        have nreaderd_242 : vReaderD cy B g_235 18 1 := vReaderD_fr nreaderd_227 (fun q h1 h2 => hf_237 q (by omega))
        have npast_243 : vPast cy B g_235 50 (fun _ => 0) (fun _ _ => 0) 0 0 := vPast_fr npast_228 (fun q h1 h2 => hf_237 q (by omega))
        have njoint_244 : vJoint cy B g_235 59 (fun _ => 0) (fun _ => 0) 0 := vJoint_fr njoint_229 (fun q h1 h2 => hf_237 q (by omega))
        have a62_245 : vQ4 cy B g_235 62 3 2 63 26 := vQ4_fr a62_230 (fun q h1 h2 => hf_237 q (by omega))
        have nsw_246 : vSW cy B g_235 63 ([]) 1 0 := vSW_fr nsw_231 (fun q h1 h2 => hf_237 q (by omega))
        have nsw_247 : vSW cy B g_235 89 ([]) 1 0 := vSW_fr nsw_232 (fun q h1 h2 => hf_237 q (by omega))
        have hfr_248 : ∀ q, q < 0 → g_235 q = g q := fun q hq => (hf_237 q (by omega)).trans (hfr_233 q hq)
        have nsw_249 := pX7_238
        refine w_astq (r := (RX7, TX7, 4)) 62 115 (by first | omega | with_reducible rfl) (by first | omega | with_reducible rfl) a62_245 (vSW_str nsw_249) (by omega) rfl rfl (by omega) (by omega) dX10_init_89 (fun g_250 he_251 hn_252 => ?_)
        have h0_253 : nO10 cy B g_250 0 (.ref (B + 16)) (.ref (B + 18)) (.ref (B + 50)) (.ref (B + 59)) (.ref (B + 62)) (.int (zI 0)) := nO10_fr h0_239 (fun q h1 h2 => hn_252 q (by omega))
        have nsets_254 : vSets cy B g_250 1 Cn_14 := vSets_fr nsets_240 (fun q h1 h2 => hn_252 q (by omega))
        have ntext_255 : vText cy B g_250 16 0 (fun _ => 0) := vText_fr ntext_241 (fun q h1 h2 => hn_252 q (by omega))
        have nreaderd_256 : vReaderD cy B g_250 18 1 := vReaderD_fr nreaderd_242 (fun q h1 h2 => hn_252 q (by omega))
        have npast_257 : vPast cy B g_250 50 (fun _ => 0) (fun _ _ => 0) 0 0 := vPast_fr npast_243 (fun q h1 h2 => hn_252 q (by omega))
        have njoint_258 : vJoint cy B g_250 59 (fun _ => 0) (fun _ => 0) 0 := vJoint_fr njoint_244 (fun q h1 h2 => hn_252 q (by omega))
        have a62_259 : vQ4 cy B g_250 62 3 3 63 26 := he_251
        have nsw_260 : vSW cy B g_250 63 ([]) 1 0 := vSW_fr nsw_246 (fun q h1 h2 => hn_252 q (by omega))
        have nsw_261 : vSW cy B g_250 89 ([]) 1 0 := vSW_fr nsw_247 (fun q h1 h2 => hn_252 q (by omega))
        have nsw_262 : vSW cy B g_250 115 ([]) 1 0 := vSW_fr nsw_249 (fun q h1 h2 => hn_252 q (by omega))
        have hfr_263 : ∀ q, q < 0 → g_250 q = g q := fun q hq => (hn_252 q (by omega)).trans (hfr_248 q hq)
        refine w_iinc 0 [(2, .int (zI (((0 + 1) + 1) + 1))), (1, .ref (B + 1)), (0, .ref (B + 0))] dX10_init_90 rfl (by decide) rfl ?_
        refine w_goto 67 dX10_init_93 (by decide) ?_
        refine w_iload_n dX10_init_67 rfl 0 rfl ?_
        refine w_aload_n dX10_init_68 rfl 2 rfl ?_
        refine w_get (i := 4) (T := TX10) (NF := 6) 0 (by first | omega | with_reducible rfl) h0_253 rfl (fun _ h => (List.mem_cons_of_mem _ (List.mem_append_left _ (List.mem_append_left _ (List.mem_append_left _ (List.mem_append_left _ (List.mem_append_left _ (List.mem_append_left _ (List.mem_append_left _ (List.mem_append_left _ (List.mem_append_right _ h))))))))))) (by decide) (List.mem_of_getElem? (i := 24) rfl) rfl dX10_init_69 ?_
        refine w_alen 62 4 (by first | omega | with_reducible rfl) a62_259 rfl dX10_init_72 ?_
        refine w_icmp_ge 96 dX10_init_73 (by decide) (by first | omega | with_reducible rfl) (by first | omega | with_reducible rfl) (fun c_73 => ?_) (fun c_73 => ?_)
        · refine w_aload_n dX10_init_96 rfl 2 rfl ?_
          refine w_iconst dX10_init_97 ?_
          refine w_put (i := 5) (T := TX10) (NF := 6) 0 (by first | omega | with_reducible rfl) h0_253 rfl (fun _ h => (List.mem_cons_of_mem _ (List.mem_append_left _ (List.mem_append_left _ (List.mem_append_left _ (List.mem_append_left _ (List.mem_append_left _ (List.mem_append_left _ (List.mem_append_left _ (List.mem_append_left _ (List.mem_append_right _ h))))))))))) tyX10 tyX10_ok nmX10 (by decide) (List.mem_of_getElem? (i := 27) rfl) rfl rfl rfl (Nat.le_of_ble_eq_true rfl) dX10_init_98 (fun g_264 he_265 hn_266 => ?_)
          have h0_267 : nO10 cy B g_264 0 (.ref (B + 16)) (.ref (B + 18)) (.ref (B + 50)) (.ref (B + 59)) (.ref (B + 62)) (.int (zI 0)) := he_265
          have nsets_268 : vSets cy B g_264 1 Cn_14 := vSets_fr nsets_254 (fun q h1 h2 => hn_266 q (by omega))
          have ntext_269 : vText cy B g_264 16 0 (fun _ => 0) := vText_fr ntext_255 (fun q h1 h2 => hn_266 q (by omega))
          have nreaderd_270 : vReaderD cy B g_264 18 1 := vReaderD_fr nreaderd_256 (fun q h1 h2 => hn_266 q (by omega))
          have npast_271 : vPast cy B g_264 50 (fun _ => 0) (fun _ _ => 0) 0 0 := vPast_fr npast_257 (fun q h1 h2 => hn_266 q (by omega))
          have njoint_272 : vJoint cy B g_264 59 (fun _ => 0) (fun _ => 0) 0 := vJoint_fr njoint_258 (fun q h1 h2 => hn_266 q (by omega))
          have a62_273 : vQ4 cy B g_264 62 3 3 63 26 := vQ4_fr a62_259 (fun q h1 h2 => hn_266 q (by omega))
          have nsw_274 : vSW cy B g_264 63 ([]) 1 0 := vSW_fr nsw_260 (fun q h1 h2 => hn_266 q (by omega))
          have nsw_275 : vSW cy B g_264 89 ([]) 1 0 := vSW_fr nsw_261 (fun q h1 h2 => hn_266 q (by omega))
          have nsw_276 : vSW cy B g_264 115 ([]) 1 0 := vSW_fr nsw_262 (fun q h1 h2 => hn_266 q (by omega))
          have hfr_277 : ∀ q, q < 0 → g_264 q = g q := fun q hq => (hn_266 q (by omega)).trans (hfr_263 q hq)
          have htop_278 : vTop cy B g_264 0 0 := h0_267
          have hred_279 : vReader cy B g_264 18 0 0 := (nreaderd_270).1
          have hdr_280 : vDr cy B g_264 (18 + 2) 1 (fun _ => 0) (fun _ => 1) (fun _ _ => 0) (fun _ _ => 0) (fun _ _ => 0) (fun _ _ _ => 0) := (nreaderd_270).2
          have hsta_281 : vSA cy B g_264 62  := a62_273
          have hsws_282 : vSWs cy B g_264 63 (fun _ => ([] : List Co)) (fun _ => 1) (fun _ => 0) := (fun k hk => match k, hk with | 0, _ => nsw_274 | 1, _ => nsw_275 | 2, _ => nsw_276 | (_ + 3), h => absurd h (by omega))
          refine w_iconst dX10_init_101 ?_
          refine w_istore_n [(2, .int (zI 0)), (1, .ref (B + 1)), (0, .ref (B + 0))] dX10_init_102 rfl (by decide) rfl ?_
          refine w_sub [(0, .ref (B + 0)), (1, .ref (B + 1)), (2, .int (zI 0))] [2, 1, 0] rfl ?_
          refine w_lv (lv' := [(0, .ref (B + 0)), (1, .ref (B + 1)), (2, .int (zI ((0 : Nat) : Int)))]) (lc_s (lc_s (lc_i (by first | omega | with_reducible rfl) rfl))) ?_
          refine w_loop3 (fun (i : Nat) (Li : Int → Int) (gl_283 : (Nat → va_E)) => vSets cy B gl_283 1 Cn_14 ∧ vText cy B gl_283 16 i Li ∧ vPast cy B gl_283 50 (fun _ => 0) (fun _ _ => 0) 0 0 ∧ vJoint cy B gl_283 59 (fun _ => 0) (fun _ => 0) 0 ∧ vTop cy B gl_283 0 0 ∧ vReader cy B gl_283 18 0 0 ∧ vDr cy B gl_283 (18 + 2) 1 (fun _ => 0) (fun _ => 1) (fun _ _ => 0) (fun _ _ => 0) (fun _ _ => 0) (fun _ _ _ => 0) ∧ vSA cy B gl_283 62  ∧ vSWs cy B gl_283 63 (fun _ => ([] : List Co)) (fun _ => 1) (fun _ => 0) ∧ (∀ q, q < 0 → gl_283 q = g q) ∧ i ≤ 46 ∧ (∀ j : Int, 0 ≤ j → j < i → Li j = ftA j)) (fun (i : Nat) (Li : Int → Int) (gl_283 : (Nat → va_E)) => 46 - i) (fun (i : Nat) (Li : Int → Int) (gl_283 : (Nat → va_E)) => gl_283) (fun (i : Nat) (Li : Int → Int) (gl_283 : (Nat → va_E)) => [(0, .ref (B + 0)), (1, .ref (B + 1)), (2, .int (zI ((i : Nat) : Int)))]) ?_ 0 (fun _ => 0) g_264 ⟨nsets_268, ntext_269, npast_271, njoint_272, htop_278, hred_279, hdr_280, hsta_281, hsws_282, hfr_277, (by first | omega | with_reducible rfl), (fun y h1 h2 => by omega)⟩
          rintro i Li gl_283 ⟨nsets_284, ntext_285, npast_286, njoint_287, htop_288, hred_289, hdr_290, hsta_291, hsws_292, hfr_293, hi, hLi⟩ ih_103
          refine w_iload_n dX10_init_103 rfl 2 rfl ?_
          refine w_ldcS hsf.2 dX10_init_104 ?_
          refine w_calli3 (As := []) (rest := [.int (zI ((i : Nat) : Int))]) (n := 0) hsf c_J0_length gX10_init_J0_length_8abf5 rfl rfl rfl (by decide +kernel) ⟨(Nat.le_of_ble_eq_true rfl), (Nat.le_of_ble_eq_true rfl)⟩ rfl (Nat.le_of_ble_eq_true rfl) ⟨(Nat.le_of_ble_eq_true rfl), (Nat.le_of_ble_eq_true rfl)⟩ dX10_init_106 rfl ?_
          refine w_icmp_ge 131 dX10_init_109 (by decide) (by first | omega | with_reducible rfl) (by first | omega | with_reducible rfl) (fun c_109 => ?_) (fun c_109 => ?_)
          · have hps : psF i Li 200 0 [] = (-1, firstS) := ft_ps (by omega) hLi
            refine w_aload_n dX10_init_131 rfl 0 rfl ?_
            refine w_calli (As := []) (rest := []) (n := 0) (y_X10_takeText (MM := 1) htop_288 hsta_291 ntext_285 hred_289 hdr_290 nsets_284 npast_286 hsws_292 (by first | omega | with_reducible rfl) (by first | omega | with_reducible rfl) (by first | omega | with_reducible rfl) (fun j h1 h2 => by have h9 := ftA_rg j.toNat (by omega); rw [Int.toNat_of_nonneg h1] at h9; rw [hLi j h1 h2]; omega) (SetI_A hSI_15) (fun _ => Int.le_refl _) (by rw [hps]) (by rw [hps]; decide)) gX10_init_X10_takeText rfl rfl rfl (by decide +kernel) ⟨Nat.le_of_ble_eq_true rfl, Nat.le_of_ble_eq_true rfl⟩ rfl (by first | omega | with_reducible rfl) htop_288 rfl (Nat.le_of_ble_eq_true rfl) ⟨Nat.le_of_ble_eq_true rfl, Nat.le_of_ble_eq_true rfl⟩ dX10_init_132 rfl (fun g_294 hp_295 => ?_)
            obtain ⟨sr1_296, pl1_297, dn1_298, dv1_299, dT1_300, dX1_301, dV1_302, dW1_303, cs1_304, Ms1_305, fs1_306, htop_307, hred_308, hdr_309, npast_310, hsws_311, hcs_132, hM1_132, hf_312⟩ := hp_295
            have nsets_313 : vSets cy B g_294 1 Cn_14 := vSets_fr nsets_284 (fun q h1 h2 => hf_312 q (by omega))
            have ntext_314 : vText cy B g_294 16 i Li := vText_fr ntext_285 (fun q h1 h2 => hf_312 q (by omega))
            have njoint_315 : vJoint cy B g_294 59 (fun _ => 0) (fun _ => 0) 0 := vJoint_fr njoint_287 (fun q h1 h2 => hf_312 q (by omega))
            have hsta_316 : vSA cy B g_294 62  := vSA_fr hsta_291 (fun q h1 h2 => hf_312 q (by omega))
            have hfr_317 : ∀ q, q < 0 → g_294 q = g q := fun q hq => (hf_312 q (by omega)).trans (hfr_293 q hq)
            refine w_pop dX10_init_135 rfl ?_
            refine w_aload_n dX10_init_136 rfl 0 rfl ?_
            refine w_get (i := 0) (T := TX10) (NF := 6) 0 (by first | omega | with_reducible rfl) htop_307 rfl (fun _ h => (List.mem_cons_of_mem _ (List.mem_append_left _ (List.mem_append_left _ (List.mem_append_left _ (List.mem_append_left _ (List.mem_append_left _ (List.mem_append_left _ (List.mem_append_left _ (List.mem_append_left _ (List.mem_append_right _ h))))))))))) (by decide) (List.mem_of_getElem? (i := 10) rfl) rfl dX10_init_137 ?_
            refine w_callv (As := []) (rest := []) (n := 0) (c_X9_clear ntext_314 (by first | omega | with_reducible rfl)) gX10_init_X9_clear rfl rfl rfl (by decide +kernel) ⟨Nat.le_of_ble_eq_true rfl, Nat.le_of_ble_eq_true rfl⟩ rfl (by first | omega | with_reducible rfl) ntext_314.1 rfl (Nat.le_of_ble_eq_true rfl) ⟨Nat.le_of_ble_eq_true rfl, Nat.le_of_ble_eq_true rfl⟩ dX10_init_140 rfl (fun g_318 hp_319 => ?_)
            obtain ⟨ntext_320, hf_321⟩ := hp_319
            have nsets_322 : vSets cy B g_318 1 Cn_14 := vSets_fr nsets_313 (fun q h1 h2 => hf_321 q (by omega))
            have npast_323 : vPast cy B g_318 50 (fun _ => 0) (fun _ _ => 0) 0 0 := vPast_fr npast_310 (fun q h1 h2 => hf_321 q (by omega))
            have njoint_324 : vJoint cy B g_318 59 (fun _ => 0) (fun _ => 0) 0 := vJoint_fr njoint_315 (fun q h1 h2 => hf_321 q (by omega))
            have htop_325 : vTop cy B g_318 0 ((psF i Li 200 0 []).2.length) := vTop_fr htop_307 (fun q h1 h2 => hf_321 q (by omega))
            have hred_326 : vReader cy B g_318 18 sr1_296 pl1_297 := vReader_fr hred_308 (fun q h1 h2 => hf_321 q (by omega))
            have hdr_327 : vDr cy B g_318 (18 + 2) 1 dn1_298 dv1_299 dT1_300 dX1_301 dV1_302 dW1_303 := vDr_fr hdr_309 (fun q h1 h2 => hf_321 q (by omega))
            have hsta_328 : vSA cy B g_318 62  := vSA_fr hsta_316 (fun q h1 h2 => hf_321 q (by omega))
            have hsws_329 : vSWs cy B g_318 63 cs1_304 Ms1_305 fs1_306 := vSWs_fr hsws_311 (fun q h1 h2 => hf_321 q (by omega))
            have hfr_330 : ∀ q, q < 0 → g_318 q = g q := fun q hq => (hf_321 q (by omega)).trans (hfr_317 q hq)
            have hT9 := htop_325
            rw [hps] at hT9
            have hcz := hcs_132
            rw [hps] at hcz
            exact w_vret dX10_init_143 rfl ⟨⟨_, _, _, _, _, _, _, _, _, _, _, _, _, _, _, _, _, _, _, ⟨hT9, hsta_328, ntext_320, hred_326, hdr_327, nsets_322, npast_323, njoint_324, hsws_329⟩, SetI_A hSI_15, (by decide), PC_nil, hcz, hM1_132⟩, hfr_330⟩
          · refine w_aload_n dX10_init_112 rfl 0 rfl ?_
            refine w_get (i := 0) (T := TX10) (NF := 6) 0 (by first | omega | with_reducible rfl) htop_288 rfl (fun _ h => (List.mem_cons_of_mem _ (List.mem_append_left _ (List.mem_append_left _ (List.mem_append_left _ (List.mem_append_left _ (List.mem_append_left _ (List.mem_append_left _ (List.mem_append_left _ (List.mem_append_left _ (List.mem_append_right _ h))))))))))) (by decide) (List.mem_of_getElem? (i := 10) rfl) rfl dX10_init_113 ?_
            refine w_ldcS hsf.2 dX10_init_116 ?_
            refine w_iload_n dX10_init_118 rfl 2 rfl ?_
            refine w_calli3 (As := [.int (zI ((i : Nat) : Int))]) (rest := [.ref (B + 16)]) (n := 1) hsf (c_J0_charAt (z := ((i : Nat) : Int)) (by omega)) gX10_init_J0_charAt_5068e rfl rfl rfl (by decide +kernel) ⟨(Nat.le_of_ble_eq_true rfl), (Nat.le_of_ble_eq_true rfl)⟩ rfl (Nat.le_of_ble_eq_true rfl) ⟨(Nat.le_of_ble_eq_true rfl), (Nat.le_of_ble_eq_true rfl)⟩ dX10_init_119 rfl ?_
            refine w_callv (As := [.int (zI (ftA ((i : Nat) : Int)))]) (rest := []) (n := 1) (c_X9_append ntext_285 (by first | omega | with_reducible rfl) (by first | omega | with_reducible rfl) (by have h9 := ftA_rg i (by omega); omega)) gX10_init_X9_append rfl rfl rfl (by decide +kernel) ⟨Nat.le_of_ble_eq_true rfl, Nat.le_of_ble_eq_true rfl⟩ rfl (by first | omega | with_reducible rfl) ntext_285.1 rfl (Nat.le_of_ble_eq_true rfl) ⟨Nat.le_of_ble_eq_true rfl, Nat.le_of_ble_eq_true rfl⟩ dX10_init_122 rfl (fun g_331 hp_332 => ?_)
            obtain ⟨ntext_333, hf_334⟩ := hp_332
            have nsets_335 : vSets cy B g_331 1 Cn_14 := vSets_fr nsets_284 (fun q h1 h2 => hf_334 q (by omega))
            have npast_336 : vPast cy B g_331 50 (fun _ => 0) (fun _ _ => 0) 0 0 := vPast_fr npast_286 (fun q h1 h2 => hf_334 q (by omega))
            have njoint_337 : vJoint cy B g_331 59 (fun _ => 0) (fun _ => 0) 0 := vJoint_fr njoint_287 (fun q h1 h2 => hf_334 q (by omega))
            have htop_338 : vTop cy B g_331 0 0 := vTop_fr htop_288 (fun q h1 h2 => hf_334 q (by omega))
            have hred_339 : vReader cy B g_331 18 0 0 := vReader_fr hred_289 (fun q h1 h2 => hf_334 q (by omega))
            have hdr_340 : vDr cy B g_331 (18 + 2) 1 (fun _ => 0) (fun _ => 1) (fun _ _ => 0) (fun _ _ => 0) (fun _ _ => 0) (fun _ _ _ => 0) := vDr_fr hdr_290 (fun q h1 h2 => hf_334 q (by omega))
            have hsta_341 : vSA cy B g_331 62  := vSA_fr hsta_291 (fun q h1 h2 => hf_334 q (by omega))
            have hsws_342 : vSWs cy B g_331 63 (fun _ => ([] : List Co)) (fun _ => 1) (fun _ => 0) := vSWs_fr hsws_292 (fun q h1 h2 => hf_334 q (by omega))
            have hfr_343 : ∀ q, q < 0 → g_331 q = g q := fun q hq => (hf_334 q (by omega)).trans (hfr_293 q hq)
            refine w_iinc 2 [(2, .int (zI (((i : Nat) : Int) + 1))), (0, .ref (B + 0)), (1, .ref (B + 1))] dX10_init_125 rfl (by decide) rfl ?_
            refine w_goto 103 dX10_init_128 (by decide) ?_
            refine w_sub [(0, .ref (B + 0)), (1, .ref (B + 1)), (2, .int (zI (((i : Nat) : Int) + 1)))] [1, 2, 0] rfl ?_
            refine w_lv (lv' := [(0, .ref (B + 0)), (1, .ref (B + 1)), (2, .int (zI (((i + 1) : Nat) : Int)))]) (lc_s (lc_s (lc_i (by first | omega | with_reducible rfl) rfl))) ?_
            exact ih_103 (i + 1) (uZ Li ((i : Nat) : Int) (ftA ((i : Nat) : Int))) g_331 ⟨nsets_335, ntext_333, npast_336, njoint_337, htop_338, hred_339, hdr_340, hsta_341, hsws_342, hfr_343, (by first | omega | with_reducible rfl), (step_uz hLi rfl)⟩ (by first | omega | with_reducible rfl)
        · exfalso; omega
