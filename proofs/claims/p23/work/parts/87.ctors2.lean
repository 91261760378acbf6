/-! ===== constructors: reader, stratum ===== -/
set_option maxHeartbeats 4000000 in
set_option maxRecDepth 100000 in
theorem c_X5_init {l : Launch} {D : va_G} {cy : Nat → ClassId} {B : Nat} {g : Nat → va_E} {b : Nat} {sets : Nat} (h0 : nO5 cy B g b (.null) (.int (zI 0)) (.int (zI 0))) : CTc2 l yX5_init wsX5_init (rmc 2 33 31 279) D cy B (b + 1) g [.ref (B + b), .ref (B + sets)] 31 279 (fun g' => vReaderD cy B g' b sets ∧ ∀ q, q < b → g' q = g q) := by
  refine WW_of2 (cc := cX5_init) (maxL := 3) (ret := none) (own := RX5) (by decide) rfl rfl (Nat.le_of_ble_eq_true rfl) rfl ?_
  intro pp ee ss mm bl me co hmn hao
  have hfr_0 : ∀ q, q < b → g q = g q := fun _ _ => rfl
  refine w_aload_n dX5_init_0 rfl 0 rfl ?_
  refine w_objInit (List.mem_of_getElem? (i := 1) rfl) (List.mem_of_getElem? (i := 2) rfl) (List.mem_of_getElem? (i := 3) rfl) dX5_init_1 (Nat.le_of_ble_eq_true rfl) (Nat.le_of_ble_eq_true rfl) (by decide) ?_
  refine w_aload_n dX5_init_4 rfl 0 rfl ?_
  refine w_iconst dX5_init_5 ?_
  refine w_newq (Cn := RX0) (n := 3) 3 (b + 2) 10 rfl hao.1 (by omega) (by omega) (List.mem_of_getElem? (i := 4) rfl) (Nat.le_of_ble_eq_true rfl) (Nat.le_of_ble_eq_true rfl) dX5_init_6 (fun g_1 he_2 hn_3 => ?_)
  have h0_4 : nO5 cy B g_1 b (.null) (.int (zI 0)) (.int (zI 0)) := nO5_fr h0 (fun q h1 h2 => hn_3 q (by omega))
  have hfr_5 : ∀ q, q < b → g_1 q = g q := fun q hq => (hn_3 q (by omega)).trans (hfr_0 q hq)
  have a1_6 : vQ3 cy B g_1 (b + 1) 3 0 (b + 2) 10 := he_2
  refine w_putF (i := 0) (T := TX5) (NF := 3) b (by first | omega | with_reducible rfl) h0_4 rfl (fun _ h => (List.mem_cons_of_mem _ (List.mem_append_left _ (List.mem_append_right _ h)))) tyX5 tyX5_ok nmX5 (by decide) (List.mem_of_getElem? (i := 5) rfl) rfl hmn rfl rfl rfl (Nat.le_of_ble_eq_true rfl) dX5_init_9 (fun g_7 he_8 hn_9 => ?_)
  have h0_10 : nO5 cy B g_7 b (.ref (B + (b + 1))) (.int (zI 0)) (.int (zI 0)) := he_8
  have a1_11 : vQ3 cy B g_7 (b + 1) 3 0 (b + 2) 10 := vQ3_fr a1_6 (fun q h1 h2 => hn_9 q (by omega))
  have hfr_12 : ∀ q, q < b → g_7 q = g q := fun q hq => (hn_9 q (by omega)).trans (hfr_5 q hq)
  refine w_iconst dX5_init_12 ?_
  refine w_istore_n [(2, .int (zI 0)), (0, .ref (B + b)), (1, .ref (B + sets))] dX5_init_13 rfl (by decide) rfl ?_
  refine w_iload_n dX5_init_14 rfl 0 rfl ?_
  refine w_aload_n dX5_init_15 rfl 1 rfl ?_
  refine w_get (i := 0) (T := TX5) (NF := 3) b (by first | omega | with_reducible rfl) h0_10 rfl (fun _ h => (List.mem_cons_of_mem _ (List.mem_append_left _ (List.mem_append_right _ h)))) (by decide) (List.mem_of_getElem? (i := 5) rfl) rfl dX5_init_16 ?_
  refine w_alen (b + 1) 3 (by first | omega | with_reducible rfl) a1_11 rfl dX5_init_19 ?_
  refine w_icmp_ge 43 dX5_init_20 (by decide) (by first | omega | with_reducible rfl) (by first | omega | with_reducible rfl) (fun c_20 => ?_) (fun c_20 => ?_)
  · exfalso; omega
  · refine w_aload_n dX5_init_23 rfl 1 rfl ?_
    refine w_get (i := 0) (T := TX5) (NF := 3) b (by first | omega | with_reducible rfl) h0_10 rfl (fun _ h => (List.mem_cons_of_mem _ (List.mem_append_left _ (List.mem_append_right _ h)))) (by decide) (List.mem_of_getElem? (i := 5) rfl) rfl dX5_init_24 ?_
    refine w_iload_n dX5_init_27 rfl 0 rfl ?_
    refine w_new (ci := 0) (T := TX0) (NF := 7) (fs := [.null, .null, .null, .null, .null, (.int (zI 0)), (.int (zI 0))]) rfl (fun _ h => (List.mem_cons_of_mem _ (List.mem_append_right _ h))) tyX0 tyX0_ok (List.mem_of_getElem? (i := 4) rfl) (List.mem_of_getElem? (i := 6) rfl) (List.mem_of_getElem? (i := 7) rfl) (fun j hj => match j, hj with | 0, _ => rfl | 1, _ => rfl | 2, _ => rfl | 3, _ => rfl | 4, _ => rfl | 5, _ => rfl | 6, _ => rfl | (_ + 7), h => absurd h (by omega)) (Nat.le_of_ble_eq_true rfl) (Nat.le_of_ble_eq_true rfl) dX5_init_28 (fun g_13 he_14 hn_15 => ?_)
    have h0_16 : nO5 cy B g_13 b (.ref (B + (b + 1))) (.int (zI 0)) (.int (zI 0)) := nO5_fr h0_10 (fun q h1 h2 => hn_15 q (by omega))
    have a1_17 : vQ3 cy B g_13 (b + 1) 3 0 (b + 2) 10 := vQ3_fr a1_11 (fun q h1 h2 => hn_15 q (by omega))
    have hfr_18 : ∀ q, q < b → g_13 q = g q := fun q hq => (hn_15 q (by omega)).trans (hfr_12 q hq)
    have a2_19 : nO0 cy B g_13 (b + 2) (.null) (.null) (.null) (.null) (.null) (.int (zI 0)) (.int (zI 0)) := he_14
    refine w_dup dX5_init_31 rfl ?_
    refine w_aload_n dX5_init_32 rfl 2 rfl ?_
    refine w_ctor2 (As := [.ref (B + sets)]) (rest := [.ref (B + (b + 2)), .int (zI 0), .ref (B + (b + 1))]) (n := 1) (k := (b + 2)) hao (c_X0_init (b := (b + 2)) (sets := sets) a2_19) gX5_init_X0_init rfl rfl rfl (List.mem_of_getElem? (i := 7) rfl) (List.mem_of_getElem? (i := 10) rfl) (List.mem_of_getElem? (i := 11) rfl) rfl (by decide +kernel) ⟨(Nat.le_of_ble_eq_true rfl), (Nat.le_of_ble_eq_true rfl)⟩ rfl (Nat.le_of_ble_eq_true rfl) ⟨(Nat.le_of_ble_eq_true rfl), (Nat.le_of_ble_eq_true rfl)⟩ dX5_init_33 rfl (fun g_20 hp_21 => ?_)
    obtain ⟨pX0_23, hf_22⟩ := hp_21
    have h0_24 : nO5 cy B g_20 b (.ref (B + (b + 1))) (.int (zI 0)) (.int (zI 0)) := nO5_fr h0_16 (fun q h1 h2 => hf_22 q (by omega))
    have a1_25 : vQ3 cy B g_20 (b + 1) 3 0 (b + 2) 10 := vQ3_fr a1_17 (fun q h1 h2 => hf_22 q (by omega))
    have hfr_26 : ∀ q, q < b → g_20 q = g q := fun q hq => (hf_22 q (by omega)).trans (hfr_18 q hq)
    have ncol_27 := pX0_23
    refine w_astq (r := (RX0, TX0, 7)) (b + 1) (b + 2) (by first | omega | with_reducible rfl) (by first | omega | with_reducible rfl) a1_25 ncol_27.1 (by omega) rfl rfl (by omega) (by omega) dX5_init_36 (fun g_28 he_29 hn_30 => ?_)
    have h0_31 : nO5 cy B g_28 b (.ref (B + (b + 1))) (.int (zI 0)) (.int (zI 0)) := nO5_fr h0_24 (fun q h1 h2 => hn_30 q (by omega))
    have a1_32 : vQ3 cy B g_28 (b + 1) 3 1 (b + 2) 10 := he_29
    have ncol_33 : vCol cy B g_28 (b + 2) sets 0 1 (fun _ => 0) (fun _ => 0) (fun _ => 0) (fun _ _ => 0) := vCol_fr ncol_27 (fun q h1 h2 => hn_30 q (by omega))
    have hfr_34 : ∀ q, q < b → g_28 q = g q := fun q hq => (hn_30 q (by omega)).trans (hfr_26 q hq)
    refine w_iinc 0 [(2, .int (zI (0 + 1))), (0, .ref (B + b)), (1, .ref (B + sets))] dX5_init_37 rfl (by decide) rfl ?_
    refine w_goto 14 dX5_init_40 (by decide) ?_
    refine w_iload_n dX5_init_14 rfl 0 rfl ?_
    refine w_aload_n dX5_init_15 rfl 1 rfl ?_
    refine w_get (i := 0) (T := TX5) (NF := 3) b (by first | omega | with_reducible rfl) h0_31 rfl (fun _ h => (List.mem_cons_of_mem _ (List.mem_append_left _ (List.mem_append_right _ h)))) (by decide) (List.mem_of_getElem? (i := 5) rfl) rfl dX5_init_16 ?_
    refine w_alen (b + 1) 3 (by first | omega | with_reducible rfl) a1_32 rfl dX5_init_19 ?_
    refine w_icmp_ge 43 dX5_init_20 (by decide) (by first | omega | with_reducible rfl) (by first | omega | with_reducible rfl) (fun c_20 => ?_) (fun c_20 => ?_)
    · exfalso; omega
    · refine w_aload_n dX5_init_23 rfl 1 rfl ?_
      refine w_get (i := 0) (T := TX5) (NF := 3) b (by first | omega | with_reducible rfl) h0_31 rfl (fun _ h => (List.mem_cons_of_mem _ (List.mem_append_left _ (List.mem_append_right _ h)))) (by decide) (List.mem_of_getElem? (i := 5) rfl) rfl dX5_init_24 ?_
      refine w_iload_n dX5_init_27 rfl 0 rfl ?_
      refine w_new (ci := 0) (T := TX0) (NF := 7) (fs := [.null, .null, .null, .null, .null, (.int (zI 0)), (.int (zI 0))]) rfl (fun _ h => (List.mem_cons_of_mem _ (List.mem_append_right _ h))) tyX0 tyX0_ok (List.mem_of_getElem? (i := 4) rfl) (List.mem_of_getElem? (i := 6) rfl) (List.mem_of_getElem? (i := 7) rfl) (fun j hj => match j, hj with | 0, _ => rfl | 1, _ => rfl | 2, _ => rfl | 3, _ => rfl | 4, _ => rfl | 5, _ => rfl | 6, _ => rfl | (_ + 7), h => absurd h (by omega)) (Nat.le_of_ble_eq_true rfl) (Nat.le_of_ble_eq_true rfl) dX5_init_28 (fun g_35 he_36 hn_37 => ?_)
      have h0_38 : nO5 cy B g_35 b (.ref (B + (b + 1))) (.int (zI 0)) (.int (zI 0)) := nO5_fr h0_31 (fun q h1 h2 => hn_37 q (by omega))
      have a1_39 : vQ3 cy B g_35 (b + 1) 3 1 (b + 2) 10 := vQ3_fr a1_32 (fun q h1 h2 => hn_37 q (by omega))
      have ncol_40 : vCol cy B g_35 (b + 2) sets 0 1 (fun _ => 0) (fun _ => 0) (fun _ => 0) (fun _ _ => 0) := vCol_fr ncol_33 (fun q h1 h2 => hn_37 q (by omega))
      have hfr_41 : ∀ q, q < b → g_35 q = g q := fun q hq => (hn_37 q (by omega)).trans (hfr_34 q hq)
      have a12_42 : nO0 cy B g_35 (b + 12) (.null) (.null) (.null) (.null) (.null) (.int (zI 0)) (.int (zI 0)) := he_36
      refine w_dup dX5_init_31 rfl ?_
      refine w_aload_n dX5_init_32 rfl 2 rfl ?_
      refine w_ctor2 (As := [.ref (B + sets)]) (rest := [.ref (B + (b + 12)), .int (zI (0 + 1)), .ref (B + (b + 1))]) (n := 1) (k := (b + 12)) hao (c_X0_init (b := (b + 12)) (sets := sets) a12_42) gX5_init_X0_init rfl rfl rfl (List.mem_of_getElem? (i := 7) rfl) (List.mem_of_getElem? (i := 10) rfl) (List.mem_of_getElem? (i := 11) rfl) rfl (by decide +kernel) ⟨(Nat.le_of_ble_eq_true rfl), (Nat.le_of_ble_eq_true rfl)⟩ rfl (Nat.le_of_ble_eq_true rfl) ⟨(Nat.le_of_ble_eq_true rfl), (Nat.le_of_ble_eq_true rfl)⟩ dX5_init_33 rfl (fun g_43 hp_44 => ?_)
      obtain ⟨pX0_46, hf_45⟩ := hp_44
      have h0_47 : nO5 cy B g_43 b (.ref (B + (b + 1))) (.int (zI 0)) (.int (zI 0)) := nO5_fr h0_38 (fun q h1 h2 => hf_45 q (by omega))
      have a1_48 : vQ3 cy B g_43 (b + 1) 3 1 (b + 2) 10 := vQ3_fr a1_39 (fun q h1 h2 => hf_45 q (by omega))
      have ncol_49 : vCol cy B g_43 (b + 2) sets 0 1 (fun _ => 0) (fun _ => 0) (fun _ => 0) (fun _ _ => 0) := vCol_fr ncol_40 (fun q h1 h2 => hf_45 q (by omega))
      have hfr_50 : ∀ q, q < b → g_43 q = g q := fun q hq => (hf_45 q (by omega)).trans (hfr_41 q hq)
      have ncol_51 := pX0_46
      refine w_astq (r := (RX0, TX0, 7)) (b + 1) (b + 12) (by first | omega | with_reducible rfl) (by first | omega | with_reducible rfl) a1_48 ncol_51.1 (by omega) rfl rfl (by omega) (by omega) dX5_init_36 (fun g_52 he_53 hn_54 => ?_)
      have h0_55 : nO5 cy B g_52 b (.ref (B + (b + 1))) (.int (zI 0)) (.int (zI 0)) := nO5_fr h0_47 (fun q h1 h2 => hn_54 q (by omega))
      have a1_56 : vQ3 cy B g_52 (b + 1) 3 2 (b + 2) 10 := he_53
      have ncol_57 : vCol cy B g_52 (b + 2) sets 0 1 (fun _ => 0) (fun _ => 0) (fun _ => 0) (fun _ _ => 0) := vCol_fr ncol_49 (fun q h1 h2 => hn_54 q (by omega))
      have ncol_58 : vCol cy B g_52 (b + 12) sets 0 1 (fun _ => 0) (fun _ => 0) (fun _ => 0) (fun _ _ => 0) := vCol_fr ncol_51 (fun q h1 h2 => hn_54 q (by omega))
      have hfr_59 : ∀ q, q < b → g_52 q = g q := fun q hq => (hn_54 q (by omega)).trans (hfr_50 q hq)
      refine w_iinc 0 [(2, .int (zI ((0 + 1) + 1))), (0, .ref (B + b)), (1, .ref (B + sets))] dX5_init_37 rfl (by decide) rfl ?_
      refine w_goto 14 dX5_init_40 (by decide) ?_
      refine w_iload_n dX5_init_14 rfl 0 rfl ?_
      refine w_aload_n dX5_init_15 rfl 1 rfl ?_
      refine w_get (i := 0) (T := TX5) (NF := 3) b (by first | omega | with_reducible rfl) h0_55 rfl (fun _ h => (List.mem_cons_of_mem _ (List.mem_append_left _ (List.mem_append_right _ h)))) (by decide) (List.mem_of_getElem? (i := 5) rfl) rfl dX5_init_16 ?_
      refine w_alen (b + 1) 3 (by first | omega | with_reducible rfl) a1_56 rfl dX5_init_19 ?_
      refine w_icmp_ge 43 dX5_init_20 (by decide) (by first | omega | with_reducible rfl) (by first | omega | with_reducible rfl) (fun c_20 => ?_) (fun c_20 => ?_)
      · exfalso; omega
      · refine w_aload_n dX5_init_23 rfl 1 rfl ?_
        refine w_get (i := 0) (T := TX5) (NF := 3) b (by first | omega | with_reducible rfl) h0_55 rfl (fun _ h => (List.mem_cons_of_mem _ (List.mem_append_left _ (List.mem_append_right _ h)))) (by decide) (List.mem_of_getElem? (i := 5) rfl) rfl dX5_init_24 ?_
        refine w_iload_n dX5_init_27 rfl 0 rfl ?_
        refine w_new (ci := 0) (T := TX0) (NF := 7) (fs := [.null, .null, .null, .null, .null, (.int (zI 0)), (.int (zI 0))]) rfl (fun _ h => (List.mem_cons_of_mem _ (List.mem_append_right _ h))) tyX0 tyX0_ok (List.mem_of_getElem? (i := 4) rfl) (List.mem_of_getElem? (i := 6) rfl) (List.mem_of_getElem? (i := 7) rfl) (fun j hj => match j, hj with | 0, _ => rfl | 1, _ => rfl | 2, _ => rfl | 3, _ => rfl | 4, _ => rfl | 5, _ => rfl | 6, _ => rfl | (_ + 7), h => absurd h (by omega)) (Nat.le_of_ble_eq_true rfl) (Nat.le_of_ble_eq_true rfl) dX5_init_28 (fun g_60 he_61 hn_62 => ?_)
        have h0_63 : nO5 cy B g_60 b (.ref (B + (b + 1))) (.int (zI 0)) (.int (zI 0)) := nO5_fr h0_55 (fun q h1 h2 => hn_62 q (by omega))
        have a1_64 : vQ3 cy B g_60 (b + 1) 3 2 (b + 2) 10 := vQ3_fr a1_56 (fun q h1 h2 => hn_62 q (by omega))
        have ncol_65 : vCol cy B g_60 (b + 2) sets 0 1 (fun _ => 0) (fun _ => 0) (fun _ => 0) (fun _ _ => 0) := vCol_fr ncol_57 (fun q h1 h2 => hn_62 q (by omega))
        have ncol_66 : vCol cy B g_60 (b + 12) sets 0 1 (fun _ => 0) (fun _ => 0) (fun _ => 0) (fun _ _ => 0) := vCol_fr ncol_58 (fun q h1 h2 => hn_62 q (by omega))
        have hfr_67 : ∀ q, q < b → g_60 q = g q := fun q hq => (hn_62 q (by omega)).trans (hfr_59 q hq)
        have a22_68 : nO0 cy B g_60 (b + 22) (.null) (.null) (.null) (.null) (.null) (.int (zI 0)) (.int (zI 0)) := he_61
        refine w_dup dX5_init_31 rfl ?_
        refine w_aload_n dX5_init_32 rfl 2 rfl ?_
        refine w_ctor2 (As := [.ref (B + sets)]) (rest := [.ref (B + (b + 22)), .int (zI ((0 + 1) + 1)), .ref (B + (b + 1))]) (n := 1) (k := (b + 22)) hao (c_X0_init (b := (b + 22)) (sets := sets) a22_68) gX5_init_X0_init rfl rfl rfl (List.mem_of_getElem? (i := 7) rfl) (List.mem_of_getElem? (i := 10) rfl) (List.mem_of_getElem? (i := 11) rfl) rfl (by decide +kernel) ⟨(Nat.le_of_ble_eq_true rfl), (Nat.le_of_ble_eq_true rfl)⟩ rfl (Nat.le_of_ble_eq_true rfl) ⟨(Nat.le_of_ble_eq_true rfl), (Nat.le_of_ble_eq_true rfl)⟩ dX5_init_33 rfl (fun g_69 hp_70 => ?_)
        obtain ⟨pX0_72, hf_71⟩ := hp_70
        have h0_73 : nO5 cy B g_69 b (.ref (B + (b + 1))) (.int (zI 0)) (.int (zI 0)) := nO5_fr h0_63 (fun q h1 h2 => hf_71 q (by omega))
        have a1_74 : vQ3 cy B g_69 (b + 1) 3 2 (b + 2) 10 := vQ3_fr a1_64 (fun q h1 h2 => hf_71 q (by omega))
        have ncol_75 : vCol cy B g_69 (b + 2) sets 0 1 (fun _ => 0) (fun _ => 0) (fun _ => 0) (fun _ _ => 0) := vCol_fr ncol_65 (fun q h1 h2 => hf_71 q (by omega))
        have ncol_76 : vCol cy B g_69 (b + 12) sets 0 1 (fun _ => 0) (fun _ => 0) (fun _ => 0) (fun _ _ => 0) := vCol_fr ncol_66 (fun q h1 h2 => hf_71 q (by omega))
        have hfr_77 : ∀ q, q < b → g_69 q = g q := fun q hq => (hf_71 q (by omega)).trans (hfr_67 q hq)
        have ncol_78 := pX0_72
        refine w_astq (r := (RX0, TX0, 7)) (b + 1) (b + 22) (by first | omega | with_reducible rfl) (by first | omega | with_reducible rfl) a1_74 ncol_78.1 (by omega) rfl rfl (by omega) (by omega) dX5_init_36 (fun g_79 he_80 hn_81 => ?_)
        have h0_82 : nO5 cy B g_79 b (.ref (B + (b + 1))) (.int (zI 0)) (.int (zI 0)) := nO5_fr h0_73 (fun q h1 h2 => hn_81 q (by omega))
        have a1_83 : vQ3 cy B g_79 (b + 1) 3 3 (b + 2) 10 := he_80
        have ncol_84 : vCol cy B g_79 (b + 2) sets 0 1 (fun _ => 0) (fun _ => 0) (fun _ => 0) (fun _ _ => 0) := vCol_fr ncol_75 (fun q h1 h2 => hn_81 q (by omega))
        have ncol_85 : vCol cy B g_79 (b + 12) sets 0 1 (fun _ => 0) (fun _ => 0) (fun _ => 0) (fun _ _ => 0) := vCol_fr ncol_76 (fun q h1 h2 => hn_81 q (by omega))
        have ncol_86 : vCol cy B g_79 (b + 22) sets 0 1 (fun _ => 0) (fun _ => 0) (fun _ => 0) (fun _ _ => 0) := vCol_fr ncol_78 (fun q h1 h2 => hn_81 q (by omega))
        have hfr_87 : ∀ q, q < b → g_79 q = g q := fun q hq => (hn_81 q (by omega)).trans (hfr_77 q hq)
        refine w_iinc 0 [(2, .int (zI (((0 + 1) + 1) + 1))), (0, .ref (B + b)), (1, .ref (B + sets))] dX5_init_37 rfl (by decide) rfl ?_
        refine w_goto 14 dX5_init_40 (by decide) ?_
        refine w_iload_n dX5_init_14 rfl 0 rfl ?_
        refine w_aload_n dX5_init_15 rfl 1 rfl ?_
        refine w_get (i := 0) (T := TX5) (NF := 3) b (by first | omega | with_reducible rfl) h0_82 rfl (fun _ h => (List.mem_cons_of_mem _ (List.mem_append_left _ (List.mem_append_right _ h)))) (by decide) (List.mem_of_getElem? (i := 5) rfl) rfl dX5_init_16 ?_
        refine w_alen (b + 1) 3 (by first | omega | with_reducible rfl) a1_83 rfl dX5_init_19 ?_
        refine w_icmp_ge 43 dX5_init_20 (by decide) (by first | omega | with_reducible rfl) (by first | omega | with_reducible rfl) (fun c_20 => ?_) (fun c_20 => ?_)
        · refine w_aload_n dX5_init_43 rfl 1 rfl ?_
          refine w_iconst dX5_init_44 ?_
          refine w_put (i := 1) (T := TX5) (NF := 3) b (by first | omega | with_reducible rfl) h0_82 rfl (fun _ h => (List.mem_cons_of_mem _ (List.mem_append_left _ (List.mem_append_right _ h)))) tyX5 tyX5_ok nmX5 (by decide) (List.mem_of_getElem? (i := 8) rfl) rfl rfl rfl (Nat.le_of_ble_eq_true rfl) dX5_init_45 (fun g_88 he_89 hn_90 => ?_)
          have h0_91 : nO5 cy B g_88 b (.ref (B + (b + 1))) (.int (zI 0)) (.int (zI 0)) := he_89
          have a1_92 : vQ3 cy B g_88 (b + 1) 3 3 (b + 2) 10 := vQ3_fr a1_83 (fun q h1 h2 => hn_90 q (by omega))
          have ncol_93 : vCol cy B g_88 (b + 2) sets 0 1 (fun _ => 0) (fun _ => 0) (fun _ => 0) (fun _ _ => 0) := vCol_fr ncol_84 (fun q h1 h2 => hn_90 q (by omega))
          have ncol_94 : vCol cy B g_88 (b + 12) sets 0 1 (fun _ => 0) (fun _ => 0) (fun _ => 0) (fun _ _ => 0) := vCol_fr ncol_85 (fun q h1 h2 => hn_90 q (by omega))
          have ncol_95 : vCol cy B g_88 (b + 22) sets 0 1 (fun _ => 0) (fun _ => 0) (fun _ => 0) (fun _ _ => 0) := vCol_fr ncol_86 (fun q h1 h2 => hn_90 q (by omega))
          have hfr_96 : ∀ q, q < b → g_88 q = g q := fun q hq => (hn_90 q (by omega)).trans (hfr_87 q hq)
          refine w_aload_n dX5_init_48 rfl 1 rfl ?_
          refine w_iconst dX5_init_49 ?_
          refine w_put (i := 2) (T := TX5) (NF := 3) b (by first | omega | with_reducible rfl) h0_91 rfl (fun _ h => (List.mem_cons_of_mem _ (List.mem_append_left _ (List.mem_append_right _ h)))) tyX5 tyX5_ok nmX5 (by decide) (List.mem_of_getElem? (i := 9) rfl) rfl rfl rfl (Nat.le_of_ble_eq_true rfl) dX5_init_50 (fun g_97 he_98 hn_99 => ?_)
          have h0_100 : nO5 cy B g_97 b (.ref (B + (b + 1))) (.int (zI 0)) (.int (zI 0)) := he_98
          have a1_101 : vQ3 cy B g_97 (b + 1) 3 3 (b + 2) 10 := vQ3_fr a1_92 (fun q h1 h2 => hn_99 q (by omega))
          have ncol_102 : vCol cy B g_97 (b + 2) sets 0 1 (fun _ => 0) (fun _ => 0) (fun _ => 0) (fun _ _ => 0) := vCol_fr ncol_93 (fun q h1 h2 => hn_99 q (by omega))
          have ncol_103 : vCol cy B g_97 (b + 12) sets 0 1 (fun _ => 0) (fun _ => 0) (fun _ => 0) (fun _ _ => 0) := vCol_fr ncol_94 (fun q h1 h2 => hn_99 q (by omega))
          have ncol_104 : vCol cy B g_97 (b + 22) sets 0 1 (fun _ => 0) (fun _ => 0) (fun _ => 0) (fun _ _ => 0) := vCol_fr ncol_95 (fun q h1 h2 => hn_99 q (by omega))
          have hfr_105 : ∀ q, q < b → g_97 q = g q := fun q hq => (hn_99 q (by omega)).trans (hfr_96 q hq)
          exact w_vret dX5_init_53 rfl ⟨⟨⟨h0_100, a1_101⟩, (fun k hk => match k, hk with | 0, _ => (by have h9 := ncol_102; exact h9) | 1, _ => (by have h9 := ncol_103; exact h9) | 2, _ => (by have h9 := ncol_104; exact h9) | (_ + 3), h => absurd h (by omega))⟩, hfr_105⟩
        · exfalso; omega
set_option maxHeartbeats 4000000 in
set_option maxRecDepth 100000 in
theorem c_X7_init {l : Launch} {D : va_G} {cy : Nat → ClassId} {B : Nat} {g : Nat → va_E} {b : Nat}  (h0 : nO7 cy B g b (.null) (.null) (.null) (.null)) : CTc2 l yX7_init wsX7_init (rmc 2 34 25 4135) D cy B (b + 1) g [.ref (B + b), .ref (B + 1)] 25 4135 (fun g' => vSW cy B g' b [] 1 0 ∧ ∀ q, q < b → g' q = g q) := by
  refine WW_of2 (cc := cX7_init) (maxL := 2) (ret := none) (own := RX7) (by decide) rfl rfl (Nat.le_of_ble_eq_true rfl) rfl ?_
  intro pp ee ss mm bl me co hmn hao
  have hfr_0 : ∀ q, q < b → g q = g q := fun _ _ => rfl
  refine w_aload_n dX7_init_0 rfl 0 rfl ?_
  refine w_objInit (List.mem_of_getElem? (i := 1) rfl) (List.mem_of_getElem? (i := 2) rfl) (List.mem_of_getElem? (i := 3) rfl) dX7_init_1 (Nat.le_of_ble_eq_true rfl) (Nat.le_of_ble_eq_true rfl) (by decide) ?_
  refine w_aload_n dX7_init_4 rfl 0 rfl ?_
  refine w_new (ci := 0) (T := TX0) (NF := 7) (fs := [.null, .null, .null, .null, .null, (.int (zI 0)), (.int (zI 0))]) rfl (fun _ h => (List.mem_cons_of_mem _ (List.mem_append_left _ (List.mem_append_left _ (List.mem_append_left _ (List.mem_append_left _ (List.mem_append_right _ h))))))) tyX0 tyX0_ok (List.mem_of_getElem? (i := 4) rfl) (List.mem_of_getElem? (i := 5) rfl) (List.mem_of_getElem? (i := 6) rfl) (fun j hj => match j, hj with | 0, _ => rfl | 1, _ => rfl | 2, _ => rfl | 3, _ => rfl | 4, _ => rfl | 5, _ => rfl | 6, _ => rfl | (_ + 7), h => absurd h (by omega)) (Nat.le_of_ble_eq_true rfl) (Nat.le_of_ble_eq_true rfl) dX7_init_5 (fun g_1 he_2 hn_3 => ?_)
  have h0_4 : nO7 cy B g_1 b (.null) (.null) (.null) (.null) := nO7_fr h0 (fun q h1 h2 => hn_3 q (by omega))
  have hfr_5 : ∀ q, q < b → g_1 q = g q := fun q hq => (hn_3 q (by omega)).trans (hfr_0 q hq)
  have a1_6 : nO0 cy B g_1 (b + 1) (.null) (.null) (.null) (.null) (.null) (.int (zI 0)) (.int (zI 0)) := he_2
  refine w_dup dX7_init_8 rfl ?_
  refine w_aload_n dX7_init_9 rfl 1 rfl ?_
  refine w_ctor2 (As := [.ref (B + 1)]) (rest := [.ref (B + (b + 1)), .ref (B + b)]) (n := 1) (k := (b + 1)) hao (c_X0_init (b := (b + 1)) (sets := 1) a1_6) gX7_init_X0_init rfl rfl rfl (List.mem_of_getElem? (i := 6) rfl) (List.mem_of_getElem? (i := 20) rfl) (List.mem_of_getElem? (i := 21) rfl) rfl (by decide +kernel) ⟨(Nat.le_of_ble_eq_true rfl), (Nat.le_of_ble_eq_true rfl)⟩ rfl (Nat.le_of_ble_eq_true rfl) ⟨(Nat.le_of_ble_eq_true rfl), (Nat.le_of_ble_eq_true rfl)⟩ dX7_init_10 rfl (fun g_7 hp_8 => ?_)
  obtain ⟨pX0_10, hf_9⟩ := hp_8
  have h0_11 : nO7 cy B g_7 b (.null) (.null) (.null) (.null) := nO7_fr h0_4 (fun q h1 h2 => hf_9 q (by omega))
  have hfr_12 : ∀ q, q < b → g_7 q = g q := fun q hq => (hf_9 q (by omega)).trans (hfr_5 q hq)
  have ncol_13 := pX0_10
  refine w_putF (i := 0) (T := TX7) (NF := 4) b (by first | omega | with_reducible rfl) h0_11 rfl (fun _ h => (List.mem_cons_of_mem _ (List.mem_append_left _ (List.mem_append_left _ (List.mem_append_left _ (List.mem_append_right _ h)))))) tyX7 tyX7_ok nmX7 (by decide) (List.mem_of_getElem? (i := 7) rfl) rfl hmn rfl rfl rfl (Nat.le_of_ble_eq_true rfl) dX7_init_13 (fun g_14 he_15 hn_16 => ?_)
  have h0_17 : nO7 cy B g_14 b (.ref (B + (b + 1))) (.null) (.null) (.null) := he_15
  have ncol_18 : vCol cy B g_14 (b + 1) 1 0 1 (fun _ => 0) (fun _ => 0) (fun _ => 0) (fun _ _ => 0) := vCol_fr ncol_13 (fun q h1 h2 => hn_16 q (by omega))
  have hfr_19 : ∀ q, q < b → g_14 q = g q := fun q hq => (hn_16 q (by omega)).trans (hfr_12 q hq)
  refine w_aload_n dX7_init_16 rfl 0 rfl ?_
  refine w_new (ci := 2) (T := TX2) (NF := 5) (fs := [.null, .null, .null, (.int (zI 0)), (.int (zI 0))]) rfl (fun _ h => (List.mem_cons_of_mem _ (List.mem_append_left _ (List.mem_append_left _ (List.mem_append_right _ h))))) tyX2 tyX2_ok (List.mem_of_getElem? (i := 8) rfl) (List.mem_of_getElem? (i := 9) rfl) (List.mem_of_getElem? (i := 10) rfl) (fun j hj => match j, hj with | 0, _ => rfl | 1, _ => rfl | 2, _ => rfl | 3, _ => rfl | 4, _ => rfl | (_ + 5), h => absurd h (by omega)) (Nat.le_of_ble_eq_true rfl) (Nat.le_of_ble_eq_true rfl) dX7_init_17 (fun g_20 he_21 hn_22 => ?_)
  have h0_23 : nO7 cy B g_20 b (.ref (B + (b + 1))) (.null) (.null) (.null) := nO7_fr h0_17 (fun q h1 h2 => hn_22 q (by omega))
  have ncol_24 : vCol cy B g_20 (b + 1) 1 0 1 (fun _ => 0) (fun _ => 0) (fun _ => 0) (fun _ _ => 0) := vCol_fr ncol_18 (fun q h1 h2 => hn_22 q (by omega))
  have hfr_25 : ∀ q, q < b → g_20 q = g q := fun q hq => (hn_22 q (by omega)).trans (hfr_19 q hq)
  have a11_26 : nO2 cy B g_20 (b + 11) (.null) (.null) (.null) (.int (zI 0)) (.int (zI 0)) := he_21
  refine w_dup dX7_init_20 rfl ?_
  refine w_aload_n dX7_init_21 rfl 0 rfl ?_
  refine w_get (i := 0) (T := TX7) (NF := 4) b (by first | omega | with_reducible rfl) h0_23 rfl (fun _ h => (List.mem_cons_of_mem _ (List.mem_append_left _ (List.mem_append_left _ (List.mem_append_left _ (List.mem_append_right _ h)))))) (by decide) (List.mem_of_getElem? (i := 7) rfl) rfl dX7_init_22 ?_
  refine w_ctor2 (As := [.ref (B + (b + 1))]) (rest := [.ref (B + (b + 11)), .ref (B + b)]) (n := 1) (k := (b + 11)) hao (c_X2_init (b := (b + 11)) (cb := (b + 1)) a11_26) gX7_init_X2_init rfl rfl rfl (List.mem_of_getElem? (i := 10) rfl) (List.mem_of_getElem? (i := 34) rfl) (List.mem_of_getElem? (i := 35) rfl) rfl (by decide +kernel) ⟨(Nat.le_of_ble_eq_true rfl), (Nat.le_of_ble_eq_true rfl)⟩ rfl (Nat.le_of_ble_eq_true rfl) ⟨(Nat.le_of_ble_eq_true rfl), (Nat.le_of_ble_eq_true rfl)⟩ dX7_init_25 rfl (fun g_27 hp_28 => ?_)
  obtain ⟨pX2_30, hf_29⟩ := hp_28
  have h0_31 : nO7 cy B g_27 b (.ref (B + (b + 1))) (.null) (.null) (.null) := nO7_fr h0_23 (fun q h1 h2 => hf_29 q (by omega))
  have ncol_32 : vCol cy B g_27 (b + 1) 1 0 1 (fun _ => 0) (fun _ => 0) (fun _ => 0) (fun _ _ => 0) := vCol_fr ncol_24 (fun q h1 h2 => hf_29 q (by omega))
  have hfr_33 : ∀ q, q < b → g_27 q = g q := fun q hq => (hf_29 q (by omega)).trans (hfr_25 q hq)
  have nnet_34 := pX2_30
  refine w_putF (i := 1) (T := TX7) (NF := 4) b (by first | omega | with_reducible rfl) h0_31 rfl (fun _ h => (List.mem_cons_of_mem _ (List.mem_append_left _ (List.mem_append_left _ (List.mem_append_left _ (List.mem_append_right _ h)))))) tyX7 tyX7_ok nmX7 (by decide) (List.mem_of_getElem? (i := 11) rfl) rfl hmn rfl rfl rfl (Nat.le_of_ble_eq_true rfl) dX7_init_28 (fun g_35 he_36 hn_37 => ?_)
  have h0_38 : nO7 cy B g_35 b (.ref (B + (b + 1))) (.ref (B + (b + 11))) (.null) (.null) := he_36
  have ncol_39 : vCol cy B g_35 (b + 1) 1 0 1 (fun _ => 0) (fun _ => 0) (fun _ => 0) (fun _ _ => 0) := vCol_fr ncol_32 (fun q h1 h2 => hn_37 q (by omega))
  have nnet_40 : vNet cy B g_35 (b + 11) (b + 1) (fun _ => 0) 0 0 (fun _ _ => 0) := vNet_fr nnet_34 (fun q h1 h2 => hn_37 q (by omega))
  have hfr_41 : ∀ q, q < b → g_35 q = g q := fun q hq => (hn_37 q (by omega)).trans (hfr_33 q hq)
  refine w_aload_n dX7_init_31 rfl 0 rfl ?_
  refine w_new (ci := 4) (T := TX4) (NF := 7) (fs := [.null, .null, (.long (zJ 0)), (.long (zJ 0)), (.int (zI 0)), (.int (zI 0)), (.int (zI 0))]) rfl (fun _ h => (List.mem_cons_of_mem _ (List.mem_append_left _ (List.mem_append_right _ h)))) tyX4 tyX4_ok (List.mem_of_getElem? (i := 12) rfl) (List.mem_of_getElem? (i := 13) rfl) (List.mem_of_getElem? (i := 14) rfl) (fun j hj => match j, hj with | 0, _ => rfl | 1, _ => rfl | 2, _ => rfl | 3, _ => rfl | 4, _ => rfl | 5, _ => rfl | 6, _ => rfl | (_ + 7), h => absurd h (by omega)) (Nat.le_of_ble_eq_true rfl) (Nat.le_of_ble_eq_true rfl) dX7_init_32 (fun g_42 he_43 hn_44 => ?_)
  have h0_45 : nO7 cy B g_42 b (.ref (B + (b + 1))) (.ref (B + (b + 11))) (.null) (.null) := nO7_fr h0_38 (fun q h1 h2 => hn_44 q (by omega))
  have ncol_46 : vCol cy B g_42 (b + 1) 1 0 1 (fun _ => 0) (fun _ => 0) (fun _ => 0) (fun _ _ => 0) := vCol_fr ncol_39 (fun q h1 h2 => hn_44 q (by omega))
  have nnet_47 : vNet cy B g_42 (b + 11) (b + 1) (fun _ => 0) 0 0 (fun _ _ => 0) := vNet_fr nnet_40 (fun q h1 h2 => hn_44 q (by omega))
  have hfr_48 : ∀ q, q < b → g_42 q = g q := fun q hq => (hn_44 q (by omega)).trans (hfr_41 q hq)
  have a22_49 : nO4 cy B g_42 (b + 22) (.null) (.null) (.long (zJ 0)) (.long (zJ 0)) (.int (zI 0)) (.int (zI 0)) (.int (zI 0)) := he_43
  refine w_dup dX7_init_35 rfl ?_
  refine w_aload_n dX7_init_36 rfl 0 rfl ?_
  refine w_get (i := 0) (T := TX7) (NF := 4) b (by first | omega | with_reducible rfl) h0_45 rfl (fun _ h => (List.mem_cons_of_mem _ (List.mem_append_left _ (List.mem_append_left _ (List.mem_append_left _ (List.mem_append_right _ h)))))) (by decide) (List.mem_of_getElem? (i := 7) rfl) rfl dX7_init_37 ?_
  refine w_aload_n dX7_init_40 rfl 0 rfl ?_
  refine w_get (i := 1) (T := TX7) (NF := 4) b (by first | omega | with_reducible rfl) h0_45 rfl (fun _ h => (List.mem_cons_of_mem _ (List.mem_append_left _ (List.mem_append_left _ (List.mem_append_left _ (List.mem_append_right _ h)))))) (by decide) (List.mem_of_getElem? (i := 11) rfl) rfl dX7_init_41 ?_
  refine w_ctor2 (As := [.ref (B + (b + 1)), .ref (B + (b + 11))]) (rest := [.ref (B + (b + 22)), .ref (B + b)]) (n := 2) (k := (b + 22)) hao (c_X4_init (b := (b + 22)) (cb := (b + 1)) (nb := (b + 11)) a22_49) gX7_init_X4_init rfl rfl rfl (List.mem_of_getElem? (i := 14) rfl) (List.mem_of_getElem? (i := 44) rfl) (List.mem_of_getElem? (i := 45) rfl) rfl (by decide +kernel) ⟨(Nat.le_of_ble_eq_true rfl), (Nat.le_of_ble_eq_true rfl)⟩ rfl (Nat.le_of_ble_eq_true rfl) ⟨(Nat.le_of_ble_eq_true rfl), (Nat.le_of_ble_eq_true rfl)⟩ dX7_init_44 rfl (fun g_50 hp_51 => ?_)
  obtain ⟨pX4_53, hf_52⟩ := hp_51
  have h0_54 : nO7 cy B g_50 b (.ref (B + (b + 1))) (.ref (B + (b + 11))) (.null) (.null) := nO7_fr h0_45 (fun q h1 h2 => hf_52 q (by omega))
  have ncol_55 : vCol cy B g_50 (b + 1) 1 0 1 (fun _ => 0) (fun _ => 0) (fun _ => 0) (fun _ _ => 0) := vCol_fr ncol_46 (fun q h1 h2 => hf_52 q (by omega))
  have nnet_56 : vNet cy B g_50 (b + 11) (b + 1) (fun _ => 0) 0 0 (fun _ _ => 0) := vNet_fr nnet_47 (fun q h1 h2 => hf_52 q (by omega))
  have hfr_57 : ∀ q, q < b → g_50 q = g q := fun q hq => (hf_52 q (by omega)).trans (hfr_48 q hq)
  have nrare_58 := pX4_53
  refine w_putF (i := 2) (T := TX7) (NF := 4) b (by first | omega | with_reducible rfl) h0_54 rfl (fun _ h => (List.mem_cons_of_mem _ (List.mem_append_left _ (List.mem_append_left _ (List.mem_append_left _ (List.mem_append_right _ h)))))) tyX7 tyX7_ok nmX7 (by decide) (List.mem_of_getElem? (i := 15) rfl) rfl hmn rfl rfl rfl (Nat.le_of_ble_eq_true rfl) dX7_init_47 (fun g_59 he_60 hn_61 => ?_)
  have h0_62 : nO7 cy B g_59 b (.ref (B + (b + 1))) (.ref (B + (b + 11))) (.ref (B + (b + 22))) (.null) := he_60
  have ncol_63 : vCol cy B g_59 (b + 1) 1 0 1 (fun _ => 0) (fun _ => 0) (fun _ => 0) (fun _ _ => 0) := vCol_fr ncol_55 (fun q h1 h2 => hn_61 q (by omega))
  have nnet_64 : vNet cy B g_59 (b + 11) (b + 1) (fun _ => 0) 0 0 (fun _ _ => 0) := vNet_fr nnet_56 (fun q h1 h2 => hn_61 q (by omega))
  have nrare_65 : vRare cy B g_59 (b + 22) (b + 1) (b + 11) 0 0 0 0 0 := vRare_fr nrare_58 (fun q h1 h2 => hn_61 q (by omega))
  have hfr_66 : ∀ q, q < b → g_59 q = g q := fun q hq => (hn_61 q (by omega)).trans (hfr_57 q hq)
  refine w_aload_n dX7_init_50 rfl 0 rfl ?_
  refine w_new (ci := 8) (T := TX8) (NF := 7) (fs := [.null, .null, .null, .null, (.int (zI 0)), (.int (zI 0)), (.int (zI 0))]) rfl (fun _ h => (List.mem_cons_of_mem _ (List.mem_append_right _ h))) tyX8 tyX8_ok (List.mem_of_getElem? (i := 16) rfl) (List.mem_of_getElem? (i := 17) rfl) (List.mem_of_getElem? (i := 18) rfl) (fun j hj => match j, hj with | 0, _ => rfl | 1, _ => rfl | 2, _ => rfl | 3, _ => rfl | 4, _ => rfl | 5, _ => rfl | 6, _ => rfl | (_ + 7), h => absurd h (by omega)) (Nat.le_of_ble_eq_true rfl) (Nat.le_of_ble_eq_true rfl) dX7_init_51 (fun g_67 he_68 hn_69 => ?_)
  have h0_70 : nO7 cy B g_67 b (.ref (B + (b + 1))) (.ref (B + (b + 11))) (.ref (B + (b + 22))) (.null) := nO7_fr h0_62 (fun q h1 h2 => hn_69 q (by omega))
  have ncol_71 : vCol cy B g_67 (b + 1) 1 0 1 (fun _ => 0) (fun _ => 0) (fun _ => 0) (fun _ _ => 0) := vCol_fr ncol_63 (fun q h1 h2 => hn_69 q (by omega))
  have nnet_72 : vNet cy B g_67 (b + 11) (b + 1) (fun _ => 0) 0 0 (fun _ _ => 0) := vNet_fr nnet_64 (fun q h1 h2 => hn_69 q (by omega))
  have nrare_73 : vRare cy B g_67 (b + 22) (b + 1) (b + 11) 0 0 0 0 0 := vRare_fr nrare_65 (fun q h1 h2 => hn_69 q (by omega))
  have hfr_74 : ∀ q, q < b → g_67 q = g q := fun q hq => (hn_69 q (by omega)).trans (hfr_66 q hq)
  have a23_75 : nO8 cy B g_67 (b + 23) (.null) (.null) (.null) (.null) (.int (zI 0)) (.int (zI 0)) (.int (zI 0)) := he_68
  refine w_dup dX7_init_54 rfl ?_
  refine w_aload_n dX7_init_55 rfl 0 rfl ?_
  refine w_get (i := 0) (T := TX7) (NF := 4) b (by first | omega | with_reducible rfl) h0_70 rfl (fun _ h => (List.mem_cons_of_mem _ (List.mem_append_left _ (List.mem_append_left _ (List.mem_append_left _ (List.mem_append_right _ h)))))) (by decide) (List.mem_of_getElem? (i := 7) rfl) rfl dX7_init_56 ?_
  refine w_aload_n dX7_init_59 rfl 0 rfl ?_
  refine w_get (i := 1) (T := TX7) (NF := 4) b (by first | omega | with_reducible rfl) h0_70 rfl (fun _ h => (List.mem_cons_of_mem _ (List.mem_append_left _ (List.mem_append_left _ (List.mem_append_left _ (List.mem_append_right _ h)))))) (by decide) (List.mem_of_getElem? (i := 11) rfl) rfl dX7_init_60 ?_
  refine w_ctor2 (As := [.ref (B + (b + 1)), .ref (B + (b + 11))]) (rest := [.ref (B + (b + 23)), .ref (B + b)]) (n := 2) (k := (b + 23)) hao (c_X8_init (b := (b + 23)) (cb := (b + 1)) (nb := (b + 11)) a23_75) gX7_init_X8_init rfl rfl rfl (List.mem_of_getElem? (i := 18) rfl) (List.mem_of_getElem? (i := 51) rfl) (List.mem_of_getElem? (i := 52) rfl) rfl (by decide +kernel) ⟨(Nat.le_of_ble_eq_true rfl), (Nat.le_of_ble_eq_true rfl)⟩ rfl (Nat.le_of_ble_eq_true rfl) ⟨(Nat.le_of_ble_eq_true rfl), (Nat.le_of_ble_eq_true rfl)⟩ dX7_init_63 rfl (fun g_76 hp_77 => ?_)
  obtain ⟨pX8_79, hf_78⟩ := hp_77
  have h0_80 : nO7 cy B g_76 b (.ref (B + (b + 1))) (.ref (B + (b + 11))) (.ref (B + (b + 22))) (.null) := nO7_fr h0_70 (fun q h1 h2 => hf_78 q (by omega))
  have ncol_81 : vCol cy B g_76 (b + 1) 1 0 1 (fun _ => 0) (fun _ => 0) (fun _ => 0) (fun _ _ => 0) := vCol_fr ncol_71 (fun q h1 h2 => hf_78 q (by omega))
  have nnet_82 : vNet cy B g_76 (b + 11) (b + 1) (fun _ => 0) 0 0 (fun _ _ => 0) := vNet_fr nnet_72 (fun q h1 h2 => hf_78 q (by omega))
  have nrare_83 : vRare cy B g_76 (b + 22) (b + 1) (b + 11) 0 0 0 0 0 := vRare_fr nrare_73 (fun q h1 h2 => hf_78 q (by omega))
  have hfr_84 : ∀ q, q < b → g_76 q = g q := fun q hq => (hf_78 q (by omega)).trans (hfr_74 q hq)
  have nsum_85 := pX8_79
  refine w_putF (i := 3) (T := TX7) (NF := 4) b (by first | omega | with_reducible rfl) h0_80 rfl (fun _ h => (List.mem_cons_of_mem _ (List.mem_append_left _ (List.mem_append_left _ (List.mem_append_left _ (List.mem_append_right _ h)))))) tyX7 tyX7_ok nmX7 (by decide) (List.mem_of_getElem? (i := 19) rfl) rfl hmn rfl rfl rfl (Nat.le_of_ble_eq_true rfl) dX7_init_66 (fun g_86 he_87 hn_88 => ?_)
  have h0_89 : nO7 cy B g_86 b (.ref (B + (b + 1))) (.ref (B + (b + 11))) (.ref (B + (b + 22))) (.ref (B + (b + 23))) := he_87
  have ncol_90 : vCol cy B g_86 (b + 1) 1 0 1 (fun _ => 0) (fun _ => 0) (fun _ => 0) (fun _ _ => 0) := vCol_fr ncol_81 (fun q h1 h2 => hn_88 q (by omega))
  have nnet_91 : vNet cy B g_86 (b + 11) (b + 1) (fun _ => 0) 0 0 (fun _ _ => 0) := vNet_fr nnet_82 (fun q h1 h2 => hn_88 q (by omega))
  have nrare_92 : vRare cy B g_86 (b + 22) (b + 1) (b + 11) 0 0 0 0 0 := vRare_fr nrare_83 (fun q h1 h2 => hn_88 q (by omega))
  have nsum_93 : vSum cy B g_86 (b + 23) (b + 1) (b + 11) (fun _ => 0) (fun _ => 0) 0 0 0 := vSum_fr nsum_85 (fun q h1 h2 => hn_88 q (by omega))
  have hfr_94 : ∀ q, q < b → g_86 q = g q := fun q hq => (hn_88 q (by omega)).trans (hfr_84 q hq)
  exact w_vret dX7_init_69 rfl ⟨⟨1, 0, 0, 0, fun _ => 0, fun _ => 0, fun _ => 0, fun _ _ => 0, fun _ => 0, 0, fun _ _ => 0, 0, 0, 0, 0, fun _ => 0, fun _ => 0, 0, 0, h0_89, ncol_90, nnet_91, nrare_92, nsum_93, (fun j hj => absurd hj (Nat.not_lt_zero j)), ⟨by omega, by omega⟩, ⟨⟨by omega, by omega⟩, fun h => by omega, fun h => by omega⟩, ⟨⟨by omega, by omega⟩, fun h => by omega⟩, ⟨⟨by omega, by omega⟩, fun h => by omega⟩⟩, hfr_94⟩
