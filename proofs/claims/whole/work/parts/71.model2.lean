/-! ===== the model: its tables ===== -/
theorem SO_co {c : List Co} (hc : cok c) : (0 ≤ coP c ∧ coP c ≤ 1152921504606846976) ∧ (0 ≤ coS c ∧ coS c ≤ 540) := by
  obtain ⟨a1, a2, a3, a4, a5⟩ := co_bd hc c.length (Nat.le_refl _)
  have h1 := hc.1
  have h2 := pow_60 (k := tsum (coL c)) (coL_S hc).2.1
  have e : clL (coT c) (coV c) 0 c.length = coL c := rfl
  rw [e] at a5
  unfold coP coS
  omega
theorem tc_posR {c : List Co} (hc : cok c) : 0 < tc (coL c) (coR c) := by
  obtain ⟨l, e⟩ := tb_head (coL_S hc).2.2.1
  rw [tc_len, e, List.length_cons]
  omega
set_option maxHeartbeats 4000000 in
set_option maxRecDepth 100000 in
theorem c_X11_fillsLeast {l : Launch} {D : va_G} {cy : Nat → ClassId} {B N : Nat} {g : Nat → va_E} {cg le sp va tn aw mw fw ls gs sn sw kr : Int} {Nw Tb : Int → Int} {k : Nat} {c : List Co} {u : List Nat} {f left : Nat} (hm : vM cy B g 141 cg le sp va ((k : Nat) : Int) tn aw mw fw ls gs sn sw kr) (hnow : vIA cy B g 142 49 Nw) (htb : vIA cy B g 147 5 Tb) (hN : 160 ≤ N) (hmc : MC Nw k c) (hc : cok c) (hf : f ≤ c.length) (hleft : left ≤ tsum (clL (coT c) (coV c) f (c.length - f))) (hul : u.length = c.length) (hTu : ∀ i : Nat, i < f → Tb ((i : Nat) : Int) = ((u.getD i 0 : Nat) : Int)) : CTv l yX11_fillsLeast wsX11_fillsLeast (rmo 2 45) D cy B N g [.ref (B + 141), .int (zI ((f : Nat) : Int)), .int (zI ((left : Nat) : Int))] (fun g' => ∃ Tb1 : Int → Int, vIA cy B g' 147 5 Tb1 ∧ (TR c.length Tb1 (fin c u f left)) ∧ (∀ q, q ≠ 147 → g' q = g q)) := by
  refine WW_of (cc := cX11_fillsLeast) (maxL := 7) (ret := none) (own := RX11) (by decide) rfl rfl (Nat.le_of_ble_eq_true rfl) rfl ?_
  intro pp ee ss mm bl me co hmn
  have hfr_0 : ∀ q, q ≠ 147 → g q = g q := fun _ _ => rfl
  have hk3 := hmc.1
  have hfl := fin_len (left := left) hul hf
  refine w_iload_n dX11_fillsLeast_0 rfl 2 rfl ?_
  refine w_istore_n [(3, .int (zI ((left : Nat) : Int))), (0, .ref (B + 141)), (1, .int (zI ((f : Nat) : Int))), (2, .int (zI ((left : Nat) : Int)))] dX11_fillsLeast_1 rfl (by decide) rfl ?_
  refine w_iload_n dX11_fillsLeast_2 rfl 2 rfl ?_
  refine w_istore [(4, .int (zI ((f : Nat) : Int))), (3, .int (zI ((left : Nat) : Int))), (0, .ref (B + 141)), (1, .int (zI ((f : Nat) : Int))), (2, .int (zI ((left : Nat) : Int)))] dX11_fillsLeast_3 (by decide) rfl ?_
  refine w_sub [(0, .ref (B + 141)), (3, .int (zI ((left : Nat) : Int))), (4, .int (zI ((f : Nat) : Int)))] [2, 1, 0] rfl ?_
  refine w_lv (lv' := [(0, .ref (B + 141)), (3, .int (zI ((left : Nat) : Int))), (4, .int (zI ((f : Nat) : Int)))]) (lc_s (lc_i (by first | omega | with_reducible rfl) (lc_i (by first | omega | with_reducible rfl) rfl))) ?_
  refine w_loop4 (fun (j : Nat) (r : Nat) (Tbj : Int → Int) (gl_1 : (Nat → va_E)) => vM cy B gl_1 141 cg le sp va ((k : Nat) : Int) tn aw mw fw ls gs sn sw kr ∧ vIA cy B gl_1 142 49 Nw ∧ vIA cy B gl_1 147 5 Tbj ∧ (∀ q, q ≠ 147 → gl_1 q = g q) ∧ (f ≤ j ∧ j ≤ c.length) ∧ (fin c u f left).drop j = least (clL (coT c) (coV c) j (c.length - j)) r ∧ r ≤ tsum (clL (coT c) (coV c) j (c.length - j)) ∧ (∀ i : Nat, i < j → Tbj ((i : Nat) : Int) = (((fin c u f left).getD i 0 : Nat) : Int))) (fun (j : Nat) (r : Nat) (Tbj : Int → Int) (gl_1 : (Nat → va_E)) => c.length - j) (fun (j : Nat) (r : Nat) (Tbj : Int → Int) (gl_1 : (Nat → va_E)) => gl_1) (fun (j : Nat) (r : Nat) (Tbj : Int → Int) (gl_1 : (Nat → va_E)) => [(0, .ref (B + 141)), (3, .int (zI ((r : Nat) : Int))), (4, .int (zI ((j : Nat) : Int)))]) ?_ f left Tb g ⟨hm, hnow, htb, hfr_0, (by first | omega | with_reducible rfl), (fin_0 hul hf).1, hleft, (fin_up hul hf hTu)⟩
  rintro j r Tbj gl_1 ⟨hm_2, hnow_3, htb_4, hfr_5, hj, hd, hr, hp⟩ ih_5
  refine w_iload dX11_fillsLeast_5 2 rfl ?_
  refine w_aload_n dX11_fillsLeast_7 rfl 0 rfl ?_
  refine w_aload_n dX11_fillsLeast_8 rfl 0 rfl ?_
  refine w_get (i := 10) (T := TX11) (NF := 32) 141 (by first | omega | with_reducible rfl) hm_2 rfl (fun _ h => (List.mem_cons_of_mem _ (List.mem_append_right _ h))) (by decide) (List.mem_of_getElem? (i := 1) rfl) rfl dX11_fillsLeast_9 ?_
  refine w_calli (As := [.int (zI ((k : Nat) : Int))]) (rest := [.int (zI ((j : Nat) : Int))]) (n := 1) (c_X11_columns (k := k) hm_2 hnow_3 (by first | omega | with_reducible rfl) (by first | omega | with_reducible rfl)) gX11_fillsLeast_X11_columns rfl rfl rfl (by decide +kernel) ⟨Nat.le_of_ble_eq_true rfl, Nat.le_of_ble_eq_true rfl⟩ rfl (by first | omega | with_reducible rfl) hm_2 rfl (Nat.le_of_ble_eq_true rfl) ⟨Nat.zero_le _, Nat.zero_le _⟩ dX11_fillsLeast_12 rfl (fun g_6 hp_7 => ?_)
  subst g_6
  refine w_icmp_ge 99 dX11_fillsLeast_15 (by decide) (by first | omega | with_reducible rfl) (by first | omega | with_reducible rfl) (fun c_15 => ?_) (fun c_15 => ?_)
  · have hjn : j = c.length := by omega
    exact w_vret dX11_fillsLeast_99 rfl ⟨Tbj, htb_4, (TR_of hfl (fun i hi => hp i (by omega))), hfr_5⟩
  · have hts60 := okT_ts (co_okT hc) (m := c.length - j) (j := j) (by omega)
    have hfs := fin_step hfl (show j < c.length by omega) hd
    have htj := ts_c (T := coT c) (V := coV c) (show j < c.length by omega)
    refine w_iconst dX11_fillsLeast_18 ?_
    refine w_istore [(5, .int (zI 0)), (0, .ref (B + 141)), (3, .int (zI ((r : Nat) : Int))), (4, .int (zI ((j : Nat) : Int)))] dX11_fillsLeast_19 (by decide) rfl ?_
    refine w_iload dX11_fillsLeast_21 3 rfl ?_
    refine w_iconst dX11_fillsLeast_23 ?_
    refine w_iadd dX11_fillsLeast_24 ?_
    refine w_istore [(6, .int (zI (((j : Nat) : Int) + 1))), (5, .int (zI 0)), (0, .ref (B + 141)), (3, .int (zI ((r : Nat) : Int))), (4, .int (zI ((j : Nat) : Int)))] dX11_fillsLeast_25 (by decide) rfl ?_
    refine w_sub [(0, .ref (B + 141)), (3, .int (zI ((r : Nat) : Int))), (4, .int (zI ((j : Nat) : Int))), (5, .int (zI 0)), (6, .int (zI (((j : Nat) : Int) + 1)))] [2, 3, 4, 1, 0] rfl ?_
    refine w_lv (lv' := [(0, .ref (B + 141)), (3, .int (zI ((r : Nat) : Int))), (4, .int (zI ((j : Nat) : Int))), (5, .int (zI ((0 : Nat) : Int))), (6, .int (zI (((j + 1) : Nat) : Int)))]) (lc_s (lc_s (lc_s (lc_i (by first | omega | with_reducible rfl) (lc_i (by first | omega | with_reducible rfl) rfl))))) ?_
    refine w_loop2 (fun (b : Nat) (m : Nat) => (j + 1 ≤ m ∧ m ≤ c.length) ∧ b + tsum (clL (coT c) (coV c) m (c.length - m)) = tsum (clL (coT c) (coV c) (j + 1) (c.length - (j + 1)))) (fun (b : Nat) (m : Nat) => c.length - m) (fun (b : Nat) (m : Nat) => gl_1) (fun (b : Nat) (m : Nat) => [(0, .ref (B + 141)), (3, .int (zI ((r : Nat) : Int))), (4, .int (zI ((j : Nat) : Int))), (5, .int (zI ((b : Nat) : Int))), (6, .int (zI ((m : Nat) : Int)))]) ?_ 0 (j + 1) ⟨(by first | omega | with_reducible rfl), (by rw [Nat.zero_add])⟩
    rintro b m ⟨hm9, hb9⟩ ih_27
    refine w_iload dX11_fillsLeast_27 4 rfl ?_
    refine w_aload_n dX11_fillsLeast_29 rfl 0 rfl ?_
    refine w_aload_n dX11_fillsLeast_30 rfl 0 rfl ?_
    refine w_get (i := 10) (T := TX11) (NF := 32) 141 (by first | omega | with_reducible rfl) hm_2 rfl (fun _ h => (List.mem_cons_of_mem _ (List.mem_append_right _ h))) (by decide) (List.mem_of_getElem? (i := 1) rfl) rfl dX11_fillsLeast_31 ?_
    refine w_calli (As := [.int (zI ((k : Nat) : Int))]) (rest := [.int (zI ((m : Nat) : Int))]) (n := 1) (c_X11_columns (k := k) hm_2 hnow_3 (by first | omega | with_reducible rfl) (by first | omega | with_reducible rfl)) gX11_fillsLeast_X11_columns rfl rfl rfl (by decide +kernel) ⟨Nat.le_of_ble_eq_true rfl, Nat.le_of_ble_eq_true rfl⟩ rfl (by first | omega | with_reducible rfl) hm_2 rfl (Nat.le_of_ble_eq_true rfl) ⟨Nat.zero_le _, Nat.zero_le _⟩ dX11_fillsLeast_34 rfl (fun g_8 hp_9 => ?_)
    subst g_8
    refine w_icmp_ge 62 dX11_fillsLeast_37 (by decide) (by first | omega | with_reducible rfl) (by first | omega | with_reducible rfl) (fun c_37 => ?_) (fun c_37 => ?_)
    · have hme := ts_end (T := coT c) (V := coV c) (show m = c.length by omega)
      have hcj := hc.2 ((j : Nat) : Int) (by omega) (by omega)
      refine w_aload_n dX11_fillsLeast_62 rfl 0 rfl ?_
      refine w_get (i := 9) (T := TX11) (NF := 32) 141 (by first | omega | with_reducible rfl) hm_2 rfl (fun _ h => (List.mem_cons_of_mem _ (List.mem_append_right _ h))) (by decide) (List.mem_of_getElem? (i := 2) rfl) rfl dX11_fillsLeast_63 ?_
      refine w_iload dX11_fillsLeast_66 2 rfl ?_
      refine w_iload_n dX11_fillsLeast_68 rfl 1 rfl ?_
      refine w_iload dX11_fillsLeast_69 3 rfl ?_
      refine w_icmp_le 81 dX11_fillsLeast_71 (by decide) (by first | omega | with_reducible rfl) (by first | omega | with_reducible rfl) (fun c_71 => ?_) (fun c_71 => ?_)
      · refine w_iconst dX11_fillsLeast_81 ?_
        refine w_as (st' := [.int (zI (((lo (clL (coT c) (coV c) (j + 1) (c.length - (j + 1))) r) : Nat) : Int)), .int (zI ((j : Nat) : Int)), .ref (B + 147)]) (sc_i (by unfold lo; omega) rfl) ?_
        refine w_iast 147 (by first | omega | with_reducible rfl) htb_4 (by first | omega | with_reducible rfl) dX11_fillsLeast_82 (fun g_10 he_11 hn_12 => ?_)
        have hm_13 : vM cy B g_10 141 cg le sp va ((k : Nat) : Int) tn aw mw fw ls gs sn sw kr := vM_fr hm_2 (fun q h1 h2 => hn_12 q (by omega))
        have hnow_14 : vIA cy B g_10 142 49 Nw := vIA_fr hnow_3 (fun q h1 h2 => hn_12 q (by omega))
        have htb_15 : vIA cy B g_10 147 5 (uZ Tbj ((j : Nat) : Int) (((lo (clL (coT c) (coV c) (j + 1) (c.length - (j + 1))) r) : Nat) : Int)) := he_11
        have hfr_16 : ∀ q, q ≠ 147 → g_10 q = g q := fun q hq => (hn_12 q (by omega)).trans (hfr_5 q hq)
        refine w_iload_n dX11_fillsLeast_83 rfl 1 rfl ?_
        refine w_aload_n dX11_fillsLeast_84 rfl 0 rfl ?_
        refine w_get (i := 9) (T := TX11) (NF := 32) 141 (by first | omega | with_reducible rfl) hm_13 rfl (fun _ h => (List.mem_cons_of_mem _ (List.mem_append_right _ h))) (by decide) (List.mem_of_getElem? (i := 2) rfl) rfl dX11_fillsLeast_85 ?_
        refine w_iload dX11_fillsLeast_88 2 rfl ?_
        refine w_iald 147 (by first | omega | with_reducible rfl) htb_15 (by first | omega | with_reducible rfl) dX11_fillsLeast_90 ?_
        refine w_as (st' := [.int (zI (((lo (clL (coT c) (coV c) (j + 1) (c.length - (j + 1))) r) : Nat) : Int)), .int (zI ((r : Nat) : Int))]) (sc_i (by rw [uZ_same]) rfl) ?_
        refine w_isub dX11_fillsLeast_91 ?_
        refine w_istore_n [(3, .int (zI (((r : Nat) : Int) - (((lo (clL (coT c) (coV c) (j + 1) (c.length - (j + 1))) r) : Nat) : Int)))), (0, .ref (B + 141)), (4, .int (zI ((j : Nat) : Int))), (5, .int (zI ((b : Nat) : Int))), (6, .int (zI ((m : Nat) : Int)))] dX11_fillsLeast_92 rfl (by decide) rfl ?_
        refine w_iinc 2 [(4, .int (zI (((j : Nat) : Int) + 1))), (3, .int (zI (((r : Nat) : Int) - (((lo (clL (coT c) (coV c) (j + 1) (c.length - (j + 1))) r) : Nat) : Int)))), (0, .ref (B + 141)), (5, .int (zI ((b : Nat) : Int))), (6, .int (zI ((m : Nat) : Int)))] dX11_fillsLeast_93 rfl (by decide) rfl ?_
        refine w_goto 5 dX11_fillsLeast_96 (by decide) ?_
        refine w_sub [(0, .ref (B + 141)), (3, .int (zI (((r : Nat) : Int) - (((lo (clL (coT c) (coV c) (j + 1) (c.length - (j + 1))) r) : Nat) : Int)))), (4, .int (zI (((j : Nat) : Int) + 1)))] [2, 1, 0] rfl ?_
        refine w_lv (lv' := [(0, .ref (B + 141)), (3, .int (zI (((r - (lo (clL (coT c) (coV c) (j + 1) (c.length - (j + 1))) r)) : Nat) : Int))), (4, .int (zI (((j + 1) : Nat) : Int)))]) (lc_s (lc_i (by unfold lo at *; omega) (lc_i (by first | omega | with_reducible rfl) rfl))) ?_
        exact ih_5 (j + 1) (r - (lo (clL (coT c) (coV c) (j + 1) (c.length - (j + 1))) r)) (uZ Tbj ((j : Nat) : Int) (((lo (clL (coT c) (coV c) (j + 1) (c.length - (j + 1))) r) : Nat) : Int)) g_10 ⟨hm_13, hnow_14, htb_15, hfr_16, (by first | omega | with_reducible rfl), hfs.2, (by unfold lo; omega), (fin_st hp (by rw [hfs.1]))⟩ (by first | omega | with_reducible rfl)
      · refine w_iload_n dX11_fillsLeast_74 rfl 1 rfl ?_
        refine w_iload dX11_fillsLeast_75 3 rfl ?_
        refine w_isub dX11_fillsLeast_77 ?_
        refine w_goto 82 dX11_fillsLeast_78 (by decide) ?_
        refine w_as (st' := [.int (zI (((lo (clL (coT c) (coV c) (j + 1) (c.length - (j + 1))) r) : Nat) : Int)), .int (zI ((j : Nat) : Int)), .ref (B + 147)]) (sc_i (by unfold lo; omega) rfl) ?_
        refine w_iast 147 (by first | omega | with_reducible rfl) htb_4 (by first | omega | with_reducible rfl) dX11_fillsLeast_82 (fun g_17 he_18 hn_19 => ?_)
        have hm_20 : vM cy B g_17 141 cg le sp va ((k : Nat) : Int) tn aw mw fw ls gs sn sw kr := vM_fr hm_2 (fun q h1 h2 => hn_19 q (by omega))
        have hnow_21 : vIA cy B g_17 142 49 Nw := vIA_fr hnow_3 (fun q h1 h2 => hn_19 q (by omega))
        have htb_22 : vIA cy B g_17 147 5 (uZ Tbj ((j : Nat) : Int) (((lo (clL (coT c) (coV c) (j + 1) (c.length - (j + 1))) r) : Nat) : Int)) := he_18
        have hfr_23 : ∀ q, q ≠ 147 → g_17 q = g q := fun q hq => (hn_19 q (by omega)).trans (hfr_5 q hq)
        refine w_iload_n dX11_fillsLeast_83 rfl 1 rfl ?_
        refine w_aload_n dX11_fillsLeast_84 rfl 0 rfl ?_
        refine w_get (i := 9) (T := TX11) (NF := 32) 141 (by first | omega | with_reducible rfl) hm_20 rfl (fun _ h => (List.mem_cons_of_mem _ (List.mem_append_right _ h))) (by decide) (List.mem_of_getElem? (i := 2) rfl) rfl dX11_fillsLeast_85 ?_
        refine w_iload dX11_fillsLeast_88 2 rfl ?_
        refine w_iald 147 (by first | omega | with_reducible rfl) htb_22 (by first | omega | with_reducible rfl) dX11_fillsLeast_90 ?_
        refine w_as (st' := [.int (zI (((lo (clL (coT c) (coV c) (j + 1) (c.length - (j + 1))) r) : Nat) : Int)), .int (zI ((r : Nat) : Int))]) (sc_i (by rw [uZ_same]) rfl) ?_
        refine w_isub dX11_fillsLeast_91 ?_
        refine w_istore_n [(3, .int (zI (((r : Nat) : Int) - (((lo (clL (coT c) (coV c) (j + 1) (c.length - (j + 1))) r) : Nat) : Int)))), (0, .ref (B + 141)), (4, .int (zI ((j : Nat) : Int))), (5, .int (zI ((b : Nat) : Int))), (6, .int (zI ((m : Nat) : Int)))] dX11_fillsLeast_92 rfl (by decide) rfl ?_
        refine w_iinc 2 [(4, .int (zI (((j : Nat) : Int) + 1))), (3, .int (zI (((r : Nat) : Int) - (((lo (clL (coT c) (coV c) (j + 1) (c.length - (j + 1))) r) : Nat) : Int)))), (0, .ref (B + 141)), (5, .int (zI ((b : Nat) : Int))), (6, .int (zI ((m : Nat) : Int)))] dX11_fillsLeast_93 rfl (by decide) rfl ?_
        refine w_goto 5 dX11_fillsLeast_96 (by decide) ?_
        refine w_sub [(0, .ref (B + 141)), (3, .int (zI (((r : Nat) : Int) - (((lo (clL (coT c) (coV c) (j + 1) (c.length - (j + 1))) r) : Nat) : Int)))), (4, .int (zI (((j : Nat) : Int) + 1)))] [2, 1, 0] rfl ?_
        refine w_lv (lv' := [(0, .ref (B + 141)), (3, .int (zI (((r - (lo (clL (coT c) (coV c) (j + 1) (c.length - (j + 1))) r)) : Nat) : Int))), (4, .int (zI (((j + 1) : Nat) : Int)))]) (lc_s (lc_i (by unfold lo at *; omega) (lc_i (by first | omega | with_reducible rfl) rfl))) ?_
        exact ih_5 (j + 1) (r - (lo (clL (coT c) (coV c) (j + 1) (c.length - (j + 1))) r)) (uZ Tbj ((j : Nat) : Int) (((lo (clL (coT c) (coV c) (j + 1) (c.length - (j + 1))) r) : Nat) : Int)) g_17 ⟨hm_20, hnow_21, htb_22, hfr_23, (by first | omega | with_reducible rfl), hfs.2, (by unfold lo; omega), (fin_st hp (by rw [hfs.1]))⟩ (by first | omega | with_reducible rfl)
    · have hcm := hc.2 ((m : Nat) : Int) (by omega) (by omega)
      refine w_iload dX11_fillsLeast_40 3 rfl ?_
      refine w_aload_n dX11_fillsLeast_42 rfl 0 rfl ?_
      refine w_aload_n dX11_fillsLeast_43 rfl 0 rfl ?_
      refine w_get (i := 10) (T := TX11) (NF := 32) 141 (by first | omega | with_reducible rfl) hm_2 rfl (fun _ h => (List.mem_cons_of_mem _ (List.mem_append_right _ h))) (by decide) (List.mem_of_getElem? (i := 1) rfl) rfl dX11_fillsLeast_44 ?_
      refine w_iload dX11_fillsLeast_47 4 rfl ?_
      refine w_iconst dX11_fillsLeast_49 ?_
      refine w_calli (As := [.int (zI ((k : Nat) : Int)), .int (zI ((m : Nat) : Int)), .int (zI 0)]) (rest := [.int (zI ((b : Nat) : Int))]) (n := 3) (c_X11_of0 (k := k) hm_2 hnow_3 (by first | omega | with_reducible rfl) (by first | omega | with_reducible rfl) (by first | omega | with_reducible rfl)) gX11_fillsLeast_X11_of rfl rfl rfl (by decide +kernel) ⟨Nat.le_of_ble_eq_true rfl, Nat.le_of_ble_eq_true rfl⟩ rfl (by first | omega | with_reducible rfl) hm_2 rfl (Nat.le_of_ble_eq_true rfl) ⟨Nat.zero_le _, Nat.zero_le _⟩ dX11_fillsLeast_50 rfl (fun g_24 hp_25 => ?_)
      subst g_24
      refine w_iadd dX11_fillsLeast_53 ?_
      refine w_istore [(5, .int (zI (((b : Nat) : Int) + (coT c ((m : Nat) : Int))))), (0, .ref (B + 141)), (3, .int (zI ((r : Nat) : Int))), (4, .int (zI ((j : Nat) : Int))), (6, .int (zI ((m : Nat) : Int)))] dX11_fillsLeast_54 (by decide) rfl ?_
      refine w_iinc 4 [(6, .int (zI (((m : Nat) : Int) + 1))), (5, .int (zI (((b : Nat) : Int) + (coT c ((m : Nat) : Int))))), (0, .ref (B + 141)), (3, .int (zI ((r : Nat) : Int))), (4, .int (zI ((j : Nat) : Int)))] dX11_fillsLeast_56 rfl (by decide) rfl ?_
      refine w_goto 27 dX11_fillsLeast_59 (by decide) ?_
      refine w_sub [(0, .ref (B + 141)), (3, .int (zI ((r : Nat) : Int))), (4, .int (zI ((j : Nat) : Int))), (5, .int (zI (((b : Nat) : Int) + (coT c ((m : Nat) : Int))))), (6, .int (zI (((m : Nat) : Int) + 1)))] [2, 3, 4, 1, 0] rfl ?_
      refine w_lv (lv' := [(0, .ref (B + 141)), (3, .int (zI ((r : Nat) : Int))), (4, .int (zI ((j : Nat) : Int))), (5, .int (zI (((b + (coT c ((m : Nat) : Int)).toNat) : Nat) : Int))), (6, .int (zI (((m + 1) : Nat) : Int)))]) (lc_s (lc_s (lc_s (lc_i (by first | omega | with_reducible rfl) (lc_i (by first | omega | with_reducible rfl) rfl))))) ?_
      exact ih_27 (b + (coT c ((m : Nat) : Int)).toNat) (m + 1) ⟨(by first | omega | with_reducible rfl), (by rw [ts_c (show m < c.length by omega)] at hb9; omega)⟩ (by first | omega | with_reducible rfl)

set_option maxHeartbeats 4000000 in
set_option maxRecDepth 100000 in
theorem c_X11_first {l : Launch} {D : va_G} {cy : Nat → ClassId} {B N : Nat} {g : Nat → va_E} {cg le sp va o0 tn aw mw fw ls gs sn sw kr : Int} {Nw Tb : Int → Int} {k : Nat} {c : List Co} (hm : vM cy B g 141 cg le sp va o0 tn aw mw fw ls gs sn sw kr) (hnow : vIA cy B g 142 49 Nw) (htb : vIA cy B g 147 5 Tb) (hN : 160 ≤ N) (hmc : MC Nw k c) (hc : cok c) : CTv l yX11_first wsX11_first (rmo 3 71) D cy B N g [.ref (B + 141), .int (zI ((k : Nat) : Int))] (fun g' => ∃ Tb1 : Int → Int, vM cy B g' 141 cg le sp va ((k : Nat) : Int) tn aw mw fw ls gs sn sw kr ∧ vIA cy B g' 147 5 Tb1 ∧ (TR c.length Tb1 (least (coL c) (coR c))) ∧ (∀ q, (q ≠ 141 ∧ q ≠ 147) → g' q = g q)) := by
  refine WW_of (cc := cX11_first) (maxL := 2) (ret := none) (own := RX11) (by decide) rfl rfl (Nat.le_of_ble_eq_true rfl) rfl ?_
  intro pp ee ss mm bl me co hmn
  have hfr_0 : ∀ q, (q ≠ 141 ∧ q ≠ 147) → g q = g q := fun _ _ => rfl
  refine w_aload_n dX11_first_0 rfl 0 rfl ?_
  refine w_iload_n dX11_first_1 rfl 1 rfl ?_
  refine w_put (i := 10) (T := TX11) (NF := 32) 141 (by first | omega | with_reducible rfl) hm rfl (fun _ h => (List.mem_cons_of_mem _ (List.mem_append_right _ h))) tyX11 tyX11_ok nmX11 (by decide) (List.mem_of_getElem? (i := 1) rfl) rfl rfl rfl (Nat.le_of_ble_eq_true rfl) dX11_first_2 (fun g_1 he_2 hn_3 => ?_)
  have hm_4 : vM cy B g_1 141 cg le sp va ((k : Nat) : Int) tn aw mw fw ls gs sn sw kr := he_2
  have hnow_5 : vIA cy B g_1 142 49 Nw := vIA_fr hnow (fun q h1 h2 => hn_3 q (by omega))
  have htb_6 : vIA cy B g_1 147 5 Tb := vIA_fr htb (fun q h1 h2 => hn_3 q (by omega))
  have hfr_7 : ∀ q, (q ≠ 141 ∧ q ≠ 147) → g_1 q = g q := fun q hq => (hn_3 q (by omega)).trans (hfr_0 q hq)
  refine w_aload_n dX11_first_5 rfl 0 rfl ?_
  refine w_iconst dX11_first_6 ?_
  refine w_aload_n dX11_first_7 rfl 0 rfl ?_
  refine w_iload_n dX11_first_8 rfl 1 rfl ?_
  refine w_iconst dX11_first_9 ?_
  refine w_calli (As := [.int (zI ((k : Nat) : Int)), .int (zI 1)]) (rest := [.int (zI 0), .ref (B + 141)]) (n := 2) (c_X11_total1 (k := k) hm_4 hnow_5 (by first | omega | with_reducible rfl) (by first | omega | with_reducible rfl)) gX11_first_X11_total rfl rfl rfl (by decide +kernel) ⟨Nat.le_of_ble_eq_true rfl, Nat.le_of_ble_eq_true rfl⟩ rfl (by first | omega | with_reducible rfl) hm_4 rfl (Nat.le_of_ble_eq_true rfl) ⟨Nat.zero_le _, Nat.zero_le _⟩ dX11_first_10 rfl (fun g_8 hp_9 => ?_)
  subst g_8
  refine w_as (st' := [.int (zI ((coR c : Nat) : Int)), .int (zI ((0 : Nat) : Int)), .ref (B + 141)]) (sc_i (coR_z hc) (sc_i rfl rfl)) ?_
  refine w_callv (As := [.int (zI ((0 : Nat) : Int)), .int (zI ((coR c : Nat) : Int))]) (rest := []) (n := 2) (c_X11_fillsLeast (f := 0) (left := (coR c)) (u := (List.replicate c.length 0)) hm_4 hnow_5 htb_6 (by first | omega | with_reducible rfl) (by first | omega | with_reducible rfl) (by first | omega | with_reducible rfl) (by first | omega | with_reducible rfl) (coL_S hc).2.2.1 List.length_replicate (fun i h => absurd h (Nat.not_lt_zero _))) gX11_first_X11_fillsLeast rfl rfl rfl (by decide +kernel) ⟨Nat.le_of_ble_eq_true rfl, Nat.le_of_ble_eq_true rfl⟩ rfl (by first | omega | with_reducible rfl) hm_4 rfl (Nat.le_of_ble_eq_true rfl) ⟨Nat.zero_le _, Nat.zero_le _⟩ dX11_first_13 rfl (fun g_10 hp_11 => ?_)
  obtain ⟨Tb1_12, htb_13, hT9, hf_14⟩ := hp_11
  have hm_15 : vM cy B g_10 141 cg le sp va ((k : Nat) : Int) tn aw mw fw ls gs sn sw kr := vM_fr hm_4 (fun q h1 h2 => hf_14 q (by omega))
  have hnow_16 : vIA cy B g_10 142 49 Nw := vIA_fr hnow_5 (fun q h1 h2 => hf_14 q (by omega))
  have hfr_17 : ∀ q, (q ≠ 141 ∧ q ≠ 147) → g_10 q = g q := fun q hq => (hf_14 q (by omega)).trans (hfr_7 q hq)
  exact w_vret dX11_first_16 rfl ⟨Tb1_12, hm_15, htb_13, hT9, hfr_17⟩

set_option maxHeartbeats 4000000 in
set_option maxRecDepth 100000 in
theorem c_X11_next {l : Launch} {D : va_G} {cy : Nat → ClassId} {B N : Nat} {g : Nat → va_E} {cg le sp va tn aw mw fw ls gs sn sw kr : Int} {Nw Tb : Int → Int} {k : Nat} {c : List Co} {u : List Nat} (hm : vM cy B g 141 cg le sp va ((k : Nat) : Int) tn aw mw fw ls gs sn sw kr) (hnow : vIA cy B g 142 49 Nw) (htb : vIA cy B g 147 5 Tb) (hN : 160 ≤ N) (hmc : MC Nw k c) (hc : cok c) (hn2 : 2 ≤ c.length) (hTR : TR c.length Tb u) (htc : tbc c u) : CTi l yX11_next wsX11_next (rmo 3 71) D cy B N g [.ref (B + 141)] (if (nxt (coL c) u).isSome = true then 1 else 0) (fun g' => ∃ Tb1 : Int → Int, vIA cy B g' 147 5 Tb1 ∧ (∀ v, (nxt (coL c) u) = some v → TR c.length Tb1 v) ∧ (∀ q, q ≠ 147 → g' q = g q)) := by
  refine WW_of (cc := cX11_next) (maxL := 3) (ret := (some .boolean)) (own := RX11) (by decide) rfl rfl (Nat.le_of_ble_eq_true rfl) rfl ?_
  intro pp ee ss mm bl me co hmn
  have hfr_0 : ∀ q, q ≠ 147 → g q = g q := fun _ _ => rfl
  have hk3 := hmc.1
  have hn0 := nx_0 htc (n1 := c.length - 1) (by omega)
  have hTl := hTR.2 (c.length - 1) (by omega)
  rw [show ((c.length - 1 : Nat) : Int) = ((c.length : Nat) : Int) - 1 by omega] at hTl
  refine w_aload_n dX11_next_0 rfl 0 rfl ?_
  refine w_get (i := 9) (T := TX11) (NF := 32) 141 (by first | omega | with_reducible rfl) hm rfl (fun _ h => (List.mem_cons_of_mem _ (List.mem_append_right _ h))) (by decide) (List.mem_of_getElem? (i := 1) rfl) rfl dX11_next_1 ?_
  refine w_aload_n dX11_next_4 rfl 0 rfl ?_
  refine w_aload_n dX11_next_5 rfl 0 rfl ?_
  refine w_get (i := 10) (T := TX11) (NF := 32) 141 (by first | omega | with_reducible rfl) hm rfl (fun _ h => (List.mem_cons_of_mem _ (List.mem_append_right _ h))) (by decide) (List.mem_of_getElem? (i := 2) rfl) rfl dX11_next_6 ?_
  refine w_calli (As := [.int (zI ((k : Nat) : Int))]) (rest := [.ref (B + 147)]) (n := 1) (c_X11_columns (k := k) hm hnow (by first | omega | with_reducible rfl) (by first | omega | with_reducible rfl)) gX11_next_X11_columns rfl rfl rfl (by decide +kernel) ⟨Nat.le_of_ble_eq_true rfl, Nat.le_of_ble_eq_true rfl⟩ rfl (by first | omega | with_reducible rfl) hm rfl (Nat.le_of_ble_eq_true rfl) ⟨Nat.zero_le _, Nat.zero_le _⟩ dX11_next_9 rfl (fun g_1 hp_2 => ?_)
  subst g_1
  refine w_iconst dX11_next_12 ?_
  refine w_isub dX11_next_13 ?_
  refine w_iald 147 (by first | omega | with_reducible rfl) htb (by first | omega | with_reducible rfl) dX11_next_14 ?_
  refine w_as (st' := [.int (zI ((lsum (u.drop (c.length - 1)) : Nat) : Int))]) (sc_i (by rw [hn0.2, hTl]) rfl) ?_
  refine w_istore_n [(1, .int (zI ((lsum (u.drop (c.length - 1)) : Nat) : Int))), (0, .ref (B + 141))] dX11_next_15 rfl (by decide) rfl ?_
  refine w_aload_n dX11_next_16 rfl 1 rfl ?_
  refine w_aload_n dX11_next_17 rfl 1 rfl ?_
  refine w_get (i := 10) (T := TX11) (NF := 32) 141 (by first | omega | with_reducible rfl) hm rfl (fun _ h => (List.mem_cons_of_mem _ (List.mem_append_right _ h))) (by decide) (List.mem_of_getElem? (i := 2) rfl) rfl dX11_next_18 ?_
  refine w_calli (As := [.int (zI ((k : Nat) : Int))]) (rest := []) (n := 1) (c_X11_columns (k := k) hm hnow (by first | omega | with_reducible rfl) (by first | omega | with_reducible rfl)) gX11_next_X11_columns rfl rfl rfl (by decide +kernel) ⟨Nat.le_of_ble_eq_true rfl, Nat.le_of_ble_eq_true rfl⟩ rfl (by first | omega | with_reducible rfl) hm rfl (Nat.le_of_ble_eq_true rfl) ⟨Nat.zero_le _, Nat.zero_le _⟩ dX11_next_21 rfl (fun g_3 hp_4 => ?_)
  subst g_3
  refine w_iconst dX11_next_24 ?_
  refine w_isub dX11_next_25 ?_
  refine w_istore_n [(2, .int (zI (((c.length : Nat) : Int) - 2))), (1, .int (zI ((lsum (u.drop (c.length - 1)) : Nat) : Int))), (0, .ref (B + 141))] dX11_next_26 rfl (by decide) rfl ?_
  refine w_sub [(0, .ref (B + 141)), (1, .int (zI ((lsum (u.drop (c.length - 1)) : Nat) : Int))), (2, .int (zI (((c.length : Nat) : Int) - 2)))] [2, 1, 0] rfl ?_
  refine w_lv (lv' := [(0, .ref (B + 141)), (1, .int (zI ((lsum (u.drop (c.length - 1)) : Nat) : Int))), (2, .int (zI ((((c.length - 1) : Nat) : Int) - 1)))]) (lc_s (lc_i rfl (lc_i (by first | omega | with_reducible rfl) rfl))) ?_
  refine w_loop1 (fun (j1 : Nat) => j1 < c.length ∧ nxt (clL (coT c) (coV c) j1 (c.length - j1)) (u.drop j1) = none) (fun (j1 : Nat) => j1) (fun (j1 : Nat) => g) (fun (j1 : Nat) => [(0, .ref (B + 141)), (1, .int (zI ((lsum (u.drop j1) : Nat) : Int))), (2, .int (zI (((j1 : Nat) : Int) - 1)))]) ?_ (c.length - 1) ⟨(by first | omega | with_reducible rfl), hn0.1⟩
  rintro j1 ⟨hj, hno⟩ ih_27
  refine w_iload_n dX11_next_27 rfl 2 rfl ?_
  refine w_if_lt 91 dX11_next_28 (by decide) (by first | omega | with_reducible rfl) (fun c_28 => ?_) (fun c_28 => ?_)
  · have hj0 : j1 = 0 := by omega
    subst hj0
    have hnn : (nxt (coL c) u) = none := hno
    refine w_iconst dX11_next_91 ?_
    exact w_zret dX11_next_92 rfl rfl (by rw [hnn]; rfl) ⟨Tb, htb, (fun v9 hv9 => by rw [hnn] at hv9; exact absurd hv9 (by simp)), hfr_0⟩
  · have hcj := hc.2 (((j1 - 1 : Nat)) : Int) (by omega) (by omega)
    have hub := htc.2 (j1 - 1) (by omega)
    have hej : (((j1 - 1 : Nat)) : Int) = ((j1 : Nat) : Int) - 1 := by omega
    rw [hej] at hcj hub
    have hls9 := lsum_ts htc.1 htc.2 (m := c.length - j1) (j := j1) (by omega)
    have hts60 := okT_ts (co_okT hc) (m := c.length - j1) (j := j1) (by omega)
    refine w_iload_n dX11_next_31 rfl 1 rfl ?_
    refine w_if_le 76 dX11_next_32 (by decide) (by first | omega | with_reducible rfl) (fun c_32 => ?_) (fun c_32 => ?_)
    · refine w_iload_n dX11_next_76 rfl 1 rfl ?_
      refine w_aload_n dX11_next_77 rfl 0 rfl ?_
      refine w_get (i := 9) (T := TX11) (NF := 32) 141 (by first | omega | with_reducible rfl) hm rfl (fun _ h => (List.mem_cons_of_mem _ (List.mem_append_right _ h))) (by decide) (List.mem_of_getElem? (i := 1) rfl) rfl dX11_next_78 ?_
      refine w_iload_n dX11_next_81 rfl 2 rfl ?_
      refine w_iald 147 (by first | omega | with_reducible rfl) htb (by first | omega | with_reducible rfl) dX11_next_82 ?_
      refine w_as (st' := [.int (zI ((u.getD (j1 - 1) 0 : Nat) : Int)), .int (zI ((lsum (u.drop j1) : Nat) : Int))]) (sc_i (by rw [show ((j1 : Nat) : Int) - 1 = ((j1 - 1 : Nat) : Int) by omega]; exact hTR.2 _ (by omega)) rfl) ?_
      refine w_iadd dX11_next_83 ?_
      refine w_istore_n [(1, .int (zI (((lsum (u.drop j1) : Nat) : Int) + ((u.getD (j1 - 1) 0 : Nat) : Int)))), (0, .ref (B + 141)), (2, .int (zI (((j1 : Nat) : Int) - 1)))] dX11_next_84 rfl (by decide) rfl ?_
      refine w_iinc 2 [(2, .int (zI ((((j1 : Nat) : Int) - 1) + (-1)))), (1, .int (zI (((lsum (u.drop j1) : Nat) : Int) + ((u.getD (j1 - 1) 0 : Nat) : Int)))), (0, .ref (B + 141))] dX11_next_85 rfl (by decide) rfl ?_
      refine w_goto 27 dX11_next_88 (by decide) ?_
      refine w_sub [(0, .ref (B + 141)), (1, .int (zI (((lsum (u.drop j1) : Nat) : Int) + ((u.getD (j1 - 1) 0 : Nat) : Int)))), (2, .int (zI ((((j1 : Nat) : Int) - 1) + (-1))))] [2, 1, 0] rfl ?_
      refine w_lv (lv' := [(0, .ref (B + 141)), (1, .int (zI ((lsum (u.drop (j1 - 1)) : Nat) : Int))), (2, .int (zI ((((j1 - 1) : Nat) : Int) - 1)))]) (lc_s (lc_i (by rw [lsum_c (show j1 - 1 < u.length by have := htc.1; omega), show j1 - 1 + 1 = j1 by omega]; omega) (lc_i (by first | omega | with_reducible rfl) rfl))) ?_
      exact ih_27 (j1 - 1) ⟨(by first | omega | with_reducible rfl), (nx_no htc (by omega) (by rw [show j1 - 1 + 1 = j1 by omega]; exact hno) (by rw [show j1 - 1 + 1 = j1 by omega, hej]; omega))⟩ (by first | omega | with_reducible rfl)
    · refine w_aload_n dX11_next_35 rfl 0 rfl ?_
      refine w_get (i := 9) (T := TX11) (NF := 32) 141 (by first | omega | with_reducible rfl) hm rfl (fun _ h => (List.mem_cons_of_mem _ (List.mem_append_right _ h))) (by decide) (List.mem_of_getElem? (i := 1) rfl) rfl dX11_next_36 ?_
      refine w_iload_n dX11_next_39 rfl 2 rfl ?_
      refine w_iald 147 (by first | omega | with_reducible rfl) htb (by first | omega | with_reducible rfl) dX11_next_40 ?_
      refine w_as (st' := [.int (zI ((u.getD (j1 - 1) 0 : Nat) : Int))]) (sc_i (by rw [show ((j1 : Nat) : Int) - 1 = ((j1 - 1 : Nat) : Int) by omega]; exact hTR.2 _ (by omega)) rfl) ?_
      refine w_aload_n dX11_next_41 rfl 0 rfl ?_
      refine w_aload_n dX11_next_42 rfl 0 rfl ?_
      refine w_get (i := 10) (T := TX11) (NF := 32) 141 (by first | omega | with_reducible rfl) hm rfl (fun _ h => (List.mem_cons_of_mem _ (List.mem_append_right _ h))) (by decide) (List.mem_of_getElem? (i := 2) rfl) rfl dX11_next_43 ?_
      refine w_iload_n dX11_next_46 rfl 2 rfl ?_
      refine w_iconst dX11_next_47 ?_
      refine w_calli (As := [.int (zI ((k : Nat) : Int)), .int (zI (((j1 : Nat) : Int) - 1)), .int (zI 0)]) (rest := [.int (zI ((u.getD (j1 - 1) 0 : Nat) : Int))]) (n := 3) (c_X11_of0 (k := k) hm hnow (by first | omega | with_reducible rfl) (by first | omega | with_reducible rfl) (by first | omega | with_reducible rfl)) gX11_next_X11_of rfl rfl rfl (by decide +kernel) ⟨Nat.le_of_ble_eq_true rfl, Nat.le_of_ble_eq_true rfl⟩ rfl (by first | omega | with_reducible rfl) hm rfl (Nat.le_of_ble_eq_true rfl) ⟨Nat.zero_le _, Nat.zero_le _⟩ dX11_next_48 rfl (fun g_5 hp_6 => ?_)
      subst g_5
      refine w_icmp_ge 76 dX11_next_51 (by decide) (by first | omega | with_reducible rfl) (by first | omega | with_reducible rfl) (fun c_51 => ?_) (fun c_51 => ?_)
      · refine w_iload_n dX11_next_76 rfl 1 rfl ?_
        refine w_aload_n dX11_next_77 rfl 0 rfl ?_
        refine w_get (i := 9) (T := TX11) (NF := 32) 141 (by first | omega | with_reducible rfl) hm rfl (fun _ h => (List.mem_cons_of_mem _ (List.mem_append_right _ h))) (by decide) (List.mem_of_getElem? (i := 1) rfl) rfl dX11_next_78 ?_
        refine w_iload_n dX11_next_81 rfl 2 rfl ?_
        refine w_iald 147 (by first | omega | with_reducible rfl) htb (by first | omega | with_reducible rfl) dX11_next_82 ?_
        refine w_as (st' := [.int (zI ((u.getD (j1 - 1) 0 : Nat) : Int)), .int (zI ((lsum (u.drop j1) : Nat) : Int))]) (sc_i (by rw [show ((j1 : Nat) : Int) - 1 = ((j1 - 1 : Nat) : Int) by omega]; exact hTR.2 _ (by omega)) rfl) ?_
        refine w_iadd dX11_next_83 ?_
        refine w_istore_n [(1, .int (zI (((lsum (u.drop j1) : Nat) : Int) + ((u.getD (j1 - 1) 0 : Nat) : Int)))), (0, .ref (B + 141)), (2, .int (zI (((j1 : Nat) : Int) - 1)))] dX11_next_84 rfl (by decide) rfl ?_
        refine w_iinc 2 [(2, .int (zI ((((j1 : Nat) : Int) - 1) + (-1)))), (1, .int (zI (((lsum (u.drop j1) : Nat) : Int) + ((u.getD (j1 - 1) 0 : Nat) : Int)))), (0, .ref (B + 141))] dX11_next_85 rfl (by decide) rfl ?_
        refine w_goto 27 dX11_next_88 (by decide) ?_
        refine w_sub [(0, .ref (B + 141)), (1, .int (zI (((lsum (u.drop j1) : Nat) : Int) + ((u.getD (j1 - 1) 0 : Nat) : Int)))), (2, .int (zI ((((j1 : Nat) : Int) - 1) + (-1))))] [2, 1, 0] rfl ?_
        refine w_lv (lv' := [(0, .ref (B + 141)), (1, .int (zI ((lsum (u.drop (j1 - 1)) : Nat) : Int))), (2, .int (zI ((((j1 - 1) : Nat) : Int) - 1)))]) (lc_s (lc_i (by rw [lsum_c (show j1 - 1 < u.length by have := htc.1; omega), show j1 - 1 + 1 = j1 by omega]; omega) (lc_i (by first | omega | with_reducible rfl) rfl))) ?_
        exact ih_27 (j1 - 1) ⟨(by first | omega | with_reducible rfl), (nx_no htc (by omega) (by rw [show j1 - 1 + 1 = j1 by omega]; exact hno) (by rw [show j1 - 1 + 1 = j1 by omega, hej]; omega))⟩ (by first | omega | with_reducible rfl)
      · refine w_aload_n dX11_next_54 rfl 0 rfl ?_
        refine w_get (i := 9) (T := TX11) (NF := 32) 141 (by first | omega | with_reducible rfl) hm rfl (fun _ h => (List.mem_cons_of_mem _ (List.mem_append_right _ h))) (by decide) (List.mem_of_getElem? (i := 1) rfl) rfl dX11_next_55 ?_
        refine w_iload_n dX11_next_58 rfl 2 rfl ?_
        refine w_as (st' := [.int (zI ((j1 - 1 : Nat) : Int)), .ref (B + 147)]) (sc_i (by omega) rfl) ?_
        refine w_dup2 dX11_next_59 rfl rfl ?_
        refine w_iald 147 (by first | omega | with_reducible rfl) htb (by first | omega | with_reducible rfl) dX11_next_60 ?_
        refine w_as (st' := [.int (zI ((u.getD (j1 - 1) 0 : Nat) : Int)), .int (zI ((j1 - 1 : Nat) : Int)), .ref (B + 147)]) (sc_i (hTR.2 _ (by omega)) rfl) ?_
        refine w_iconst dX11_next_61 ?_
        refine w_iadd dX11_next_62 ?_
        refine w_as (st' := [.int (zI ((u.getD (j1 - 1) 0 + 1 : Nat) : Int)), .int (zI ((j1 - 1 : Nat) : Int)), .ref (B + 147)]) (sc_i (by omega) rfl) ?_
        refine w_iast 147 (by first | omega | with_reducible rfl) htb (by first | omega | with_reducible rfl) dX11_next_63 (fun g_7 he_8 hn_9 => ?_)
        have hm_10 : vM cy B g_7 141 cg le sp va ((k : Nat) : Int) tn aw mw fw ls gs sn sw kr := vM_fr hm (fun q h1 h2 => hn_9 q (by omega))
        have hnow_11 : vIA cy B g_7 142 49 Nw := vIA_fr hnow (fun q h1 h2 => hn_9 q (by omega))
        have htb_12 : vIA cy B g_7 147 5 (uZ Tb ((j1 - 1 : Nat) : Int) ((u.getD (j1 - 1) 0 + 1 : Nat) : Int)) := he_8
        have hfr_13 : ∀ q, q ≠ 147 → g_7 q = g q := fun q hq => (hn_9 q (by omega)).trans (hfr_0 q hq)
        refine w_aload_n dX11_next_64 rfl 0 rfl ?_
        refine w_iload_n dX11_next_65 rfl 2 rfl ?_
        refine w_iconst dX11_next_66 ?_
        refine w_iadd dX11_next_67 ?_
        refine w_iload_n dX11_next_68 rfl 1 rfl ?_
        refine w_iconst dX11_next_69 ?_
        refine w_isub dX11_next_70 ?_
        have hup := tr_up (j := j1 - 1) (x := u.getD (j1 - 1) 0 + 1) hTR (by omega)
        have hok9 := nx_ok htc (j := j1 - 1) (by omega) (by rw [show j1 - 1 + 1 = j1 by omega]; exact hno) (by rw [hej]; omega) (by rw [show j1 - 1 + 1 = j1 by omega]; omega)
        rw [show j1 - 1 + 1 = j1 by omega] at hok9
        have hlt9 := lsum_ts htc.1 htc.2 (m := c.length - j1) (j := j1) (by omega)
        refine w_as (st' := [.int (zI ((lsum (u.drop j1) - 1 : Nat) : Int)), .int (zI ((j1 : Nat) : Int)), .ref (B + 141)]) (sc_i (by omega) (sc_i (by omega) rfl)) ?_
        refine w_callv (As := [.int (zI ((j1 : Nat) : Int)), .int (zI ((lsum (u.drop j1) - 1 : Nat) : Int))]) (rest := []) (n := 2) (c_X11_fillsLeast (f := j1) (left := (lsum (u.drop j1) - 1)) (u := (u.set (j1 - 1) (u.getD (j1 - 1) 0 + 1))) hm_10 hnow_11 htb_12 (by first | omega | with_reducible rfl) (by first | omega | with_reducible rfl) (by first | omega | with_reducible rfl) (by first | omega | with_reducible rfl) (by omega) (by rw [List.length_set]; exact htc.1) (fun i hi => hup.2 i (by omega))) gX11_next_X11_fillsLeast rfl rfl rfl (by decide +kernel) ⟨Nat.le_of_ble_eq_true rfl, Nat.le_of_ble_eq_true rfl⟩ rfl (by first | omega | with_reducible rfl) hm_10 rfl (Nat.le_of_ble_eq_true rfl) ⟨Nat.zero_le _, Nat.zero_le _⟩ dX11_next_71 rfl (fun g_14 hp_15 => ?_)
        obtain ⟨Tb1_16, htb_17, hT9, hf_18⟩ := hp_15
        have hm_19 : vM cy B g_14 141 cg le sp va ((k : Nat) : Int) tn aw mw fw ls gs sn sw kr := vM_fr hm_10 (fun q h1 h2 => hf_18 q (by omega))
        have hnow_20 : vIA cy B g_14 142 49 Nw := vIA_fr hnow_11 (fun q h1 h2 => hf_18 q (by omega))
        have hfr_21 : ∀ q, q ≠ 147 → g_14 q = g q := fun q hq => (hf_18 q (by omega)).trans (hfr_13 q hq)
        refine w_iconst dX11_next_74 ?_
        exact w_zret dX11_next_75 rfl rfl (by rw [hok9]; rfl) ⟨Tb1_16, htb_17, (fun v9 hv9 => by rw [hok9] at hv9; have hv8 := Option.some.inj hv9; subst hv8; exact hT9), hfr_21⟩

set_option maxHeartbeats 4000000 in
set_option maxRecDepth 100000 in
theorem c_X11_tableWays {l : Launch} {D : va_G} {cy : Nat → ClassId} {B N : Nat} {g : Nat → va_E} {cg le sp va tn aw mw fw ls gs sn sw kr : Int} {Nw Sv Tb : Int → Int} {k : Nat} {c : List Co} {u : List Nat} (hm : vM cy B g 141 cg le sp va ((k : Nat) : Int) tn aw mw fw ls gs sn sw kr) (hnow : vIA cy B g 142 49 Nw) (hse : vLA cy B g 146 169 Sv) (htb : vIA cy B g 147 5 Tb) (hN : 160 ≤ N) (hmc : MC Nw k c) (hc : cok c) (hSv : SvOK Sv) (hTR : TR c.length Tb u) (htc : tbc c u) : CTl l yX11_tableWays wsX11_tableWays (rmo 3 68) D cy B N g [.ref (B + 141)] (wt (coL c) u) (fun g' => g' = g) := by
  refine WW_of (cc := cX11_tableWays) (maxL := 4) (ret := (some .long)) (own := RX11) (by decide) rfl rfl (Nat.le_of_ble_eq_true rfl) rfl ?_
  intro pp ee ss mm bl me co hmn
  have hk3 := hmc.1
  refine w_lconst1 dX11_tableWays_0 ?_
  refine w_lstore_n [(1, .long (zJ 1)), (0, .ref (B + 141))] dX11_tableWays_1 rfl (by decide) rfl ?_
  refine w_iconst dX11_tableWays_2 ?_
  refine w_istore_n [(3, .int (zI 0)), (1, .long (zJ 1)), (0, .ref (B + 141))] dX11_tableWays_3 rfl (by decide) rfl ?_
  refine w_sub [(0, .ref (B + 141)), (1, .long (zJ 1)), (3, .int (zI 0))] [2, 1, 0] rfl ?_
  refine w_lv (lv' := [(0, .ref (B + 141)), (1, .long (zJ 1)), (3, .int (zI ((0 : Nat) : Int)))]) (lc_s (lc_l (by first | omega | with_reducible rfl) (lc_i (by first | omega | with_reducible rfl) rfl))) ?_
  refine w_loop2 (fun (j : Nat) (w : Int) => j ≤ c.length ∧ w * wt (clL (coT c) (coV c) j (c.length - j)) (u.drop j) = wt (coL c) u) (fun (j : Nat) (w : Int) => c.length - j) (fun (j : Nat) (w : Int) => g) (fun (j : Nat) (w : Int) => [(0, .ref (B + 141)), (1, .long (zJ w)), (3, .int (zI ((j : Nat) : Int)))]) ?_ 0 1 ⟨(by first | omega | with_reducible rfl), (by rw [Int.one_mul]; rfl)⟩
  rintro j w ⟨hj, hw9⟩ ih_4
  refine w_iload_n dX11_tableWays_4 rfl 2 rfl ?_
  refine w_aload_n dX11_tableWays_5 rfl 0 rfl ?_
  refine w_aload_n dX11_tableWays_6 rfl 0 rfl ?_
  refine w_get (i := 10) (T := TX11) (NF := 32) 141 (by first | omega | with_reducible rfl) hm rfl (fun _ h => (List.mem_cons_of_mem _ (List.mem_append_right _ h))) (by decide) (List.mem_of_getElem? (i := 1) rfl) rfl dX11_tableWays_7 ?_
  refine w_calli (As := [.int (zI ((k : Nat) : Int))]) (rest := [.int (zI ((j : Nat) : Int))]) (n := 1) (c_X11_columns (k := k) hm hnow (by first | omega | with_reducible rfl) (by first | omega | with_reducible rfl)) gX11_tableWays_X11_columns rfl rfl rfl (by decide +kernel) ⟨Nat.le_of_ble_eq_true rfl, Nat.le_of_ble_eq_true rfl⟩ rfl (by first | omega | with_reducible rfl) hm rfl (Nat.le_of_ble_eq_true rfl) ⟨Nat.zero_le _, Nat.zero_le _⟩ dX11_tableWays_10 rfl (fun g_1 hp_2 => ?_)
  subst g_1
  refine w_icmp_ge 40 dX11_tableWays_13 (by decide) (by first | omega | with_reducible rfl) (by first | omega | with_reducible rfl) (fun c_13 => ?_) (fun c_13 => ?_)
  · refine w_lload_n dX11_tableWays_40 rfl 1 rfl ?_
    exact w_lret dX11_tableWays_41 rfl (by exact wt_end (by omega) hw9) rfl
  · have hcj := hc.2 ((j : Nat) : Int) (by omega) (by omega)
    have hub := htc.2 j (by omega)
    refine w_lload_n dX11_tableWays_16 rfl 1 rfl ?_
    refine w_aload_n dX11_tableWays_17 rfl 0 rfl ?_
    refine w_aload_n dX11_tableWays_18 rfl 0 rfl ?_
    refine w_get (i := 10) (T := TX11) (NF := 32) 141 (by first | omega | with_reducible rfl) hm rfl (fun _ h => (List.mem_cons_of_mem _ (List.mem_append_right _ h))) (by decide) (List.mem_of_getElem? (i := 1) rfl) rfl dX11_tableWays_19 ?_
    refine w_iload_n dX11_tableWays_22 rfl 2 rfl ?_
    refine w_aload_n dX11_tableWays_23 rfl 0 rfl ?_
    refine w_get (i := 9) (T := TX11) (NF := 32) 141 (by first | omega | with_reducible rfl) hm rfl (fun _ h => (List.mem_cons_of_mem _ (List.mem_append_right _ h))) (by decide) (List.mem_of_getElem? (i := 2) rfl) rfl dX11_tableWays_24 ?_
    refine w_iload_n dX11_tableWays_27 rfl 2 rfl ?_
    refine w_iald 147 (by first | omega | with_reducible rfl) htb (by first | omega | with_reducible rfl) dX11_tableWays_28 ?_
    refine w_as (st' := [.int (zI ((u.getD j 0 : Nat) : Int)), .int (zI ((j : Nat) : Int)), .int (zI ((k : Nat) : Int)), .ref (B + 141), .long (zJ w)]) (sc_i (hTR.2 j (by omega)) rfl) ?_
    refine w_calll (As := [.int (zI ((k : Nat) : Int)), .int (zI ((j : Nat) : Int)), .int (zI ((u.getD j 0 : Nat) : Int))]) (rest := [.long (zJ w)]) (n := 3) (c_X11_setsOf (k := k) hm hnow hse (by first | omega | with_reducible rfl) (by first | omega | with_reducible rfl) (by first | omega | with_reducible rfl) (by first | omega | with_reducible rfl) (by first | omega | with_reducible rfl) (by first | omega | with_reducible rfl)) gX11_tableWays_X11_setsOf rfl rfl rfl (by decide +kernel) ⟨Nat.le_of_ble_eq_true rfl, Nat.le_of_ble_eq_true rfl⟩ rfl (by first | omega | with_reducible rfl) hm rfl (Nat.le_of_ble_eq_true rfl) ⟨Nat.zero_le _, Nat.zero_le _⟩ dX11_tableWays_29 rfl (fun g_3 hp_4 => ?_)
    subst g_3
    refine w_as (st' := [.long (zJ ((ch (coT c ((j : Nat) : Int)).toNat (u.getD j 0) : Nat) : Int)), .long (zJ w)]) (sc_l (by rw [Int.toNat_natCast]) rfl) ?_
    refine w_lmul dX11_tableWays_32 ?_
    refine w_lstore_n [(1, .long (zJ (w * ((ch (coT c ((j : Nat) : Int)).toNat (u.getD j 0) : Nat) : Int)))), (0, .ref (B + 141)), (3, .int (zI ((j : Nat) : Int)))] dX11_tableWays_33 rfl (by decide) rfl ?_
    refine w_iinc 2 [(3, .int (zI (((j : Nat) : Int) + 1))), (1, .long (zJ (w * ((ch (coT c ((j : Nat) : Int)).toNat (u.getD j 0) : Nat) : Int)))), (0, .ref (B + 141))] dX11_tableWays_34 rfl (by decide) rfl ?_
    refine w_goto 4 dX11_tableWays_37 (by decide) ?_
    refine w_sub [(0, .ref (B + 141)), (1, .long (zJ (w * ((ch (coT c ((j : Nat) : Int)).toNat (u.getD j 0) : Nat) : Int)))), (3, .int (zI (((j : Nat) : Int) + 1)))] [2, 1, 0] rfl ?_
    refine w_lv (lv' := [(0, .ref (B + 141)), (1, .long (zJ (w * (((ch (coT c ((j : Nat) : Int)).toNat (u.getD j 0) : Nat) : Int))))), (3, .int (zI (((j + 1) : Nat) : Int)))]) (lc_s (lc_l (by first | omega | with_reducible rfl) (lc_i (by first | omega | with_reducible rfl) rfl))) ?_
    exact ih_4 (j + 1) (w * (((ch (coT c ((j : Nat) : Int)).toNat (u.getD j 0) : Nat) : Int))) ⟨(by first | omega | with_reducible rfl), (wt_step hTR.1 (by omega) hw9)⟩ (by first | omega | with_reducible rfl)

set_option maxHeartbeats 4000000 in
set_option maxRecDepth 100000 in
theorem c_X11_tableSum {l : Launch} {D : va_G} {cy : Nat → ClassId} {B N : Nat} {g : Nat → va_E} {cg le sp va tn aw mw fw ls gs sn sw kr : Int} {Nw Tb : Int → Int} {k : Nat} {c : List Co} {u : List Nat} (hm : vM cy B g 141 cg le sp va ((k : Nat) : Int) tn aw mw fw ls gs sn sw kr) (hnow : vIA cy B g 142 49 Nw) (htb : vIA cy B g 147 5 Tb) (hN : 160 ≤ N) (hmc : MC Nw k c) (hc : cok c) (hTR : TR c.length Tb u) (htc : tbc c u) : CTi l yX11_tableSum wsX11_tableSum (rmo 2 45) D cy B N g [.ref (B + 141)] (sc (coL c) u) (fun g' => g' = g) := by
  refine WW_of (cc := cX11_tableSum) (maxL := 3) (ret := (some .int)) (own := RX11) (by decide) rfl rfl (Nat.le_of_ble_eq_true rfl) rfl ?_
  intro pp ee ss mm bl me co hmn
  have hk3 := hmc.1
  refine w_iconst dX11_tableSum_0 ?_
  refine w_istore_n [(1, .int (zI 0)), (0, .ref (B + 141))] dX11_tableSum_1 rfl (by decide) rfl ?_
  refine w_iconst dX11_tableSum_2 ?_
  refine w_istore_n [(2, .int (zI 0)), (1, .int (zI 0)), (0, .ref (B + 141))] dX11_tableSum_3 rfl (by decide) rfl ?_
  refine w_sub [(0, .ref (B + 141)), (1, .int (zI 0)), (2, .int (zI 0))] [2, 1, 0] rfl ?_
  refine w_lv (lv' := [(0, .ref (B + 141)), (1, .int (zI 0)), (2, .int (zI ((0 : Nat) : Int)))]) (lc_s (lc_i (by first | omega | with_reducible rfl) (lc_i (by first | omega | with_reducible rfl) rfl))) ?_
  refine w_loop2 (fun (j : Nat) (w : Int) => j ≤ c.length ∧ w + sc (clL (coT c) (coV c) j (c.length - j)) (u.drop j) = sc (coL c) u) (fun (j : Nat) (w : Int) => c.length - j) (fun (j : Nat) (w : Int) => g) (fun (j : Nat) (w : Int) => [(0, .ref (B + 141)), (1, .int (zI w)), (2, .int (zI ((j : Nat) : Int)))]) ?_ 0 0 ⟨(by first | omega | with_reducible rfl), (by rw [Int.zero_add]; rfl)⟩
  rintro j w ⟨hj, hw9⟩ ih_4
  refine w_iload_n dX11_tableSum_4 rfl 2 rfl ?_
  refine w_aload_n dX11_tableSum_5 rfl 0 rfl ?_
  refine w_aload_n dX11_tableSum_6 rfl 0 rfl ?_
  refine w_get (i := 10) (T := TX11) (NF := 32) 141 (by first | omega | with_reducible rfl) hm rfl (fun _ h => (List.mem_cons_of_mem _ (List.mem_append_right _ h))) (by decide) (List.mem_of_getElem? (i := 1) rfl) rfl dX11_tableSum_7 ?_
  refine w_calli (As := [.int (zI ((k : Nat) : Int))]) (rest := [.int (zI ((j : Nat) : Int))]) (n := 1) (c_X11_columns (k := k) hm hnow (by first | omega | with_reducible rfl) (by first | omega | with_reducible rfl)) gX11_tableSum_X11_columns rfl rfl rfl (by decide +kernel) ⟨Nat.le_of_ble_eq_true rfl, Nat.le_of_ble_eq_true rfl⟩ rfl (by first | omega | with_reducible rfl) hm rfl (Nat.le_of_ble_eq_true rfl) ⟨Nat.zero_le _, Nat.zero_le _⟩ dX11_tableSum_10 rfl (fun g_1 hp_2 => ?_)
  subst g_1
  refine w_icmp_ge 42 dX11_tableSum_13 (by decide) (by first | omega | with_reducible rfl) (by first | omega | with_reducible rfl) (fun c_13 => ?_) (fun c_13 => ?_)
  · refine w_iload_n dX11_tableSum_42 rfl 1 rfl ?_
    exact w_iret dX11_tableSum_43 rfl (by exact sc_end (by omega) hw9) rfl
  · have hcj := hc.2 ((j : Nat) : Int) (by omega) (by omega)
    have hub := htc.2 j (by omega)
    refine w_iload_n dX11_tableSum_16 rfl 1 rfl ?_
    refine w_aload_n dX11_tableSum_17 rfl 0 rfl ?_
    refine w_get (i := 9) (T := TX11) (NF := 32) 141 (by first | omega | with_reducible rfl) hm rfl (fun _ h => (List.mem_cons_of_mem _ (List.mem_append_right _ h))) (by decide) (List.mem_of_getElem? (i := 2) rfl) rfl dX11_tableSum_18 ?_
    refine w_iload_n dX11_tableSum_21 rfl 2 rfl ?_
    refine w_iald 147 (by first | omega | with_reducible rfl) htb (by first | omega | with_reducible rfl) dX11_tableSum_22 ?_
    refine w_as (st' := [.int (zI ((u.getD j 0 : Nat) : Int)), .int (zI w)]) (sc_i (hTR.2 j (by omega)) rfl) ?_
    refine w_aload_n dX11_tableSum_23 rfl 0 rfl ?_
    refine w_aload_n dX11_tableSum_24 rfl 0 rfl ?_
    refine w_get (i := 10) (T := TX11) (NF := 32) 141 (by first | omega | with_reducible rfl) hm rfl (fun _ h => (List.mem_cons_of_mem _ (List.mem_append_right _ h))) (by decide) (List.mem_of_getElem? (i := 1) rfl) rfl dX11_tableSum_25 ?_
    refine w_iload_n dX11_tableSum_28 rfl 2 rfl ?_
    refine w_iconst dX11_tableSum_29 ?_
    refine w_calli (As := [.int (zI ((k : Nat) : Int)), .int (zI ((j : Nat) : Int)), .int (zI 2)]) (rest := [.int (zI ((u.getD j 0 : Nat) : Int)), .int (zI w)]) (n := 3) (c_X11_of2 (k := k) hm hnow (by first | omega | with_reducible rfl) (by first | omega | with_reducible rfl) (by first | omega | with_reducible rfl)) gX11_tableSum_X11_of rfl rfl rfl (by decide +kernel) ⟨Nat.le_of_ble_eq_true rfl, Nat.le_of_ble_eq_true rfl⟩ rfl (by first | omega | with_reducible rfl) hm rfl (Nat.le_of_ble_eq_true rfl) ⟨Nat.zero_le _, Nat.zero_le _⟩ dX11_tableSum_30 rfl (fun g_3 hp_4 => ?_)
    subst g_3
    refine w_imul dX11_tableSum_33 ?_
    refine w_iadd dX11_tableSum_34 ?_
    refine w_istore_n [(1, .int (zI (w + (((u.getD j 0 : Nat) : Int) * (coV c ((j : Nat) : Int)))))), (0, .ref (B + 141)), (2, .int (zI ((j : Nat) : Int)))] dX11_tableSum_35 rfl (by decide) rfl ?_
    refine w_iinc 2 [(2, .int (zI (((j : Nat) : Int) + 1))), (1, .int (zI (w + (((u.getD j 0 : Nat) : Int) * (coV c ((j : Nat) : Int)))))), (0, .ref (B + 141))] dX11_tableSum_36 rfl (by decide) rfl ?_
    refine w_goto 4 dX11_tableSum_39 (by decide) ?_
    refine w_sub [(0, .ref (B + 141)), (1, .int (zI (w + (((u.getD j 0 : Nat) : Int) * (coV c ((j : Nat) : Int)))))), (2, .int (zI (((j : Nat) : Int) + 1)))] [2, 1, 0] rfl ?_
    refine w_lv (lv' := [(0, .ref (B + 141)), (1, .int (zI (w + (((u.getD j 0 : Nat) : Int) * (coV c ((j : Nat) : Int)))))), (2, .int (zI (((j + 1) : Nat) : Int)))]) (lc_s (lc_i (by first | omega | with_reducible rfl) (lc_i (by first | omega | with_reducible rfl) rfl))) ?_
    exact ih_4 (j + 1) (w + (((u.getD j 0 : Nat) : Int) * (coV c ((j : Nat) : Int)))) ⟨(by first | omega | with_reducible rfl), (sc_step hc hTR.1 (by omega) hw9)⟩ (by first | omega | with_reducible rfl)

set_option maxHeartbeats 4000000 in
set_option maxRecDepth 100000 in
theorem c_X11_isSeen {l : Launch} {D : va_G} {cy : Nat → ClassId} {B N : Nat} {g : Nat → va_E} {cg le sp va tn aw mw fw ls gs sn sw kr : Int} {Nw Tb : Int → Int} {k : Nat} {c : List Co} {u : List Nat} (hm : vM cy B g 141 cg le sp va ((k : Nat) : Int) tn aw mw fw ls gs sn sw kr) (hnow : vIA cy B g 142 49 Nw) (htb : vIA cy B g 147 5 Tb) (hN : 160 ≤ N) (hmc : MC Nw k c) (hc : cok c) (hTR : TR c.length Tb u) (htc : tbc c u) : CTi l yX11_isSeen wsX11_isSeen (rmo 2 45) D cy B N g [.ref (B + 141)] (if u = xsL c then 1 else 0) (fun g' => g' = g) := by
  refine WW_of (cc := cX11_isSeen) (maxL := 3) (ret := (some .boolean)) (own := RX11) (by decide) rfl rfl (Nat.le_of_ble_eq_true rfl) rfl ?_
  intro pp ee ss mm bl me co hmn
  have hk3 := hmc.1
  refine w_iconst dX11_isSeen_0 ?_
  refine w_istore_n [(1, .int (zI 1)), (0, .ref (B + 141))] dX11_isSeen_1 rfl (by decide) rfl ?_
  refine w_iconst dX11_isSeen_2 ?_
  refine w_istore_n [(2, .int (zI 0)), (1, .int (zI 1)), (0, .ref (B + 141))] dX11_isSeen_3 rfl (by decide) rfl ?_
  refine w_sub [(0, .ref (B + 141)), (1, .int (zI 1)), (2, .int (zI 0))] [2, 1, 0] rfl ?_
  refine w_lv (lv' := [(0, .ref (B + 141)), (1, .int (zI (if (∀ i : Nat, i < 0 → ((u.getD i 0 : Nat) : Int) = coX c ((i : Nat) : Int)) then 1 else 0))), (2, .int (zI ((0 : Nat) : Int)))]) (lc_s (lc_i (if_pos (fun i hi => absurd hi (Nat.not_lt_zero _))).symm (lc_i (by first | omega | with_reducible rfl) rfl))) ?_
  refine w_loop1 (fun (j : Nat) => j ≤ c.length) (fun (j : Nat) => c.length - j) (fun (j : Nat) => g) (fun (j : Nat) => [(0, .ref (B + 141)), (1, .int (zI (if (∀ i : Nat, i < j → ((u.getD i 0 : Nat) : Int) = coX c ((i : Nat) : Int)) then 1 else 0))), (2, .int (zI ((j : Nat) : Int)))]) ?_ 0 (by first | omega | with_reducible rfl)
  rintro j hj ih_4
  refine w_iload_n dX11_isSeen_4 rfl 2 rfl ?_
  refine w_aload_n dX11_isSeen_5 rfl 0 rfl ?_
  refine w_aload_n dX11_isSeen_6 rfl 0 rfl ?_
  refine w_get (i := 10) (T := TX11) (NF := 32) 141 (by first | omega | with_reducible rfl) hm rfl (fun _ h => (List.mem_cons_of_mem _ (List.mem_append_right _ h))) (by decide) (List.mem_of_getElem? (i := 1) rfl) rfl dX11_isSeen_7 ?_
  refine w_calli (As := [.int (zI ((k : Nat) : Int))]) (rest := [.int (zI ((j : Nat) : Int))]) (n := 1) (c_X11_columns (k := k) hm hnow (by first | omega | with_reducible rfl) (by first | omega | with_reducible rfl)) gX11_isSeen_X11_columns rfl rfl rfl (by decide +kernel) ⟨Nat.le_of_ble_eq_true rfl, Nat.le_of_ble_eq_true rfl⟩ rfl (by first | omega | with_reducible rfl) hm rfl (Nat.le_of_ble_eq_true rfl) ⟨Nat.zero_le _, Nat.zero_le _⟩ dX11_isSeen_10 rfl (fun g_1 hp_2 => ?_)
  subst g_1
  refine w_icmp_ge 51 dX11_isSeen_13 (by decide) (by first | omega | with_reducible rfl) (by first | omega | with_reducible rfl) (fun c_13 => ?_) (fun c_13 => ?_)
  · refine w_iload_n dX11_isSeen_51 rfl 1 rfl ?_
    have hjn : j = c.length := by omega
    subst hjn
    exact w_zret dX11_isSeen_52 rfl (by split <;> rfl) (by exact ite_congr (propext (seen_iff hc hTR.1)) (fun _ => rfl) (fun _ => rfl)) rfl
  · have hcj := hc.2 ((j : Nat) : Int) (by omega) (by omega)
    have hub := htc.2 j (by omega)
    refine w_iload_n dX11_isSeen_16 rfl 1 rfl ?_
    refine w_ifeqB 43 dX11_isSeen_17 (by decide) (fun c_17 => ?_) (fun c_17 => ?_)
    · refine w_iconst dX11_isSeen_43 ?_
      refine w_istore_n [(1, .int (zI 0)), (0, .ref (B + 141)), (2, .int (zI ((j : Nat) : Int)))] dX11_isSeen_44 rfl (by decide) rfl ?_
      refine w_iinc 2 [(2, .int (zI (((j : Nat) : Int) + 1))), (1, .int (zI 0)), (0, .ref (B + 141))] dX11_isSeen_45 rfl (by decide) rfl ?_
      refine w_goto 4 dX11_isSeen_48 (by decide) ?_
      refine w_sub [(0, .ref (B + 141)), (1, .int (zI 0)), (2, .int (zI (((j : Nat) : Int) + 1)))] [2, 1, 0] rfl ?_
      refine w_lv (lv' := [(0, .ref (B + 141)), (1, .int (zI (if (∀ i : Nat, i < (j + 1) → ((u.getD i 0 : Nat) : Int) = coX c ((i : Nat) : Int)) then 1 else 0))), (2, .int (zI (((j + 1) : Nat) : Int)))]) (lc_s (lc_i (by first | exact (if_pos (seen_y c_17 (by omega))).symm | exact (if_neg (fun q => c_17 (fun i hi => q i (by omega)))).symm | exact (if_neg (fun q => by have := q j (by omega); omega)).symm) (lc_i (by first | omega | with_reducible rfl) rfl))) ?_
      exact ih_4 (j + 1) (by first | omega | with_reducible rfl) (by first | omega | with_reducible rfl)
    · refine w_aload_n dX11_isSeen_20 rfl 0 rfl ?_
      refine w_get (i := 9) (T := TX11) (NF := 32) 141 (by first | omega | with_reducible rfl) hm rfl (fun _ h => (List.mem_cons_of_mem _ (List.mem_append_right _ h))) (by decide) (List.mem_of_getElem? (i := 2) rfl) rfl dX11_isSeen_21 ?_
      refine w_iload_n dX11_isSeen_24 rfl 2 rfl ?_
      refine w_iald 147 (by first | omega | with_reducible rfl) htb (by first | omega | with_reducible rfl) dX11_isSeen_25 ?_
      refine w_as (st' := [.int (zI ((u.getD j 0 : Nat) : Int))]) (sc_i (hTR.2 j (by omega)) rfl) ?_
      refine w_aload_n dX11_isSeen_26 rfl 0 rfl ?_
      refine w_aload_n dX11_isSeen_27 rfl 0 rfl ?_
      refine w_get (i := 10) (T := TX11) (NF := 32) 141 (by first | omega | with_reducible rfl) hm rfl (fun _ h => (List.mem_cons_of_mem _ (List.mem_append_right _ h))) (by decide) (List.mem_of_getElem? (i := 1) rfl) rfl dX11_isSeen_28 ?_
      refine w_iload_n dX11_isSeen_31 rfl 2 rfl ?_
      refine w_iconst dX11_isSeen_32 ?_
      refine w_calli (As := [.int (zI ((k : Nat) : Int)), .int (zI ((j : Nat) : Int)), .int (zI 1)]) (rest := [.int (zI ((u.getD j 0 : Nat) : Int))]) (n := 3) (c_X11_of1 (k := k) hm hnow (by first | omega | with_reducible rfl) (by first | omega | with_reducible rfl) (by first | omega | with_reducible rfl)) gX11_isSeen_X11_of rfl rfl rfl (by decide +kernel) ⟨Nat.le_of_ble_eq_true rfl, Nat.le_of_ble_eq_true rfl⟩ rfl (by first | omega | with_reducible rfl) hm rfl (Nat.le_of_ble_eq_true rfl) ⟨Nat.zero_le _, Nat.zero_le _⟩ dX11_isSeen_33 rfl (fun g_3 hp_4 => ?_)
      subst g_3
      refine w_icmp_ne 43 dX11_isSeen_36 (by decide) (by first | omega | with_reducible rfl) (by first | omega | with_reducible rfl) (fun c_36 => ?_) (fun c_36 => ?_)
      · refine w_iconst dX11_isSeen_43 ?_
        refine w_istore_n [(1, .int (zI 0)), (0, .ref (B + 141)), (2, .int (zI ((j : Nat) : Int)))] dX11_isSeen_44 rfl (by decide) rfl ?_
        refine w_iinc 2 [(2, .int (zI (((j : Nat) : Int) + 1))), (1, .int (zI 0)), (0, .ref (B + 141))] dX11_isSeen_45 rfl (by decide) rfl ?_
        refine w_goto 4 dX11_isSeen_48 (by decide) ?_
        refine w_sub [(0, .ref (B + 141)), (1, .int (zI 0)), (2, .int (zI (((j : Nat) : Int) + 1)))] [2, 1, 0] rfl ?_
        refine w_lv (lv' := [(0, .ref (B + 141)), (1, .int (zI (if (∀ i : Nat, i < (j + 1) → ((u.getD i 0 : Nat) : Int) = coX c ((i : Nat) : Int)) then 1 else 0))), (2, .int (zI (((j + 1) : Nat) : Int)))]) (lc_s (lc_i (by first | exact (if_pos (seen_y c_17 (by omega))).symm | exact (if_neg (fun q => c_17 (fun i hi => q i (by omega)))).symm | exact (if_neg (fun q => by have := q j (by omega); omega)).symm) (lc_i (by first | omega | with_reducible rfl) rfl))) ?_
        exact ih_4 (j + 1) (by first | omega | with_reducible rfl) (by first | omega | with_reducible rfl)
      · refine w_iconst dX11_isSeen_39 ?_
        refine w_goto 44 dX11_isSeen_40 (by decide) ?_
        refine w_istore_n [(1, .int (zI 1)), (0, .ref (B + 141)), (2, .int (zI ((j : Nat) : Int)))] dX11_isSeen_44 rfl (by decide) rfl ?_
        refine w_iinc 2 [(2, .int (zI (((j : Nat) : Int) + 1))), (1, .int (zI 1)), (0, .ref (B + 141))] dX11_isSeen_45 rfl (by decide) rfl ?_
        refine w_goto 4 dX11_isSeen_48 (by decide) ?_
        refine w_sub [(0, .ref (B + 141)), (1, .int (zI 1)), (2, .int (zI (((j : Nat) : Int) + 1)))] [2, 1, 0] rfl ?_
        refine w_lv (lv' := [(0, .ref (B + 141)), (1, .int (zI (if (∀ i : Nat, i < (j + 1) → ((u.getD i 0 : Nat) : Int) = coX c ((i : Nat) : Int)) then 1 else 0))), (2, .int (zI (((j + 1) : Nat) : Int)))]) (lc_s (lc_i (by first | exact (if_pos (seen_y c_17 (by omega))).symm | exact (if_neg (fun q => c_17 (fun i hi => q i (by omega)))).symm | exact (if_neg (fun q => by have := q j (by omega); omega)).symm) (lc_i (by first | omega | with_reducible rfl) rfl))) ?_
        exact ih_4 (j + 1) (by first | omega | with_reducible rfl) (by first | omega | with_reducible rfl)

set_option maxHeartbeats 4000000 in
set_option maxRecDepth 100000 in
theorem c_X11_looksAtTable {l : Launch} {D : va_G} {cy : Nat → ClassId} {B N : Nat} {g : Nat → va_E} {cg le sp va : Int} {A : Acc} {Nw Sv Tb Lk Bs : Int → Int} {k : Nat} {c : List Co} {u : List Nat} {law : Int} (hm : vM cy B g 141 cg le sp va ((k : Nat) : Int) (A.1) (A.2.1) (A.2.2.1) (A.2.2.2.2.1) (A.2.2.2.2.2.1) (A.2.2.2.2.2.2.1) (A.2.2.2.2.2.2.2.1) (A.2.2.2.2.2.2.2.2.1) (A.2.2.2.2.2.2.2.2.2)) (hnow : vIA cy B g 142 49 Nw) (hse : vLA cy B g 146 169 Sv) (htb : vIA cy B g 147 5 Tb) (hlk : vIA cy B g 148 5 Lk) (hbs : vLA cy B g 149 541 Bs) (hN : 160 ≤ N) (hmc : MC Nw k c) (hc : cok c) (hSv : SvOK Sv) (hTR : TR c.length Tb u) (hu : u ∈ tb (coL c) (coR c)) (hLk : A.1 ≠ 0 → TR c.length Lk A.2.2.2.1) (hrA : rgA A) (hA1 : 0 ≤ A.1 ∧ A.1 < 2147483647) (hlaw : 0 ≤ law ∧ law ≤ 2) : CTv l yX11_looksAtTable wsX11_looksAtTable (rmo 4 91) D cy B N g [.ref (B + 141), .int (zI law), .long (zJ (coP c)), .int (zI (coS c))] (fun g' => ∃ Lk1 : Int → Int, vM cy B g' 141 cg le sp va ((k : Nat) : Int) ((stepA c law A u).1) ((stepA c law A u).2.1) ((stepA c law A u).2.2.1) ((stepA c law A u).2.2.2.2.1) ((stepA c law A u).2.2.2.2.2.1) ((stepA c law A u).2.2.2.2.2.2.1) ((stepA c law A u).2.2.2.2.2.2.2.1) ((stepA c law A u).2.2.2.2.2.2.2.2.1) ((stepA c law A u).2.2.2.2.2.2.2.2.2) ∧ vIA cy B g' 148 5 Lk1 ∧ vLA cy B g' 149 541 (uZ Bs (sc (coL c) u) ((Bs (sc (coL c) u)) + (wt (coL c) u))) ∧ (TR c.length Lk1 (stepA c law A u).2.2.2.1) ∧ (∀ q, (q ≠ 141 ∧ q ≠ 148 ∧ q ≠ 149) → g' q = g q)) := by
  refine WW_of (cc := cX11_looksAtTable) (maxL := 9) (ret := none) (own := RX11) (by decide) rfl rfl (Nat.le_of_ble_eq_true rfl) rfl ?_
  intro pp ee ss mm bl me co hmn
  have hfr_0 : ∀ q, (q ≠ 141 ∧ q ≠ 148 ∧ q ≠ 149) → g q = g q := fun _ _ => rfl
  have hk3 := hmc.1
  have htc := tb_tbc hu
  have hw60 := wt_60 hc hu
  have hs54 := sc_540 hc hu
  obtain ⟨hr1, hr2, hr3, hr4⟩ := hrA
  have hcp := (SO_co hc).1
  have hcs := (SO_co hc).2
  refine w_aload_n dX11_looksAtTable_0 rfl 0 rfl ?_
  refine w_calll (As := []) (rest := []) (n := 0) (c_X11_tableWays hm hnow hse htb (by first | omega | with_reducible rfl) (by first | omega | with_reducible rfl) (by first | omega | with_reducible rfl) (by first | omega | with_reducible rfl) (by first | omega | with_reducible rfl) (by first | omega | with_reducible rfl)) gX11_looksAtTable_X11_tableWays rfl rfl rfl (by decide +kernel) ⟨Nat.le_of_ble_eq_true rfl, Nat.le_of_ble_eq_true rfl⟩ rfl (by first | omega | with_reducible rfl) hm rfl (Nat.le_of_ble_eq_true rfl) ⟨Nat.zero_le _, Nat.zero_le _⟩ dX11_looksAtTable_1 rfl (fun g_1 hp_2 => ?_)
  subst g_1
  refine w_lstore [(5, .long (zJ (wt (coL c) u))), (0, .ref (B + 141)), (1, .int (zI law)), (2, .long (zJ (coP c))), (4, .int (zI (coS c)))] dX11_looksAtTable_4 (by decide) rfl ?_
  refine w_aload_n dX11_looksAtTable_6 rfl 1 rfl ?_
  refine w_calli (As := []) (rest := []) (n := 0) (c_X11_tableSum hm hnow htb (by first | omega | with_reducible rfl) (by first | omega | with_reducible rfl) (by first | omega | with_reducible rfl) (by first | omega | with_reducible rfl) (by first | omega | with_reducible rfl)) gX11_looksAtTable_X11_tableSum rfl rfl rfl (by decide +kernel) ⟨Nat.le_of_ble_eq_true rfl, Nat.le_of_ble_eq_true rfl⟩ rfl (by first | omega | with_reducible rfl) hm rfl (Nat.le_of_ble_eq_true rfl) ⟨Nat.zero_le _, Nat.zero_le _⟩ dX11_looksAtTable_7 rfl (fun g_3 hp_4 => ?_)
  subst g_3
  refine w_istore [(7, .int (zI (sc (coL c) u))), (5, .long (zJ (wt (coL c) u))), (0, .ref (B + 141)), (1, .int (zI law)), (2, .long (zJ (coP c))), (4, .int (zI (coS c)))] dX11_looksAtTable_10 (by decide) rfl ?_
  refine w_aload_n dX11_looksAtTable_12 rfl 2 rfl ?_
  refine w_dup dX11_looksAtTable_13 rfl ?_
  refine w_get (i := 12) (T := TX11) (NF := 32) 141 (by first | omega | with_reducible rfl) hm rfl (fun _ h => (List.mem_cons_of_mem _ (List.mem_append_right _ h))) (by decide) (List.mem_of_getElem? (i := 1) rfl) rfl dX11_looksAtTable_14 ?_
  refine w_lload dX11_looksAtTable_17 1 rfl ?_
  refine w_ladd dX11_looksAtTable_19 ?_
  refine w_put (i := 12) (T := TX11) (NF := 32) 141 (by first | omega | with_reducible rfl) hm rfl (fun _ h => (List.mem_cons_of_mem _ (List.mem_append_right _ h))) tyX11 tyX11_ok nmX11 (by decide) (List.mem_of_getElem? (i := 1) rfl) rfl rfl rfl (Nat.le_of_ble_eq_true rfl) dX11_looksAtTable_20 (fun g_5 he_6 hn_7 => ?_)
  have hm_8 : vM cy B g_5 141 cg le sp va ((k : Nat) : Int) (A.1) ((A.2.1) + (wt (coL c) u)) (A.2.2.1) (A.2.2.2.2.1) (A.2.2.2.2.2.1) (A.2.2.2.2.2.2.1) (A.2.2.2.2.2.2.2.1) (A.2.2.2.2.2.2.2.2.1) (A.2.2.2.2.2.2.2.2.2) := he_6
  have hnow_9 : vIA cy B g_5 142 49 Nw := vIA_fr hnow (fun q h1 h2 => hn_7 q (by omega))
  have hse_10 : vLA cy B g_5 146 169 Sv := vLA_fr hse (fun q h1 h2 => hn_7 q (by omega))
  have htb_11 : vIA cy B g_5 147 5 Tb := vIA_fr htb (fun q h1 h2 => hn_7 q (by omega))
  have hlk_12 : vIA cy B g_5 148 5 Lk := vIA_fr hlk (fun q h1 h2 => hn_7 q (by omega))
  have hbs_13 : vLA cy B g_5 149 541 Bs := vLA_fr hbs (fun q h1 h2 => hn_7 q (by omega))
  have hfr_14 : ∀ q, (q ≠ 141 ∧ q ≠ 148 ∧ q ≠ 149) → g_5 q = g q := fun q hq => (hn_7 q (by omega)).trans (hfr_0 q hq)
  refine w_join2 82 (fun (Lk1 : Int → Int) (gl_15 : (Nat → va_E)) => vM cy B gl_15 141 cg le sp va ((k : Nat) : Int) (A.1) ((A.2.1) + (wt (coL c) u)) (if A.1 = 0 ∨ A.2.2.1 < (wt (coL c) u) then (wt (coL c) u) else A.2.2.1) (A.2.2.2.2.1) (A.2.2.2.2.2.1) (A.2.2.2.2.2.2.1) (A.2.2.2.2.2.2.2.1) (A.2.2.2.2.2.2.2.2.1) (A.2.2.2.2.2.2.2.2.2) ∧ vIA cy B gl_15 142 49 Nw ∧ vLA cy B gl_15 146 169 Sv ∧ vIA cy B gl_15 147 5 Tb ∧ vIA cy B gl_15 148 5 Lk1 ∧ vLA cy B gl_15 149 541 Bs ∧ (∀ q, (q ≠ 141 ∧ q ≠ 148 ∧ q ≠ 149) → gl_15 q = g q) ∧ (TR c.length Lk1 (if A.1 = 0 ∨ A.2.2.1 < (wt (coL c) u) then u else A.2.2.2.1))) (fun (Lk1 : Int → Int) (gl_15 : (Nat → va_E)) => gl_15) (fun (Lk1 : Int → Int) (gl_15 : (Nat → va_E)) => [(0, .ref (B + 141)), (1, .int (zI law)), (2, .long (zJ (coP c))), (4, .int (zI (coS c))), (5, .long (zJ (wt (coL c) u))), (7, .int (zI (sc (coL c) u)))]) (fun (Lk1 : Int → Int) (gl_15 : (Nat → va_E)) => []) (fun hj_82 => ?_) ?_
  · refine w_aload_n dX11_looksAtTable_23 rfl 2 rfl ?_
    refine w_get (i := 11) (T := TX11) (NF := 32) 141 (by first | omega | with_reducible rfl) hm_8 rfl (fun _ h => (List.mem_cons_of_mem _ (List.mem_append_right _ h))) (by decide) (List.mem_of_getElem? (i := 2) rfl) rfl dX11_looksAtTable_24 ?_
    refine w_if_eq 40 dX11_looksAtTable_27 (by decide) (by first | omega | with_reducible rfl) (fun c_27 => ?_) (fun c_27 => ?_)
    · refine w_aload_n dX11_looksAtTable_40 rfl 2 rfl ?_
      refine w_lload dX11_looksAtTable_41 1 rfl ?_
      refine w_put (i := 13) (T := TX11) (NF := 32) 141 (by first | omega | with_reducible rfl) hm_8 rfl (fun _ h => (List.mem_cons_of_mem _ (List.mem_append_right _ h))) tyX11 tyX11_ok nmX11 (by decide) (List.mem_of_getElem? (i := 3) rfl) rfl rfl rfl (Nat.le_of_ble_eq_true rfl) dX11_looksAtTable_43 (fun g_23 he_24 hn_25 => ?_)
      have hm_26 : vM cy B g_23 141 cg le sp va ((k : Nat) : Int) (A.1) ((A.2.1) + (wt (coL c) u)) (wt (coL c) u) (A.2.2.2.2.1) (A.2.2.2.2.2.1) (A.2.2.2.2.2.2.1) (A.2.2.2.2.2.2.2.1) (A.2.2.2.2.2.2.2.2.1) (A.2.2.2.2.2.2.2.2.2) := he_24
      have hnow_27 : vIA cy B g_23 142 49 Nw := vIA_fr hnow_9 (fun q h1 h2 => hn_25 q (by omega))
      have hse_28 : vLA cy B g_23 146 169 Sv := vLA_fr hse_10 (fun q h1 h2 => hn_25 q (by omega))
      have htb_29 : vIA cy B g_23 147 5 Tb := vIA_fr htb_11 (fun q h1 h2 => hn_25 q (by omega))
      have hlk_30 : vIA cy B g_23 148 5 Lk := vIA_fr hlk_12 (fun q h1 h2 => hn_25 q (by omega))
      have hbs_31 : vLA cy B g_23 149 541 Bs := vLA_fr hbs_13 (fun q h1 h2 => hn_25 q (by omega))
      have hfr_32 : ∀ q, (q ≠ 141 ∧ q ≠ 148 ∧ q ≠ 149) → g_23 q = g q := fun q hq => (hn_25 q (by omega)).trans (hfr_14 q hq)
      refine w_iconst dX11_looksAtTable_46 ?_
      refine w_istore [(8, .int (zI 0)), (7, .int (zI (sc (coL c) u))), (5, .long (zJ (wt (coL c) u))), (0, .ref (B + 141)), (1, .int (zI law)), (2, .long (zJ (coP c))), (4, .int (zI (coS c)))] dX11_looksAtTable_47 (by decide) rfl ?_
      refine w_sub [(0, .ref (B + 141)), (1, .int (zI law)), (2, .long (zJ (coP c))), (4, .int (zI (coS c))), (5, .long (zJ (wt (coL c) u))), (7, .int (zI (sc (coL c) u))), (8, .int (zI 0))] [3, 4, 5, 6, 2, 1, 0] rfl ?_
      refine w_lv (lv' := [(0, .ref (B + 141)), (1, .int (zI law)), (2, .long (zJ (coP c))), (4, .int (zI (coS c))), (5, .long (zJ (wt (coL c) u))), (7, .int (zI (sc (coL c) u))), (8, .int (zI ((0 : Nat) : Int)))]) (lc_s (lc_s (lc_s (lc_s (lc_s (lc_s (lc_i (by first | omega | with_reducible rfl) rfl))))))) ?_
      refine w_loop3 (fun (i : Nat) (Lki : Int → Int) (gl_33 : (Nat → va_E)) => vM cy B gl_33 141 cg le sp va ((k : Nat) : Int) (A.1) ((A.2.1) + (wt (coL c) u)) (wt (coL c) u) (A.2.2.2.2.1) (A.2.2.2.2.2.1) (A.2.2.2.2.2.2.1) (A.2.2.2.2.2.2.2.1) (A.2.2.2.2.2.2.2.2.1) (A.2.2.2.2.2.2.2.2.2) ∧ vIA cy B gl_33 142 49 Nw ∧ vLA cy B gl_33 146 169 Sv ∧ vIA cy B gl_33 147 5 Tb ∧ vIA cy B gl_33 148 5 Lki ∧ vLA cy B gl_33 149 541 Bs ∧ (∀ q, (q ≠ 141 ∧ q ≠ 148 ∧ q ≠ 149) → gl_33 q = g q) ∧ i ≤ c.length ∧ (∀ y : Nat, y < i → Lki ((y : Nat) : Int) = ((u.getD y 0 : Nat) : Int))) (fun (i : Nat) (Lki : Int → Int) (gl_33 : (Nat → va_E)) => c.length - i) (fun (i : Nat) (Lki : Int → Int) (gl_33 : (Nat → va_E)) => gl_33) (fun (i : Nat) (Lki : Int → Int) (gl_33 : (Nat → va_E)) => [(0, .ref (B + 141)), (1, .int (zI law)), (2, .long (zJ (coP c))), (4, .int (zI (coS c))), (5, .long (zJ (wt (coL c) u))), (7, .int (zI (sc (coL c) u))), (8, .int (zI ((i : Nat) : Int)))]) ?_ 0 Lk g_23 ⟨hm_26, hnow_27, hse_28, htb_29, hlk_30, hbs_31, hfr_32, (by first | omega | with_reducible rfl), (fun y h => absurd h (Nat.not_lt_zero _))⟩
      rintro i Lki gl_33 ⟨hm_34, hnow_35, hse_36, htb_37, hlk_38, hbs_39, hfr_40, hi, hL9⟩ ih_49
      refine w_iload dX11_looksAtTable_49 6 rfl ?_
      refine w_aload_n dX11_looksAtTable_51 rfl 0 rfl ?_
      refine w_aload_n dX11_looksAtTable_52 rfl 0 rfl ?_
      refine w_get (i := 10) (T := TX11) (NF := 32) 141 (by first | omega | with_reducible rfl) hm_34 rfl (fun _ h => (List.mem_cons_of_mem _ (List.mem_append_right _ h))) (by decide) (List.mem_of_getElem? (i := 4) rfl) rfl dX11_looksAtTable_53 ?_
      refine w_calli (As := [.int (zI ((k : Nat) : Int))]) (rest := [.int (zI ((i : Nat) : Int))]) (n := 1) (c_X11_columns (k := k) hm_34 hnow_35 (by first | omega | with_reducible rfl) (by first | omega | with_reducible rfl)) gX11_looksAtTable_X11_columns rfl rfl rfl (by decide +kernel) ⟨Nat.le_of_ble_eq_true rfl, Nat.le_of_ble_eq_true rfl⟩ rfl (by first | omega | with_reducible rfl) hm_34 rfl (Nat.le_of_ble_eq_true rfl) ⟨Nat.zero_le _, Nat.zero_le _⟩ dX11_looksAtTable_56 rfl (fun g_41 hp_42 => ?_)
      subst g_41
      refine w_icmp_ge 82 dX11_looksAtTable_59 (by decide) (by first | omega | with_reducible rfl) (by first | omega | with_reducible rfl) (fun c_59 => ?_) (fun c_59 => ?_)
      · refine w_sub [(0, .ref (B + 141)), (1, .int (zI law)), (2, .long (zJ (coP c))), (4, .int (zI (coS c))), (5, .long (zJ (wt (coL c) u))), (7, .int (zI (sc (coL c) u)))] [0, 1, 2, 3, 4, 5] rfl ?_
        refine w_lv (lv' := [(0, .ref (B + 141)), (1, .int (zI law)), (2, .long (zJ (coP c))), (4, .int (zI (coS c))), (5, .long (zJ (wt (coL c) u))), (7, .int (zI (sc (coL c) u)))]) (lc_s (lc_s (lc_s (lc_s (lc_s (lc_s rfl)))))) ?_
        exact hj_82 Lki gl_33 ⟨(by have h9 := hm_34; first | (rw [if_pos (by omega)]; exact h9) | (rw [if_neg (by omega)]; exact h9)), hnow_35, hse_36, htb_37, hlk_38, hbs_39, hfr_40, (by first | (rw [if_pos (by omega)]; exact TR_of hTR.1 (fun i hi => hL9 i (by omega))) | (rw [if_neg (by omega)]; exact hLk (by omega)))⟩
      · refine w_aload_n dX11_looksAtTable_62 rfl 0 rfl ?_
        refine w_get (i := 19) (T := TX11) (NF := 32) 141 (by first | omega | with_reducible rfl) hm_34 rfl (fun _ h => (List.mem_cons_of_mem _ (List.mem_append_right _ h))) (by decide) (List.mem_of_getElem? (i := 5) rfl) rfl dX11_looksAtTable_63 ?_
        refine w_iload dX11_looksAtTable_66 6 rfl ?_
        refine w_aload_n dX11_looksAtTable_68 rfl 0 rfl ?_
        refine w_get (i := 9) (T := TX11) (NF := 32) 141 (by first | omega | with_reducible rfl) hm_34 rfl (fun _ h => (List.mem_cons_of_mem _ (List.mem_append_right _ h))) (by decide) (List.mem_of_getElem? (i := 6) rfl) rfl dX11_looksAtTable_69 ?_
        refine w_iload dX11_looksAtTable_72 6 rfl ?_
        refine w_iald 147 (by first | omega | with_reducible rfl) htb_37 (by first | omega | with_reducible rfl) dX11_looksAtTable_74 ?_
        refine w_iast 148 (by first | omega | with_reducible rfl) hlk_38 (by first | omega | with_reducible rfl) dX11_looksAtTable_75 (fun g_43 he_44 hn_45 => ?_)
        have hm_46 : vM cy B g_43 141 cg le sp va ((k : Nat) : Int) (A.1) ((A.2.1) + (wt (coL c) u)) (wt (coL c) u) (A.2.2.2.2.1) (A.2.2.2.2.2.1) (A.2.2.2.2.2.2.1) (A.2.2.2.2.2.2.2.1) (A.2.2.2.2.2.2.2.2.1) (A.2.2.2.2.2.2.2.2.2) := vM_fr hm_34 (fun q h1 h2 => hn_45 q (by omega))
        have hnow_47 : vIA cy B g_43 142 49 Nw := vIA_fr hnow_35 (fun q h1 h2 => hn_45 q (by omega))
        have hse_48 : vLA cy B g_43 146 169 Sv := vLA_fr hse_36 (fun q h1 h2 => hn_45 q (by omega))
        have htb_49 : vIA cy B g_43 147 5 Tb := vIA_fr htb_37 (fun q h1 h2 => hn_45 q (by omega))
        have hlk_50 : vIA cy B g_43 148 5 (uZ Lki ((i : Nat) : Int) (Tb ((i : Nat) : Int))) := he_44
        have hbs_51 : vLA cy B g_43 149 541 Bs := vLA_fr hbs_39 (fun q h1 h2 => hn_45 q (by omega))
        have hfr_52 : ∀ q, (q ≠ 141 ∧ q ≠ 148 ∧ q ≠ 149) → g_43 q = g q := fun q hq => (hn_45 q (by omega)).trans (hfr_40 q hq)
        refine w_iinc 6 [(8, .int (zI (((i : Nat) : Int) + 1))), (0, .ref (B + 141)), (1, .int (zI law)), (2, .long (zJ (coP c))), (4, .int (zI (coS c))), (5, .long (zJ (wt (coL c) u))), (7, .int (zI (sc (coL c) u)))] dX11_looksAtTable_76 rfl (by decide) rfl ?_
        refine w_goto 49 dX11_looksAtTable_79 (by decide) ?_
        refine w_sub [(0, .ref (B + 141)), (1, .int (zI law)), (2, .long (zJ (coP c))), (4, .int (zI (coS c))), (5, .long (zJ (wt (coL c) u))), (7, .int (zI (sc (coL c) u))), (8, .int (zI (((i : Nat) : Int) + 1)))] [1, 2, 3, 4, 5, 6, 0] rfl ?_
        refine w_lv (lv' := [(0, .ref (B + 141)), (1, .int (zI law)), (2, .long (zJ (coP c))), (4, .int (zI (coS c))), (5, .long (zJ (wt (coL c) u))), (7, .int (zI (sc (coL c) u))), (8, .int (zI (((i + 1) : Nat) : Int)))]) (lc_s (lc_s (lc_s (lc_s (lc_s (lc_s (lc_i (by first | omega | with_reducible rfl) rfl))))))) ?_
        exact ih_49 (i + 1) (uZ Lki ((i : Nat) : Int) (Tb ((i : Nat) : Int))) g_43 ⟨hm_46, hnow_47, hse_48, htb_49, hlk_50, hbs_51, hfr_52, (by first | omega | with_reducible rfl), (fin_st hL9 (hTR.2 i (by omega)))⟩ (by first | omega | with_reducible rfl)
    · refine w_lload dX11_looksAtTable_30 1 rfl ?_
      refine w_aload_n dX11_looksAtTable_32 rfl 2 rfl ?_
      refine w_get (i := 13) (T := TX11) (NF := 32) 141 (by first | omega | with_reducible rfl) hm_8 rfl (fun _ h => (List.mem_cons_of_mem _ (List.mem_append_right _ h))) (by decide) (List.mem_of_getElem? (i := 3) rfl) rfl dX11_looksAtTable_33 ?_
      refine w_lcmp_le 82 dX11_looksAtTable_36 dX11_looksAtTable_37 (by decide) (by first | omega | with_reducible rfl) (by first | omega | with_reducible rfl) (fun c_36 => ?_) (fun c_36 => ?_)
      · refine w_sub [(0, .ref (B + 141)), (1, .int (zI law)), (2, .long (zJ (coP c))), (4, .int (zI (coS c))), (5, .long (zJ (wt (coL c) u))), (7, .int (zI (sc (coL c) u)))] [2, 3, 4, 5, 1, 0] rfl ?_
        refine w_lv (lv' := [(0, .ref (B + 141)), (1, .int (zI law)), (2, .long (zJ (coP c))), (4, .int (zI (coS c))), (5, .long (zJ (wt (coL c) u))), (7, .int (zI (sc (coL c) u)))]) (lc_s (lc_s (lc_s (lc_s (lc_s (lc_s rfl)))))) ?_
        exact hj_82 Lk g_5 ⟨(by have h9 := hm_8; first | (rw [if_pos (by omega)]; exact h9) | (rw [if_neg (by omega)]; exact h9)), hnow_9, hse_10, htb_11, hlk_12, hbs_13, hfr_14, (by first | (rw [if_pos (by omega)]; exact TR_of hTR.1 (fun i hi => hL9 i (by omega))) | (rw [if_neg (by omega)]; exact hLk (by omega)))⟩
      · refine w_aload_n dX11_looksAtTable_40 rfl 2 rfl ?_
        refine w_lload dX11_looksAtTable_41 1 rfl ?_
        refine w_put (i := 13) (T := TX11) (NF := 32) 141 (by first | omega | with_reducible rfl) hm_8 rfl (fun _ h => (List.mem_cons_of_mem _ (List.mem_append_right _ h))) tyX11 tyX11_ok nmX11 (by decide) (List.mem_of_getElem? (i := 3) rfl) rfl rfl rfl (Nat.le_of_ble_eq_true rfl) dX11_looksAtTable_43 (fun g_53 he_54 hn_55 => ?_)
        have hm_56 : vM cy B g_53 141 cg le sp va ((k : Nat) : Int) (A.1) ((A.2.1) + (wt (coL c) u)) (wt (coL c) u) (A.2.2.2.2.1) (A.2.2.2.2.2.1) (A.2.2.2.2.2.2.1) (A.2.2.2.2.2.2.2.1) (A.2.2.2.2.2.2.2.2.1) (A.2.2.2.2.2.2.2.2.2) := he_54
        have hnow_57 : vIA cy B g_53 142 49 Nw := vIA_fr hnow_9 (fun q h1 h2 => hn_55 q (by omega))
        have hse_58 : vLA cy B g_53 146 169 Sv := vLA_fr hse_10 (fun q h1 h2 => hn_55 q (by omega))
        have htb_59 : vIA cy B g_53 147 5 Tb := vIA_fr htb_11 (fun q h1 h2 => hn_55 q (by omega))
        have hlk_60 : vIA cy B g_53 148 5 Lk := vIA_fr hlk_12 (fun q h1 h2 => hn_55 q (by omega))
        have hbs_61 : vLA cy B g_53 149 541 Bs := vLA_fr hbs_13 (fun q h1 h2 => hn_55 q (by omega))
        have hfr_62 : ∀ q, (q ≠ 141 ∧ q ≠ 148 ∧ q ≠ 149) → g_53 q = g q := fun q hq => (hn_55 q (by omega)).trans (hfr_14 q hq)
        refine w_iconst dX11_looksAtTable_46 ?_
        refine w_istore [(8, .int (zI 0)), (7, .int (zI (sc (coL c) u))), (5, .long (zJ (wt (coL c) u))), (0, .ref (B + 141)), (1, .int (zI law)), (2, .long (zJ (coP c))), (4, .int (zI (coS c)))] dX11_looksAtTable_47 (by decide) rfl ?_
        refine w_sub [(0, .ref (B + 141)), (1, .int (zI law)), (2, .long (zJ (coP c))), (4, .int (zI (coS c))), (5, .long (zJ (wt (coL c) u))), (7, .int (zI (sc (coL c) u))), (8, .int (zI 0))] [3, 4, 5, 6, 2, 1, 0] rfl ?_
        refine w_lv (lv' := [(0, .ref (B + 141)), (1, .int (zI law)), (2, .long (zJ (coP c))), (4, .int (zI (coS c))), (5, .long (zJ (wt (coL c) u))), (7, .int (zI (sc (coL c) u))), (8, .int (zI ((0 : Nat) : Int)))]) (lc_s (lc_s (lc_s (lc_s (lc_s (lc_s (lc_i (by first | omega | with_reducible rfl) rfl))))))) ?_
        refine w_loop3 (fun (i : Nat) (Lki : Int → Int) (gl_63 : (Nat → va_E)) => vM cy B gl_63 141 cg le sp va ((k : Nat) : Int) (A.1) ((A.2.1) + (wt (coL c) u)) (wt (coL c) u) (A.2.2.2.2.1) (A.2.2.2.2.2.1) (A.2.2.2.2.2.2.1) (A.2.2.2.2.2.2.2.1) (A.2.2.2.2.2.2.2.2.1) (A.2.2.2.2.2.2.2.2.2) ∧ vIA cy B gl_63 142 49 Nw ∧ vLA cy B gl_63 146 169 Sv ∧ vIA cy B gl_63 147 5 Tb ∧ vIA cy B gl_63 148 5 Lki ∧ vLA cy B gl_63 149 541 Bs ∧ (∀ q, (q ≠ 141 ∧ q ≠ 148 ∧ q ≠ 149) → gl_63 q = g q) ∧ i ≤ c.length ∧ (∀ y : Nat, y < i → Lki ((y : Nat) : Int) = ((u.getD y 0 : Nat) : Int))) (fun (i : Nat) (Lki : Int → Int) (gl_63 : (Nat → va_E)) => c.length - i) (fun (i : Nat) (Lki : Int → Int) (gl_63 : (Nat → va_E)) => gl_63) (fun (i : Nat) (Lki : Int → Int) (gl_63 : (Nat → va_E)) => [(0, .ref (B + 141)), (1, .int (zI law)), (2, .long (zJ (coP c))), (4, .int (zI (coS c))), (5, .long (zJ (wt (coL c) u))), (7, .int (zI (sc (coL c) u))), (8, .int (zI ((i : Nat) : Int)))]) ?_ 0 Lk g_53 ⟨hm_56, hnow_57, hse_58, htb_59, hlk_60, hbs_61, hfr_62, (by first | omega | with_reducible rfl), (fun y h => absurd h (Nat.not_lt_zero _))⟩
        rintro i Lki gl_63 ⟨hm_64, hnow_65, hse_66, htb_67, hlk_68, hbs_69, hfr_70, hi, hL9⟩ ih_49
        refine w_iload dX11_looksAtTable_49 6 rfl ?_
        refine w_aload_n dX11_looksAtTable_51 rfl 0 rfl ?_
        refine w_aload_n dX11_looksAtTable_52 rfl 0 rfl ?_
        refine w_get (i := 10) (T := TX11) (NF := 32) 141 (by first | omega | with_reducible rfl) hm_64 rfl (fun _ h => (List.mem_cons_of_mem _ (List.mem_append_right _ h))) (by decide) (List.mem_of_getElem? (i := 4) rfl) rfl dX11_looksAtTable_53 ?_
        refine w_calli (As := [.int (zI ((k : Nat) : Int))]) (rest := [.int (zI ((i : Nat) : Int))]) (n := 1) (c_X11_columns (k := k) hm_64 hnow_65 (by first | omega | with_reducible rfl) (by first | omega | with_reducible rfl)) gX11_looksAtTable_X11_columns rfl rfl rfl (by decide +kernel) ⟨Nat.le_of_ble_eq_true rfl, Nat.le_of_ble_eq_true rfl⟩ rfl (by first | omega | with_reducible rfl) hm_64 rfl (Nat.le_of_ble_eq_true rfl) ⟨Nat.zero_le _, Nat.zero_le _⟩ dX11_looksAtTable_56 rfl (fun g_71 hp_72 => ?_)
        subst g_71
        refine w_icmp_ge 82 dX11_looksAtTable_59 (by decide) (by first | omega | with_reducible rfl) (by first | omega | with_reducible rfl) (fun c_59 => ?_) (fun c_59 => ?_)
        · refine w_sub [(0, .ref (B + 141)), (1, .int (zI law)), (2, .long (zJ (coP c))), (4, .int (zI (coS c))), (5, .long (zJ (wt (coL c) u))), (7, .int (zI (sc (coL c) u)))] [0, 1, 2, 3, 4, 5] rfl ?_
          refine w_lv (lv' := [(0, .ref (B + 141)), (1, .int (zI law)), (2, .long (zJ (coP c))), (4, .int (zI (coS c))), (5, .long (zJ (wt (coL c) u))), (7, .int (zI (sc (coL c) u)))]) (lc_s (lc_s (lc_s (lc_s (lc_s (lc_s rfl)))))) ?_
          exact hj_82 Lki gl_63 ⟨(by have h9 := hm_64; first | (rw [if_pos (by omega)]; exact h9) | (rw [if_neg (by omega)]; exact h9)), hnow_65, hse_66, htb_67, hlk_68, hbs_69, hfr_70, (by first | (rw [if_pos (by omega)]; exact TR_of hTR.1 (fun i hi => hL9 i (by omega))) | (rw [if_neg (by omega)]; exact hLk (by omega)))⟩
        · refine w_aload_n dX11_looksAtTable_62 rfl 0 rfl ?_
          refine w_get (i := 19) (T := TX11) (NF := 32) 141 (by first | omega | with_reducible rfl) hm_64 rfl (fun _ h => (List.mem_cons_of_mem _ (List.mem_append_right _ h))) (by decide) (List.mem_of_getElem? (i := 5) rfl) rfl dX11_looksAtTable_63 ?_
          refine w_iload dX11_looksAtTable_66 6 rfl ?_
          refine w_aload_n dX11_looksAtTable_68 rfl 0 rfl ?_
          refine w_get (i := 9) (T := TX11) (NF := 32) 141 (by first | omega | with_reducible rfl) hm_64 rfl (fun _ h => (List.mem_cons_of_mem _ (List.mem_append_right _ h))) (by decide) (List.mem_of_getElem? (i := 6) rfl) rfl dX11_looksAtTable_69 ?_
          refine w_iload dX11_looksAtTable_72 6 rfl ?_
          refine w_iald 147 (by first | omega | with_reducible rfl) htb_67 (by first | omega | with_reducible rfl) dX11_looksAtTable_74 ?_
          refine w_iast 148 (by first | omega | with_reducible rfl) hlk_68 (by first | omega | with_reducible rfl) dX11_looksAtTable_75 (fun g_73 he_74 hn_75 => ?_)
          have hm_76 : vM cy B g_73 141 cg le sp va ((k : Nat) : Int) (A.1) ((A.2.1) + (wt (coL c) u)) (wt (coL c) u) (A.2.2.2.2.1) (A.2.2.2.2.2.1) (A.2.2.2.2.2.2.1) (A.2.2.2.2.2.2.2.1) (A.2.2.2.2.2.2.2.2.1) (A.2.2.2.2.2.2.2.2.2) := vM_fr hm_64 (fun q h1 h2 => hn_75 q (by omega))
          have hnow_77 : vIA cy B g_73 142 49 Nw := vIA_fr hnow_65 (fun q h1 h2 => hn_75 q (by omega))
          have hse_78 : vLA cy B g_73 146 169 Sv := vLA_fr hse_66 (fun q h1 h2 => hn_75 q (by omega))
          have htb_79 : vIA cy B g_73 147 5 Tb := vIA_fr htb_67 (fun q h1 h2 => hn_75 q (by omega))
          have hlk_80 : vIA cy B g_73 148 5 (uZ Lki ((i : Nat) : Int) (Tb ((i : Nat) : Int))) := he_74
          have hbs_81 : vLA cy B g_73 149 541 Bs := vLA_fr hbs_69 (fun q h1 h2 => hn_75 q (by omega))
          have hfr_82 : ∀ q, (q ≠ 141 ∧ q ≠ 148 ∧ q ≠ 149) → g_73 q = g q := fun q hq => (hn_75 q (by omega)).trans (hfr_70 q hq)
          refine w_iinc 6 [(8, .int (zI (((i : Nat) : Int) + 1))), (0, .ref (B + 141)), (1, .int (zI law)), (2, .long (zJ (coP c))), (4, .int (zI (coS c))), (5, .long (zJ (wt (coL c) u))), (7, .int (zI (sc (coL c) u)))] dX11_looksAtTable_76 rfl (by decide) rfl ?_
          refine w_goto 49 dX11_looksAtTable_79 (by decide) ?_
          refine w_sub [(0, .ref (B + 141)), (1, .int (zI law)), (2, .long (zJ (coP c))), (4, .int (zI (coS c))), (5, .long (zJ (wt (coL c) u))), (7, .int (zI (sc (coL c) u))), (8, .int (zI (((i : Nat) : Int) + 1)))] [1, 2, 3, 4, 5, 6, 0] rfl ?_
          refine w_lv (lv' := [(0, .ref (B + 141)), (1, .int (zI law)), (2, .long (zJ (coP c))), (4, .int (zI (coS c))), (5, .long (zJ (wt (coL c) u))), (7, .int (zI (sc (coL c) u))), (8, .int (zI (((i + 1) : Nat) : Int)))]) (lc_s (lc_s (lc_s (lc_s (lc_s (lc_s (lc_i (by first | omega | with_reducible rfl) rfl))))))) ?_
          exact ih_49 (i + 1) (uZ Lki ((i : Nat) : Int) (Tb ((i : Nat) : Int))) g_73 ⟨hm_76, hnow_77, hse_78, htb_79, hlk_80, hbs_81, hfr_82, (by first | omega | with_reducible rfl), (fin_st hL9 (hTR.2 i (by omega)))⟩ (by first | omega | with_reducible rfl)
  · rintro Lk1 gl_15 ⟨hm_16, hnow_17, hse_18, htb_19, hlk_20, hbs_21, hfr_22, hLk1⟩
    refine w_aload_n dX11_looksAtTable_82 rfl 0 rfl ?_
    refine w_join1 109 (fun (u9 : Unit) => True) (fun (u9 : Unit) => gl_15) (fun (u9 : Unit) => [(0, .ref (B + 141)), (1, .int (zI law)), (2, .long (zJ (coP c))), (4, .int (zI (coS c))), (5, .long (zJ (wt (coL c) u))), (7, .int (zI (sc (coL c) u)))]) (fun (u9 : Unit) => [.long (zJ (if A.1 = 0 ∨ (wt (coL c) u) < A.2.2.2.2.1 then (wt (coL c) u) else A.2.2.2.2.1)), .ref (B + 141)]) (fun hj_109 => ?_) ?_
    · refine w_aload_n dX11_looksAtTable_83 rfl 0 rfl ?_
      refine w_get (i := 11) (T := TX11) (NF := 32) 141 (by first | omega | with_reducible rfl) hm_16 rfl (fun _ h => (List.mem_cons_of_mem _ (List.mem_append_right _ h))) (by decide) (List.mem_of_getElem? (i := 2) rfl) rfl dX11_looksAtTable_84 ?_
      refine w_if_eq 100 dX11_looksAtTable_87 (by decide) (by first | omega | with_reducible rfl) (fun c_87 => ?_) (fun c_87 => ?_)
      · refine w_lload dX11_looksAtTable_100 4 rfl ?_
        refine w_goto 109 dX11_looksAtTable_102 (by decide) ?_
        refine w_sub [(0, .ref (B + 141)), (1, .int (zI law)), (2, .long (zJ (coP c))), (4, .int (zI (coS c))), (5, .long (zJ (wt (coL c) u))), (7, .int (zI (sc (coL c) u)))] [0, 1, 2, 3, 4, 5] rfl ?_
        refine w_lv (lv' := [(0, .ref (B + 141)), (1, .int (zI law)), (2, .long (zJ (coP c))), (4, .int (zI (coS c))), (5, .long (zJ (wt (coL c) u))), (7, .int (zI (sc (coL c) u)))]) (lc_s (lc_s (lc_s (lc_s (lc_s (lc_s rfl)))))) ?_
        refine w_as (st' := [.long (zJ (if A.1 = 0 ∨ (wt (coL c) u) < A.2.2.2.2.1 then (wt (coL c) u) else A.2.2.2.2.1)), .ref (B + 141)]) (sc_l (by first | exact (if_pos (by omega)).symm | exact (if_neg (by omega)).symm) rfl) ?_
        exact hj_109 () trivial
      · refine w_lload dX11_looksAtTable_90 4 rfl ?_
        refine w_aload_n dX11_looksAtTable_92 rfl 0 rfl ?_
        refine w_get (i := 14) (T := TX11) (NF := 32) 141 (by first | omega | with_reducible rfl) hm_16 rfl (fun _ h => (List.mem_cons_of_mem _ (List.mem_append_right _ h))) (by decide) (List.mem_of_getElem? (i := 7) rfl) rfl dX11_looksAtTable_93 ?_
        refine w_lcmp_ge 105 dX11_looksAtTable_96 dX11_looksAtTable_97 (by decide) (by first | omega | with_reducible rfl) (by first | omega | with_reducible rfl) (fun c_96 => ?_) (fun c_96 => ?_)
        · refine w_aload_n dX11_looksAtTable_105 rfl 0 rfl ?_
          refine w_get (i := 14) (T := TX11) (NF := 32) 141 (by first | omega | with_reducible rfl) hm_16 rfl (fun _ h => (List.mem_cons_of_mem _ (List.mem_append_right _ h))) (by decide) (List.mem_of_getElem? (i := 7) rfl) rfl dX11_looksAtTable_106 ?_
          refine w_sub [(0, .ref (B + 141)), (1, .int (zI law)), (2, .long (zJ (coP c))), (4, .int (zI (coS c))), (5, .long (zJ (wt (coL c) u))), (7, .int (zI (sc (coL c) u)))] [0, 1, 2, 3, 4, 5] rfl ?_
          refine w_lv (lv' := [(0, .ref (B + 141)), (1, .int (zI law)), (2, .long (zJ (coP c))), (4, .int (zI (coS c))), (5, .long (zJ (wt (coL c) u))), (7, .int (zI (sc (coL c) u)))]) (lc_s (lc_s (lc_s (lc_s (lc_s (lc_s rfl)))))) ?_
          refine w_as (st' := [.long (zJ (if A.1 = 0 ∨ (wt (coL c) u) < A.2.2.2.2.1 then (wt (coL c) u) else A.2.2.2.2.1)), .ref (B + 141)]) (sc_l (by first | exact (if_pos (by omega)).symm | exact (if_neg (by omega)).symm) rfl) ?_
          exact hj_109 () trivial
        · refine w_lload dX11_looksAtTable_100 4 rfl ?_
          refine w_goto 109 dX11_looksAtTable_102 (by decide) ?_
          refine w_sub [(0, .ref (B + 141)), (1, .int (zI law)), (2, .long (zJ (coP c))), (4, .int (zI (coS c))), (5, .long (zJ (wt (coL c) u))), (7, .int (zI (sc (coL c) u)))] [0, 1, 2, 3, 4, 5] rfl ?_
          refine w_lv (lv' := [(0, .ref (B + 141)), (1, .int (zI law)), (2, .long (zJ (coP c))), (4, .int (zI (coS c))), (5, .long (zJ (wt (coL c) u))), (7, .int (zI (sc (coL c) u)))]) (lc_s (lc_s (lc_s (lc_s (lc_s (lc_s rfl)))))) ?_
          refine w_as (st' := [.long (zJ (if A.1 = 0 ∨ (wt (coL c) u) < A.2.2.2.2.1 then (wt (coL c) u) else A.2.2.2.2.1)), .ref (B + 141)]) (sc_l (by first | exact (if_pos (by omega)).symm | exact (if_neg (by omega)).symm) rfl) ?_
          exact hj_109 () trivial
    · rintro u9 _
      refine w_put (i := 14) (T := TX11) (NF := 32) 141 (by first | omega | with_reducible rfl) hm_16 rfl (fun _ h => (List.mem_cons_of_mem _ (List.mem_append_right _ h))) tyX11 tyX11_ok nmX11 (by decide) (List.mem_of_getElem? (i := 7) rfl) rfl rfl rfl (Nat.le_of_ble_eq_true rfl) dX11_looksAtTable_109 (fun g_83 he_84 hn_85 => ?_)
      have hm_86 : vM cy B g_83 141 cg le sp va ((k : Nat) : Int) (A.1) ((A.2.1) + (wt (coL c) u)) (if A.1 = 0 ∨ A.2.2.1 < (wt (coL c) u) then (wt (coL c) u) else A.2.2.1) (if A.1 = 0 ∨ (wt (coL c) u) < A.2.2.2.2.1 then (wt (coL c) u) else A.2.2.2.2.1) (A.2.2.2.2.2.1) (A.2.2.2.2.2.2.1) (A.2.2.2.2.2.2.2.1) (A.2.2.2.2.2.2.2.2.1) (A.2.2.2.2.2.2.2.2.2) := he_84
      have hnow_87 : vIA cy B g_83 142 49 Nw := vIA_fr hnow_17 (fun q h1 h2 => hn_85 q (by omega))
      have hse_88 : vLA cy B g_83 146 169 Sv := vLA_fr hse_18 (fun q h1 h2 => hn_85 q (by omega))
      have htb_89 : vIA cy B g_83 147 5 Tb := vIA_fr htb_19 (fun q h1 h2 => hn_85 q (by omega))
      have hlk_90 : vIA cy B g_83 148 5 Lk1 := vIA_fr hlk_20 (fun q h1 h2 => hn_85 q (by omega))
      have hbs_91 : vLA cy B g_83 149 541 Bs := vLA_fr hbs_21 (fun q h1 h2 => hn_85 q (by omega))
      have hfr_92 : ∀ q, (q ≠ 141 ∧ q ≠ 148 ∧ q ≠ 149) → g_83 q = g q := fun q hq => (hn_85 q (by omega)).trans (hfr_22 q hq)
      refine w_aload_n dX11_looksAtTable_112 rfl 0 rfl ?_
      refine w_join1 138 (fun (u9 : Unit) => True) (fun (u9 : Unit) => g_83) (fun (u9 : Unit) => [(0, .ref (B + 141)), (1, .int (zI law)), (2, .long (zJ (coP c))), (4, .int (zI (coS c))), (5, .long (zJ (wt (coL c) u))), (7, .int (zI (sc (coL c) u)))]) (fun (u9 : Unit) => [.int (zI (if A.1 = 0 ∨ (sc (coL c) u) < A.2.2.2.2.2.1 then (sc (coL c) u) else A.2.2.2.2.2.1)), .ref (B + 141)]) (fun hj_138 => ?_) ?_
      · refine w_aload_n dX11_looksAtTable_113 rfl 0 rfl ?_
        refine w_get (i := 11) (T := TX11) (NF := 32) 141 (by first | omega | with_reducible rfl) hm_86 rfl (fun _ h => (List.mem_cons_of_mem _ (List.mem_append_right _ h))) (by decide) (List.mem_of_getElem? (i := 2) rfl) rfl dX11_looksAtTable_114 ?_
        refine w_if_eq 129 dX11_looksAtTable_117 (by decide) (by first | omega | with_reducible rfl) (fun c_117 => ?_) (fun c_117 => ?_)
        · refine w_iload dX11_looksAtTable_129 5 rfl ?_
          refine w_goto 138 dX11_looksAtTable_131 (by decide) ?_
          refine w_sub [(0, .ref (B + 141)), (1, .int (zI law)), (2, .long (zJ (coP c))), (4, .int (zI (coS c))), (5, .long (zJ (wt (coL c) u))), (7, .int (zI (sc (coL c) u)))] [0, 1, 2, 3, 4, 5] rfl ?_
          refine w_lv (lv' := [(0, .ref (B + 141)), (1, .int (zI law)), (2, .long (zJ (coP c))), (4, .int (zI (coS c))), (5, .long (zJ (wt (coL c) u))), (7, .int (zI (sc (coL c) u)))]) (lc_s (lc_s (lc_s (lc_s (lc_s (lc_s rfl)))))) ?_
          refine w_as (st' := [.int (zI (if A.1 = 0 ∨ (sc (coL c) u) < A.2.2.2.2.2.1 then (sc (coL c) u) else A.2.2.2.2.2.1)), .ref (B + 141)]) (sc_i (by first | exact (if_pos (by omega)).symm | exact (if_neg (by omega)).symm) rfl) ?_
          exact hj_138 () trivial
        · refine w_iload dX11_looksAtTable_120 5 rfl ?_
          refine w_aload_n dX11_looksAtTable_122 rfl 0 rfl ?_
          refine w_get (i := 15) (T := TX11) (NF := 32) 141 (by first | omega | with_reducible rfl) hm_86 rfl (fun _ h => (List.mem_cons_of_mem _ (List.mem_append_right _ h))) (by decide) (List.mem_of_getElem? (i := 8) rfl) rfl dX11_looksAtTable_123 ?_
          refine w_icmp_ge 134 dX11_looksAtTable_126 (by decide) (by first | omega | with_reducible rfl) (by first | omega | with_reducible rfl) (fun c_126 => ?_) (fun c_126 => ?_)
          · refine w_aload_n dX11_looksAtTable_134 rfl 0 rfl ?_
            refine w_get (i := 15) (T := TX11) (NF := 32) 141 (by first | omega | with_reducible rfl) hm_86 rfl (fun _ h => (List.mem_cons_of_mem _ (List.mem_append_right _ h))) (by decide) (List.mem_of_getElem? (i := 8) rfl) rfl dX11_looksAtTable_135 ?_
            refine w_sub [(0, .ref (B + 141)), (1, .int (zI law)), (2, .long (zJ (coP c))), (4, .int (zI (coS c))), (5, .long (zJ (wt (coL c) u))), (7, .int (zI (sc (coL c) u)))] [0, 1, 2, 3, 4, 5] rfl ?_
            refine w_lv (lv' := [(0, .ref (B + 141)), (1, .int (zI law)), (2, .long (zJ (coP c))), (4, .int (zI (coS c))), (5, .long (zJ (wt (coL c) u))), (7, .int (zI (sc (coL c) u)))]) (lc_s (lc_s (lc_s (lc_s (lc_s (lc_s rfl)))))) ?_
            refine w_as (st' := [.int (zI (if A.1 = 0 ∨ (sc (coL c) u) < A.2.2.2.2.2.1 then (sc (coL c) u) else A.2.2.2.2.2.1)), .ref (B + 141)]) (sc_i (by first | exact (if_pos (by omega)).symm | exact (if_neg (by omega)).symm) rfl) ?_
            exact hj_138 () trivial
          · refine w_iload dX11_looksAtTable_129 5 rfl ?_
            refine w_goto 138 dX11_looksAtTable_131 (by decide) ?_
            refine w_sub [(0, .ref (B + 141)), (1, .int (zI law)), (2, .long (zJ (coP c))), (4, .int (zI (coS c))), (5, .long (zJ (wt (coL c) u))), (7, .int (zI (sc (coL c) u)))] [0, 1, 2, 3, 4, 5] rfl ?_
            refine w_lv (lv' := [(0, .ref (B + 141)), (1, .int (zI law)), (2, .long (zJ (coP c))), (4, .int (zI (coS c))), (5, .long (zJ (wt (coL c) u))), (7, .int (zI (sc (coL c) u)))]) (lc_s (lc_s (lc_s (lc_s (lc_s (lc_s rfl)))))) ?_
            refine w_as (st' := [.int (zI (if A.1 = 0 ∨ (sc (coL c) u) < A.2.2.2.2.2.1 then (sc (coL c) u) else A.2.2.2.2.2.1)), .ref (B + 141)]) (sc_i (by first | exact (if_pos (by omega)).symm | exact (if_neg (by omega)).symm) rfl) ?_
            exact hj_138 () trivial
      · rintro u9 _
        refine w_put (i := 15) (T := TX11) (NF := 32) 141 (by first | omega | with_reducible rfl) hm_86 rfl (fun _ h => (List.mem_cons_of_mem _ (List.mem_append_right _ h))) tyX11 tyX11_ok nmX11 (by decide) (List.mem_of_getElem? (i := 8) rfl) rfl rfl rfl (Nat.le_of_ble_eq_true rfl) dX11_looksAtTable_138 (fun g_93 he_94 hn_95 => ?_)
        have hm_96 : vM cy B g_93 141 cg le sp va ((k : Nat) : Int) (A.1) ((A.2.1) + (wt (coL c) u)) (if A.1 = 0 ∨ A.2.2.1 < (wt (coL c) u) then (wt (coL c) u) else A.2.2.1) (if A.1 = 0 ∨ (wt (coL c) u) < A.2.2.2.2.1 then (wt (coL c) u) else A.2.2.2.2.1) (if A.1 = 0 ∨ (sc (coL c) u) < A.2.2.2.2.2.1 then (sc (coL c) u) else A.2.2.2.2.2.1) (A.2.2.2.2.2.2.1) (A.2.2.2.2.2.2.2.1) (A.2.2.2.2.2.2.2.2.1) (A.2.2.2.2.2.2.2.2.2) := he_94
        have hnow_97 : vIA cy B g_93 142 49 Nw := vIA_fr hnow_87 (fun q h1 h2 => hn_95 q (by omega))
        have hse_98 : vLA cy B g_93 146 169 Sv := vLA_fr hse_88 (fun q h1 h2 => hn_95 q (by omega))
        have htb_99 : vIA cy B g_93 147 5 Tb := vIA_fr htb_89 (fun q h1 h2 => hn_95 q (by omega))
        have hlk_100 : vIA cy B g_93 148 5 Lk1 := vIA_fr hlk_90 (fun q h1 h2 => hn_95 q (by omega))
        have hbs_101 : vLA cy B g_93 149 541 Bs := vLA_fr hbs_91 (fun q h1 h2 => hn_95 q (by omega))
        have hfr_102 : ∀ q, (q ≠ 141 ∧ q ≠ 148 ∧ q ≠ 149) → g_93 q = g q := fun q hq => (hn_95 q (by omega)).trans (hfr_92 q hq)
        refine w_aload_n dX11_looksAtTable_141 rfl 0 rfl ?_
        refine w_join1 167 (fun (u9 : Unit) => True) (fun (u9 : Unit) => g_93) (fun (u9 : Unit) => [(0, .ref (B + 141)), (1, .int (zI law)), (2, .long (zJ (coP c))), (4, .int (zI (coS c))), (5, .long (zJ (wt (coL c) u))), (7, .int (zI (sc (coL c) u)))]) (fun (u9 : Unit) => [.int (zI (if A.1 = 0 ∨ A.2.2.2.2.2.2.1 < (sc (coL c) u) then (sc (coL c) u) else A.2.2.2.2.2.2.1)), .ref (B + 141)]) (fun hj_167 => ?_) ?_
        · refine w_aload_n dX11_looksAtTable_142 rfl 0 rfl ?_
          refine w_get (i := 11) (T := TX11) (NF := 32) 141 (by first | omega | with_reducible rfl) hm_96 rfl (fun _ h => (List.mem_cons_of_mem _ (List.mem_append_right _ h))) (by decide) (List.mem_of_getElem? (i := 2) rfl) rfl dX11_looksAtTable_143 ?_
          refine w_if_eq 158 dX11_looksAtTable_146 (by decide) (by first | omega | with_reducible rfl) (fun c_146 => ?_) (fun c_146 => ?_)
          · refine w_iload dX11_looksAtTable_158 5 rfl ?_
            refine w_goto 167 dX11_looksAtTable_160 (by decide) ?_
            refine w_sub [(0, .ref (B + 141)), (1, .int (zI law)), (2, .long (zJ (coP c))), (4, .int (zI (coS c))), (5, .long (zJ (wt (coL c) u))), (7, .int (zI (sc (coL c) u)))] [0, 1, 2, 3, 4, 5] rfl ?_
            refine w_lv (lv' := [(0, .ref (B + 141)), (1, .int (zI law)), (2, .long (zJ (coP c))), (4, .int (zI (coS c))), (5, .long (zJ (wt (coL c) u))), (7, .int (zI (sc (coL c) u)))]) (lc_s (lc_s (lc_s (lc_s (lc_s (lc_s rfl)))))) ?_
            refine w_as (st' := [.int (zI (if A.1 = 0 ∨ A.2.2.2.2.2.2.1 < (sc (coL c) u) then (sc (coL c) u) else A.2.2.2.2.2.2.1)), .ref (B + 141)]) (sc_i (by first | exact (if_pos (by omega)).symm | exact (if_neg (by omega)).symm) rfl) ?_
            exact hj_167 () trivial
          · refine w_iload dX11_looksAtTable_149 5 rfl ?_
            refine w_aload_n dX11_looksAtTable_151 rfl 0 rfl ?_
            refine w_get (i := 16) (T := TX11) (NF := 32) 141 (by first | omega | with_reducible rfl) hm_96 rfl (fun _ h => (List.mem_cons_of_mem _ (List.mem_append_right _ h))) (by decide) (List.mem_of_getElem? (i := 9) rfl) rfl dX11_looksAtTable_152 ?_
            refine w_icmp_le 163 dX11_looksAtTable_155 (by decide) (by first | omega | with_reducible rfl) (by first | omega | with_reducible rfl) (fun c_155 => ?_) (fun c_155 => ?_)
            · refine w_aload_n dX11_looksAtTable_163 rfl 0 rfl ?_
              refine w_get (i := 16) (T := TX11) (NF := 32) 141 (by first | omega | with_reducible rfl) hm_96 rfl (fun _ h => (List.mem_cons_of_mem _ (List.mem_append_right _ h))) (by decide) (List.mem_of_getElem? (i := 9) rfl) rfl dX11_looksAtTable_164 ?_
              refine w_sub [(0, .ref (B + 141)), (1, .int (zI law)), (2, .long (zJ (coP c))), (4, .int (zI (coS c))), (5, .long (zJ (wt (coL c) u))), (7, .int (zI (sc (coL c) u)))] [0, 1, 2, 3, 4, 5] rfl ?_
              refine w_lv (lv' := [(0, .ref (B + 141)), (1, .int (zI law)), (2, .long (zJ (coP c))), (4, .int (zI (coS c))), (5, .long (zJ (wt (coL c) u))), (7, .int (zI (sc (coL c) u)))]) (lc_s (lc_s (lc_s (lc_s (lc_s (lc_s rfl)))))) ?_
              refine w_as (st' := [.int (zI (if A.1 = 0 ∨ A.2.2.2.2.2.2.1 < (sc (coL c) u) then (sc (coL c) u) else A.2.2.2.2.2.2.1)), .ref (B + 141)]) (sc_i (by first | exact (if_pos (by omega)).symm | exact (if_neg (by omega)).symm) rfl) ?_
              exact hj_167 () trivial
            · refine w_iload dX11_looksAtTable_158 5 rfl ?_
              refine w_goto 167 dX11_looksAtTable_160 (by decide) ?_
              refine w_sub [(0, .ref (B + 141)), (1, .int (zI law)), (2, .long (zJ (coP c))), (4, .int (zI (coS c))), (5, .long (zJ (wt (coL c) u))), (7, .int (zI (sc (coL c) u)))] [0, 1, 2, 3, 4, 5] rfl ?_
              refine w_lv (lv' := [(0, .ref (B + 141)), (1, .int (zI law)), (2, .long (zJ (coP c))), (4, .int (zI (coS c))), (5, .long (zJ (wt (coL c) u))), (7, .int (zI (sc (coL c) u)))]) (lc_s (lc_s (lc_s (lc_s (lc_s (lc_s rfl)))))) ?_
              refine w_as (st' := [.int (zI (if A.1 = 0 ∨ A.2.2.2.2.2.2.1 < (sc (coL c) u) then (sc (coL c) u) else A.2.2.2.2.2.2.1)), .ref (B + 141)]) (sc_i (by first | exact (if_pos (by omega)).symm | exact (if_neg (by omega)).symm) rfl) ?_
              exact hj_167 () trivial
        · rintro u9 _
          refine w_put (i := 16) (T := TX11) (NF := 32) 141 (by first | omega | with_reducible rfl) hm_96 rfl (fun _ h => (List.mem_cons_of_mem _ (List.mem_append_right _ h))) tyX11 tyX11_ok nmX11 (by decide) (List.mem_of_getElem? (i := 9) rfl) rfl rfl rfl (Nat.le_of_ble_eq_true rfl) dX11_looksAtTable_167 (fun g_103 he_104 hn_105 => ?_)
          have hm_106 : vM cy B g_103 141 cg le sp va ((k : Nat) : Int) (A.1) ((A.2.1) + (wt (coL c) u)) (if A.1 = 0 ∨ A.2.2.1 < (wt (coL c) u) then (wt (coL c) u) else A.2.2.1) (if A.1 = 0 ∨ (wt (coL c) u) < A.2.2.2.2.1 then (wt (coL c) u) else A.2.2.2.2.1) (if A.1 = 0 ∨ (sc (coL c) u) < A.2.2.2.2.2.1 then (sc (coL c) u) else A.2.2.2.2.2.1) (if A.1 = 0 ∨ A.2.2.2.2.2.2.1 < (sc (coL c) u) then (sc (coL c) u) else A.2.2.2.2.2.2.1) (A.2.2.2.2.2.2.2.1) (A.2.2.2.2.2.2.2.2.1) (A.2.2.2.2.2.2.2.2.2) := he_104
          have hnow_107 : vIA cy B g_103 142 49 Nw := vIA_fr hnow_97 (fun q h1 h2 => hn_105 q (by omega))
          have hse_108 : vLA cy B g_103 146 169 Sv := vLA_fr hse_98 (fun q h1 h2 => hn_105 q (by omega))
          have htb_109 : vIA cy B g_103 147 5 Tb := vIA_fr htb_99 (fun q h1 h2 => hn_105 q (by omega))
          have hlk_110 : vIA cy B g_103 148 5 Lk1 := vIA_fr hlk_100 (fun q h1 h2 => hn_105 q (by omega))
          have hbs_111 : vLA cy B g_103 149 541 Bs := vLA_fr hbs_101 (fun q h1 h2 => hn_105 q (by omega))
          have hfr_112 : ∀ q, (q ≠ 141 ∧ q ≠ 148 ∧ q ≠ 149) → g_103 q = g q := fun q hq => (hn_105 q (by omega)).trans (hfr_102 q hq)
          refine w_join1 221 (fun (u9 : Unit) => True) (fun (u9 : Unit) => g_103) (fun (u9 : Unit) => [(0, .ref (B + 141)), (1, .int (zI law)), (2, .long (zJ (coP c))), (4, .int (zI (coS c))), (5, .long (zJ (wt (coL c) u))), (7, .int (zI (sc (coL c) u)))]) (fun (u9 : Unit) => [.int (zI (if isS c law u = true then 1 else 0))]) (fun hj_221 => ?_) ?_
          · refine w_iload_n dX11_looksAtTable_170 rfl 1 rfl ?_
            refine w_if_ne 189 dX11_looksAtTable_171 (by decide) (by first | omega | with_reducible rfl) (fun c_171 => ?_) (fun c_171 => ?_)
            · refine w_iload_n dX11_looksAtTable_189 rfl 1 rfl ?_
              refine w_iconst dX11_looksAtTable_190 ?_
              refine w_icmp_ne 209 dX11_looksAtTable_191 (by decide) (by first | omega | with_reducible rfl) (by first | omega | with_reducible rfl) (fun c_191 => ?_) (fun c_191 => ?_)
              · refine w_iload dX11_looksAtTable_209 5 rfl ?_
                refine w_iload dX11_looksAtTable_211 3 rfl ?_
                refine w_icmp_gt 220 dX11_looksAtTable_213 (by decide) (by first | omega | with_reducible rfl) (by first | omega | with_reducible rfl) (fun c_213 => ?_) (fun c_213 => ?_)
                · refine w_iconst dX11_looksAtTable_220 ?_
                  refine w_sub [(0, .ref (B + 141)), (1, .int (zI law)), (2, .long (zJ (coP c))), (4, .int (zI (coS c))), (5, .long (zJ (wt (coL c) u))), (7, .int (zI (sc (coL c) u)))] [0, 1, 2, 3, 4, 5] rfl ?_
                  refine w_lv (lv' := [(0, .ref (B + 141)), (1, .int (zI law)), (2, .long (zJ (coP c))), (4, .int (zI (coS c))), (5, .long (zJ (wt (coL c) u))), (7, .int (zI (sc (coL c) u)))]) (lc_s (lc_s (lc_s (lc_s (lc_s (lc_s rfl)))))) ?_
                  refine w_as (st' := [.int (zI (if isS c law u = true then 1 else 0))]) (sc_i (by first | exact (if_pos ((isS_0 (c := c) (u := u) c_171).mpr (by omega))).symm | exact (if_neg (fun q => absurd ((isS_0 (c := c) (u := u) c_171).mp q) (by omega))).symm | exact (if_pos ((isS_1 (c := c) (u := u) c_191).mpr (by omega))).symm | exact (if_neg (fun q => absurd ((isS_1 (c := c) (u := u) c_191).mp q) (by omega))).symm | exact (if_pos ((isS_2 (c := c) (u := u) c_171 c_191).mpr (by omega))).symm | exact (if_neg (fun q => absurd ((isS_2 (c := c) (u := u) c_171 c_191).mp q) (by omega))).symm) rfl) ?_
                  exact hj_221 () trivial
                · refine w_iconst dX11_looksAtTable_216 ?_
                  refine w_goto 221 dX11_looksAtTable_217 (by decide) ?_
                  refine w_sub [(0, .ref (B + 141)), (1, .int (zI law)), (2, .long (zJ (coP c))), (4, .int (zI (coS c))), (5, .long (zJ (wt (coL c) u))), (7, .int (zI (sc (coL c) u)))] [0, 1, 2, 3, 4, 5] rfl ?_
                  refine w_lv (lv' := [(0, .ref (B + 141)), (1, .int (zI law)), (2, .long (zJ (coP c))), (4, .int (zI (coS c))), (5, .long (zJ (wt (coL c) u))), (7, .int (zI (sc (coL c) u)))]) (lc_s (lc_s (lc_s (lc_s (lc_s (lc_s rfl)))))) ?_
                  refine w_as (st' := [.int (zI (if isS c law u = true then 1 else 0))]) (sc_i (by first | exact (if_pos ((isS_0 (c := c) (u := u) c_171).mpr (by omega))).symm | exact (if_neg (fun q => absurd ((isS_0 (c := c) (u := u) c_171).mp q) (by omega))).symm | exact (if_pos ((isS_1 (c := c) (u := u) c_191).mpr (by omega))).symm | exact (if_neg (fun q => absurd ((isS_1 (c := c) (u := u) c_191).mp q) (by omega))).symm | exact (if_pos ((isS_2 (c := c) (u := u) c_171 c_191).mpr (by omega))).symm | exact (if_neg (fun q => absurd ((isS_2 (c := c) (u := u) c_171 c_191).mp q) (by omega))).symm) rfl) ?_
                  exact hj_221 () trivial
              · refine w_iload dX11_looksAtTable_194 5 rfl ?_
                refine w_iload dX11_looksAtTable_196 3 rfl ?_
                refine w_icmp_lt 205 dX11_looksAtTable_198 (by decide) (by first | omega | with_reducible rfl) (by first | omega | with_reducible rfl) (fun c_198 => ?_) (fun c_198 => ?_)
                · refine w_iconst dX11_looksAtTable_205 ?_
                  refine w_goto 221 dX11_looksAtTable_206 (by decide) ?_
                  refine w_sub [(0, .ref (B + 141)), (1, .int (zI law)), (2, .long (zJ (coP c))), (4, .int (zI (coS c))), (5, .long (zJ (wt (coL c) u))), (7, .int (zI (sc (coL c) u)))] [0, 1, 2, 3, 4, 5] rfl ?_
                  refine w_lv (lv' := [(0, .ref (B + 141)), (1, .int (zI law)), (2, .long (zJ (coP c))), (4, .int (zI (coS c))), (5, .long (zJ (wt (coL c) u))), (7, .int (zI (sc (coL c) u)))]) (lc_s (lc_s (lc_s (lc_s (lc_s (lc_s rfl)))))) ?_
                  refine w_as (st' := [.int (zI (if isS c law u = true then 1 else 0))]) (sc_i (by first | exact (if_pos ((isS_0 (c := c) (u := u) c_171).mpr (by omega))).symm | exact (if_neg (fun q => absurd ((isS_0 (c := c) (u := u) c_171).mp q) (by omega))).symm | exact (if_pos ((isS_1 (c := c) (u := u) c_191).mpr (by omega))).symm | exact (if_neg (fun q => absurd ((isS_1 (c := c) (u := u) c_191).mp q) (by omega))).symm | exact (if_pos ((isS_2 (c := c) (u := u) c_171 c_191).mpr (by omega))).symm | exact (if_neg (fun q => absurd ((isS_2 (c := c) (u := u) c_171 c_191).mp q) (by omega))).symm) rfl) ?_
                  exact hj_221 () trivial
                · refine w_iconst dX11_looksAtTable_201 ?_
                  refine w_goto 221 dX11_looksAtTable_202 (by decide) ?_
                  refine w_sub [(0, .ref (B + 141)), (1, .int (zI law)), (2, .long (zJ (coP c))), (4, .int (zI (coS c))), (5, .long (zJ (wt (coL c) u))), (7, .int (zI (sc (coL c) u)))] [0, 1, 2, 3, 4, 5] rfl ?_
                  refine w_lv (lv' := [(0, .ref (B + 141)), (1, .int (zI law)), (2, .long (zJ (coP c))), (4, .int (zI (coS c))), (5, .long (zJ (wt (coL c) u))), (7, .int (zI (sc (coL c) u)))]) (lc_s (lc_s (lc_s (lc_s (lc_s (lc_s rfl)))))) ?_
                  refine w_as (st' := [.int (zI (if isS c law u = true then 1 else 0))]) (sc_i (by first | exact (if_pos ((isS_0 (c := c) (u := u) c_171).mpr (by omega))).symm | exact (if_neg (fun q => absurd ((isS_0 (c := c) (u := u) c_171).mp q) (by omega))).symm | exact (if_pos ((isS_1 (c := c) (u := u) c_191).mpr (by omega))).symm | exact (if_neg (fun q => absurd ((isS_1 (c := c) (u := u) c_191).mp q) (by omega))).symm | exact (if_pos ((isS_2 (c := c) (u := u) c_171 c_191).mpr (by omega))).symm | exact (if_neg (fun q => absurd ((isS_2 (c := c) (u := u) c_171 c_191).mp q) (by omega))).symm) rfl) ?_
                  exact hj_221 () trivial
            · refine w_lload dX11_looksAtTable_174 4 rfl ?_
              refine w_lload_n dX11_looksAtTable_176 rfl 2 rfl ?_
              refine w_lcmp_gt 185 dX11_looksAtTable_177 dX11_looksAtTable_178 (by decide) (by first | omega | with_reducible rfl) (by first | omega | with_reducible rfl) (fun c_177 => ?_) (fun c_177 => ?_)
              · refine w_iconst dX11_looksAtTable_185 ?_
                refine w_goto 221 dX11_looksAtTable_186 (by decide) ?_
                refine w_sub [(0, .ref (B + 141)), (1, .int (zI law)), (2, .long (zJ (coP c))), (4, .int (zI (coS c))), (5, .long (zJ (wt (coL c) u))), (7, .int (zI (sc (coL c) u)))] [0, 1, 2, 3, 4, 5] rfl ?_
                refine w_lv (lv' := [(0, .ref (B + 141)), (1, .int (zI law)), (2, .long (zJ (coP c))), (4, .int (zI (coS c))), (5, .long (zJ (wt (coL c) u))), (7, .int (zI (sc (coL c) u)))]) (lc_s (lc_s (lc_s (lc_s (lc_s (lc_s rfl)))))) ?_
                refine w_as (st' := [.int (zI (if isS c law u = true then 1 else 0))]) (sc_i (by first | exact (if_pos ((isS_0 (c := c) (u := u) c_171).mpr (by omega))).symm | exact (if_neg (fun q => absurd ((isS_0 (c := c) (u := u) c_171).mp q) (by omega))).symm | exact (if_pos ((isS_1 (c := c) (u := u) c_191).mpr (by omega))).symm | exact (if_neg (fun q => absurd ((isS_1 (c := c) (u := u) c_191).mp q) (by omega))).symm | exact (if_pos ((isS_2 (c := c) (u := u) c_171 c_191).mpr (by omega))).symm | exact (if_neg (fun q => absurd ((isS_2 (c := c) (u := u) c_171 c_191).mp q) (by omega))).symm) rfl) ?_
                exact hj_221 () trivial
              · refine w_iconst dX11_looksAtTable_181 ?_
                refine w_goto 221 dX11_looksAtTable_182 (by decide) ?_
                refine w_sub [(0, .ref (B + 141)), (1, .int (zI law)), (2, .long (zJ (coP c))), (4, .int (zI (coS c))), (5, .long (zJ (wt (coL c) u))), (7, .int (zI (sc (coL c) u)))] [0, 1, 2, 3, 4, 5] rfl ?_
                refine w_lv (lv' := [(0, .ref (B + 141)), (1, .int (zI law)), (2, .long (zJ (coP c))), (4, .int (zI (coS c))), (5, .long (zJ (wt (coL c) u))), (7, .int (zI (sc (coL c) u)))]) (lc_s (lc_s (lc_s (lc_s (lc_s (lc_s rfl)))))) ?_
                refine w_as (st' := [.int (zI (if isS c law u = true then 1 else 0))]) (sc_i (by first | exact (if_pos ((isS_0 (c := c) (u := u) c_171).mpr (by omega))).symm | exact (if_neg (fun q => absurd ((isS_0 (c := c) (u := u) c_171).mp q) (by omega))).symm | exact (if_pos ((isS_1 (c := c) (u := u) c_191).mpr (by omega))).symm | exact (if_neg (fun q => absurd ((isS_1 (c := c) (u := u) c_191).mp q) (by omega))).symm | exact (if_pos ((isS_2 (c := c) (u := u) c_171 c_191).mpr (by omega))).symm | exact (if_neg (fun q => absurd ((isS_2 (c := c) (u := u) c_171 c_191).mp q) (by omega))).symm) rfl) ?_
                exact hj_221 () trivial
          · rintro u9 _
            refine w_istore [(8, .int (zI (if isS c law u = true then 1 else 0))), (0, .ref (B + 141)), (1, .int (zI law)), (2, .long (zJ (coP c))), (4, .int (zI (coS c))), (5, .long (zJ (wt (coL c) u))), (7, .int (zI (sc (coL c) u)))] dX11_looksAtTable_221 (by decide) rfl ?_
            refine w_aload_n dX11_looksAtTable_223 rfl 1 rfl ?_
            refine w_dup dX11_looksAtTable_224 rfl ?_
            refine w_get (i := 17) (T := TX11) (NF := 32) 141 (by first | omega | with_reducible rfl) hm_106 rfl (fun _ h => (List.mem_cons_of_mem _ (List.mem_append_right _ h))) (by decide) (List.mem_of_getElem? (i := 10) rfl) rfl dX11_looksAtTable_225 ?_
            refine w_join1 238 (fun (u9 : Unit) => True) (fun (u9 : Unit) => g_103) (fun (u9 : Unit) => [(0, .ref (B + 141)), (1, .int (zI law)), (2, .long (zJ (coP c))), (4, .int (zI (coS c))), (5, .long (zJ (wt (coL c) u))), (7, .int (zI (sc (coL c) u))), (8, .int (zI (if isS c law u = true then 1 else 0)))]) (fun (u9 : Unit) => [.int (zI (if isS c law u = true then 1 else 0)), .int (zI (A.2.2.2.2.2.2.2.1)), .ref (B + 141)]) (fun hj_238 => ?_) ?_
            · refine w_iload dX11_looksAtTable_228 0 rfl ?_
              refine w_ifeqB 237 dX11_looksAtTable_230 (by decide) (fun c_230 => ?_) (fun c_230 => ?_)
              · refine w_iconst dX11_looksAtTable_237 ?_
                refine w_sub [(0, .ref (B + 141)), (1, .int (zI law)), (2, .long (zJ (coP c))), (4, .int (zI (coS c))), (5, .long (zJ (wt (coL c) u))), (7, .int (zI (sc (coL c) u))), (8, .int (zI (if isS c law u = true then 1 else 0)))] [1, 2, 3, 4, 5, 6, 0] rfl ?_
                refine w_lv (lv' := [(0, .ref (B + 141)), (1, .int (zI law)), (2, .long (zJ (coP c))), (4, .int (zI (coS c))), (5, .long (zJ (wt (coL c) u))), (7, .int (zI (sc (coL c) u))), (8, .int (zI (if isS c law u = true then 1 else 0)))]) (lc_s (lc_s (lc_s (lc_s (lc_s (lc_s (lc_s rfl))))))) ?_
                refine w_as (st' := [.int (zI (if isS c law u = true then 1 else 0)), .int (zI (A.2.2.2.2.2.2.2.1)), .ref (B + 141)]) (sc_i (by first | exact (if_pos (by assumption)).symm | exact (if_neg (by assumption)).symm) rfl) ?_
                exact hj_238 () trivial
              · refine w_iconst dX11_looksAtTable_233 ?_
                refine w_goto 238 dX11_looksAtTable_234 (by decide) ?_
                refine w_sub [(0, .ref (B + 141)), (1, .int (zI law)), (2, .long (zJ (coP c))), (4, .int (zI (coS c))), (5, .long (zJ (wt (coL c) u))), (7, .int (zI (sc (coL c) u))), (8, .int (zI (if isS c law u = true then 1 else 0)))] [1, 2, 3, 4, 5, 6, 0] rfl ?_
                refine w_lv (lv' := [(0, .ref (B + 141)), (1, .int (zI law)), (2, .long (zJ (coP c))), (4, .int (zI (coS c))), (5, .long (zJ (wt (coL c) u))), (7, .int (zI (sc (coL c) u))), (8, .int (zI (if isS c law u = true then 1 else 0)))]) (lc_s (lc_s (lc_s (lc_s (lc_s (lc_s (lc_s rfl))))))) ?_
                refine w_as (st' := [.int (zI (if isS c law u = true then 1 else 0)), .int (zI (A.2.2.2.2.2.2.2.1)), .ref (B + 141)]) (sc_i (by first | exact (if_pos (by assumption)).symm | exact (if_neg (by assumption)).symm) rfl) ?_
                exact hj_238 () trivial
            · rintro u9 _
              refine w_iadd dX11_looksAtTable_238 ?_
              refine w_put (i := 17) (T := TX11) (NF := 32) 141 (by first | omega | with_reducible rfl) hm_106 rfl (fun _ h => (List.mem_cons_of_mem _ (List.mem_append_right _ h))) tyX11 tyX11_ok nmX11 (by decide) (List.mem_of_getElem? (i := 10) rfl) rfl rfl rfl (Nat.le_of_ble_eq_true rfl) dX11_looksAtTable_239 (fun g_113 he_114 hn_115 => ?_)
              have hm_116 : vM cy B g_113 141 cg le sp va ((k : Nat) : Int) (A.1) ((A.2.1) + (wt (coL c) u)) (if A.1 = 0 ∨ A.2.2.1 < (wt (coL c) u) then (wt (coL c) u) else A.2.2.1) (if A.1 = 0 ∨ (wt (coL c) u) < A.2.2.2.2.1 then (wt (coL c) u) else A.2.2.2.2.1) (if A.1 = 0 ∨ (sc (coL c) u) < A.2.2.2.2.2.1 then (sc (coL c) u) else A.2.2.2.2.2.1) (if A.1 = 0 ∨ A.2.2.2.2.2.2.1 < (sc (coL c) u) then (sc (coL c) u) else A.2.2.2.2.2.2.1) ((A.2.2.2.2.2.2.2.1) + (if isS c law u = true then 1 else 0)) (A.2.2.2.2.2.2.2.2.1) (A.2.2.2.2.2.2.2.2.2) := he_114
              have hnow_117 : vIA cy B g_113 142 49 Nw := vIA_fr hnow_107 (fun q h1 h2 => hn_115 q (by omega))
              have hse_118 : vLA cy B g_113 146 169 Sv := vLA_fr hse_108 (fun q h1 h2 => hn_115 q (by omega))
              have htb_119 : vIA cy B g_113 147 5 Tb := vIA_fr htb_109 (fun q h1 h2 => hn_115 q (by omega))
              have hlk_120 : vIA cy B g_113 148 5 Lk1 := vIA_fr hlk_110 (fun q h1 h2 => hn_115 q (by omega))
              have hbs_121 : vLA cy B g_113 149 541 Bs := vLA_fr hbs_111 (fun q h1 h2 => hn_115 q (by omega))
              have hfr_122 : ∀ q, (q ≠ 141 ∧ q ≠ 148 ∧ q ≠ 149) → g_113 q = g q := fun q hq => (hn_115 q (by omega)).trans (hfr_112 q hq)
              refine w_aload_n dX11_looksAtTable_242 rfl 0 rfl ?_
              refine w_dup dX11_looksAtTable_243 rfl ?_
              refine w_get (i := 18) (T := TX11) (NF := 32) 141 (by first | omega | with_reducible rfl) hm_116 rfl (fun _ h => (List.mem_cons_of_mem _ (List.mem_append_right _ h))) (by decide) (List.mem_of_getElem? (i := 11) rfl) rfl dX11_looksAtTable_244 ?_
              refine w_join1 258 (fun (u9 : Unit) => True) (fun (u9 : Unit) => g_113) (fun (u9 : Unit) => [(0, .ref (B + 141)), (1, .int (zI law)), (2, .long (zJ (coP c))), (4, .int (zI (coS c))), (5, .long (zJ (wt (coL c) u))), (7, .int (zI (sc (coL c) u))), (8, .int (zI (if isS c law u = true then 1 else 0)))]) (fun (u9 : Unit) => [.long (zJ (if isS c law u = true then (wt (coL c) u) else 0)), .long (zJ (A.2.2.2.2.2.2.2.2.1)), .ref (B + 141)]) (fun hj_258 => ?_) ?_
              · refine w_iload dX11_looksAtTable_247 6 rfl ?_
                refine w_ifeqB 257 dX11_looksAtTable_249 (by decide) (fun c_249 => ?_) (fun c_249 => ?_)
                · refine w_lconst0 dX11_looksAtTable_257 ?_
                  refine w_sub [(0, .ref (B + 141)), (1, .int (zI law)), (2, .long (zJ (coP c))), (4, .int (zI (coS c))), (5, .long (zJ (wt (coL c) u))), (7, .int (zI (sc (coL c) u))), (8, .int (zI (if isS c law u = true then 1 else 0)))] [0, 1, 2, 3, 4, 5, 6] rfl ?_
                  refine w_lv (lv' := [(0, .ref (B + 141)), (1, .int (zI law)), (2, .long (zJ (coP c))), (4, .int (zI (coS c))), (5, .long (zJ (wt (coL c) u))), (7, .int (zI (sc (coL c) u))), (8, .int (zI (if isS c law u = true then 1 else 0)))]) (lc_s (lc_s (lc_s (lc_s (lc_s (lc_s (lc_s rfl))))))) ?_
                  refine w_as (st' := [.long (zJ (if isS c law u = true then (wt (coL c) u) else 0)), .long (zJ (A.2.2.2.2.2.2.2.2.1)), .ref (B + 141)]) (sc_l (by first | exact (if_pos (by assumption)).symm | exact (if_neg (by assumption)).symm) rfl) ?_
                  exact hj_258 () trivial
                · refine w_lload dX11_looksAtTable_252 4 rfl ?_
                  refine w_goto 258 dX11_looksAtTable_254 (by decide) ?_
                  refine w_sub [(0, .ref (B + 141)), (1, .int (zI law)), (2, .long (zJ (coP c))), (4, .int (zI (coS c))), (5, .long (zJ (wt (coL c) u))), (7, .int (zI (sc (coL c) u))), (8, .int (zI (if isS c law u = true then 1 else 0)))] [0, 1, 2, 3, 4, 5, 6] rfl ?_
                  refine w_lv (lv' := [(0, .ref (B + 141)), (1, .int (zI law)), (2, .long (zJ (coP c))), (4, .int (zI (coS c))), (5, .long (zJ (wt (coL c) u))), (7, .int (zI (sc (coL c) u))), (8, .int (zI (if isS c law u = true then 1 else 0)))]) (lc_s (lc_s (lc_s (lc_s (lc_s (lc_s (lc_s rfl))))))) ?_
                  refine w_as (st' := [.long (zJ (if isS c law u = true then (wt (coL c) u) else 0)), .long (zJ (A.2.2.2.2.2.2.2.2.1)), .ref (B + 141)]) (sc_l (by first | exact (if_pos (by assumption)).symm | exact (if_neg (by assumption)).symm) rfl) ?_
                  exact hj_258 () trivial
              · rintro u9 _
                refine w_ladd dX11_looksAtTable_258 ?_
                refine w_put (i := 18) (T := TX11) (NF := 32) 141 (by first | omega | with_reducible rfl) hm_116 rfl (fun _ h => (List.mem_cons_of_mem _ (List.mem_append_right _ h))) tyX11 tyX11_ok nmX11 (by decide) (List.mem_of_getElem? (i := 11) rfl) rfl rfl rfl (Nat.le_of_ble_eq_true rfl) dX11_looksAtTable_259 (fun g_123 he_124 hn_125 => ?_)
                have hm_126 : vM cy B g_123 141 cg le sp va ((k : Nat) : Int) (A.1) ((A.2.1) + (wt (coL c) u)) (if A.1 = 0 ∨ A.2.2.1 < (wt (coL c) u) then (wt (coL c) u) else A.2.2.1) (if A.1 = 0 ∨ (wt (coL c) u) < A.2.2.2.2.1 then (wt (coL c) u) else A.2.2.2.2.1) (if A.1 = 0 ∨ (sc (coL c) u) < A.2.2.2.2.2.1 then (sc (coL c) u) else A.2.2.2.2.2.1) (if A.1 = 0 ∨ A.2.2.2.2.2.2.1 < (sc (coL c) u) then (sc (coL c) u) else A.2.2.2.2.2.2.1) ((A.2.2.2.2.2.2.2.1) + (if isS c law u = true then 1 else 0)) ((A.2.2.2.2.2.2.2.2.1) + (if isS c law u = true then (wt (coL c) u) else 0)) (A.2.2.2.2.2.2.2.2.2) := he_124
                have hnow_127 : vIA cy B g_123 142 49 Nw := vIA_fr hnow_117 (fun q h1 h2 => hn_125 q (by omega))
                have hse_128 : vLA cy B g_123 146 169 Sv := vLA_fr hse_118 (fun q h1 h2 => hn_125 q (by omega))
                have htb_129 : vIA cy B g_123 147 5 Tb := vIA_fr htb_119 (fun q h1 h2 => hn_125 q (by omega))
                have hlk_130 : vIA cy B g_123 148 5 Lk1 := vIA_fr hlk_120 (fun q h1 h2 => hn_125 q (by omega))
                have hbs_131 : vLA cy B g_123 149 541 Bs := vLA_fr hbs_121 (fun q h1 h2 => hn_125 q (by omega))
                have hfr_132 : ∀ q, (q ≠ 141 ∧ q ≠ 148 ∧ q ≠ 149) → g_123 q = g q := fun q hq => (hn_125 q (by omega)).trans (hfr_122 q hq)
                refine w_aload_n dX11_looksAtTable_262 rfl 0 rfl ?_
                refine w_join1 281 (fun (u9 : Unit) => True) (fun (u9 : Unit) => g_123) (fun (u9 : Unit) => [(0, .ref (B + 141)), (1, .int (zI law)), (2, .long (zJ (coP c))), (4, .int (zI (coS c))), (5, .long (zJ (wt (coL c) u))), (7, .int (zI (sc (coL c) u))), (8, .int (zI (if isS c law u = true then 1 else 0)))]) (fun (u9 : Unit) => [.int (zI (if u = xsL c then A.1 else A.2.2.2.2.2.2.2.2.2)), .ref (B + 141)]) (fun hj_281 => ?_) ?_
                · refine w_aload_n dX11_looksAtTable_263 rfl 0 rfl ?_
                  refine w_calli (As := []) (rest := [.ref (B + 141)]) (n := 0) (c_X11_isSeen hm_126 hnow_127 htb_129 (by first | omega | with_reducible rfl) (by first | omega | with_reducible rfl) (by first | omega | with_reducible rfl) (by first | omega | with_reducible rfl) (by first | omega | with_reducible rfl)) gX11_looksAtTable_X11_isSeen rfl rfl rfl (by decide +kernel) ⟨Nat.le_of_ble_eq_true rfl, Nat.le_of_ble_eq_true rfl⟩ rfl (by first | omega | with_reducible rfl) hm_126 rfl (Nat.le_of_ble_eq_true rfl) ⟨Nat.zero_le _, Nat.zero_le _⟩ dX11_looksAtTable_264 rfl (fun g_133 hp_134 => ?_)
                  subst g_133
                  refine w_ifeqB 277 dX11_looksAtTable_267 (by decide) (fun c_267 => ?_) (fun c_267 => ?_)
                  · refine w_aload_n dX11_looksAtTable_277 rfl 0 rfl ?_
                    refine w_get (i := 20) (T := TX11) (NF := 32) 141 (by first | omega | with_reducible rfl) hm_126 rfl (fun _ h => (List.mem_cons_of_mem _ (List.mem_append_right _ h))) (by decide) (List.mem_of_getElem? (i := 12) rfl) rfl dX11_looksAtTable_278 ?_
                    refine w_sub [(0, .ref (B + 141)), (1, .int (zI law)), (2, .long (zJ (coP c))), (4, .int (zI (coS c))), (5, .long (zJ (wt (coL c) u))), (7, .int (zI (sc (coL c) u))), (8, .int (zI (if isS c law u = true then 1 else 0)))] [0, 1, 2, 3, 4, 5, 6] rfl ?_
                    refine w_lv (lv' := [(0, .ref (B + 141)), (1, .int (zI law)), (2, .long (zJ (coP c))), (4, .int (zI (coS c))), (5, .long (zJ (wt (coL c) u))), (7, .int (zI (sc (coL c) u))), (8, .int (zI (if isS c law u = true then 1 else 0)))]) (lc_s (lc_s (lc_s (lc_s (lc_s (lc_s (lc_s rfl))))))) ?_
                    refine w_as (st' := [.int (zI (if u = xsL c then A.1 else A.2.2.2.2.2.2.2.2.2)), .ref (B + 141)]) (sc_i (by first | exact (if_pos (by assumption)).symm | exact (if_neg (by assumption)).symm) rfl) ?_
                    exact hj_281 () trivial
                  · refine w_aload_n dX11_looksAtTable_270 rfl 0 rfl ?_
                    refine w_get (i := 11) (T := TX11) (NF := 32) 141 (by first | omega | with_reducible rfl) hm_126 rfl (fun _ h => (List.mem_cons_of_mem _ (List.mem_append_right _ h))) (by decide) (List.mem_of_getElem? (i := 2) rfl) rfl dX11_looksAtTable_271 ?_
                    refine w_goto 281 dX11_looksAtTable_274 (by decide) ?_
                    refine w_sub [(0, .ref (B + 141)), (1, .int (zI law)), (2, .long (zJ (coP c))), (4, .int (zI (coS c))), (5, .long (zJ (wt (coL c) u))), (7, .int (zI (sc (coL c) u))), (8, .int (zI (if isS c law u = true then 1 else 0)))] [0, 1, 2, 3, 4, 5, 6] rfl ?_
                    refine w_lv (lv' := [(0, .ref (B + 141)), (1, .int (zI law)), (2, .long (zJ (coP c))), (4, .int (zI (coS c))), (5, .long (zJ (wt (coL c) u))), (7, .int (zI (sc (coL c) u))), (8, .int (zI (if isS c law u = true then 1 else 0)))]) (lc_s (lc_s (lc_s (lc_s (lc_s (lc_s (lc_s rfl))))))) ?_
                    refine w_as (st' := [.int (zI (if u = xsL c then A.1 else A.2.2.2.2.2.2.2.2.2)), .ref (B + 141)]) (sc_i (by first | exact (if_pos (by assumption)).symm | exact (if_neg (by assumption)).symm) rfl) ?_
                    exact hj_281 () trivial
                · rintro u9 _
                  refine w_put (i := 20) (T := TX11) (NF := 32) 141 (by first | omega | with_reducible rfl) hm_126 rfl (fun _ h => (List.mem_cons_of_mem _ (List.mem_append_right _ h))) tyX11 tyX11_ok nmX11 (by decide) (List.mem_of_getElem? (i := 12) rfl) rfl rfl rfl (Nat.le_of_ble_eq_true rfl) dX11_looksAtTable_281 (fun g_135 he_136 hn_137 => ?_)
                  have hm_138 : vM cy B g_135 141 cg le sp va ((k : Nat) : Int) (A.1) ((A.2.1) + (wt (coL c) u)) (if A.1 = 0 ∨ A.2.2.1 < (wt (coL c) u) then (wt (coL c) u) else A.2.2.1) (if A.1 = 0 ∨ (wt (coL c) u) < A.2.2.2.2.1 then (wt (coL c) u) else A.2.2.2.2.1) (if A.1 = 0 ∨ (sc (coL c) u) < A.2.2.2.2.2.1 then (sc (coL c) u) else A.2.2.2.2.2.1) (if A.1 = 0 ∨ A.2.2.2.2.2.2.1 < (sc (coL c) u) then (sc (coL c) u) else A.2.2.2.2.2.2.1) ((A.2.2.2.2.2.2.2.1) + (if isS c law u = true then 1 else 0)) ((A.2.2.2.2.2.2.2.2.1) + (if isS c law u = true then (wt (coL c) u) else 0)) (if u = xsL c then A.1 else A.2.2.2.2.2.2.2.2.2) := he_136
                  have hnow_139 : vIA cy B g_135 142 49 Nw := vIA_fr hnow_127 (fun q h1 h2 => hn_137 q (by omega))
                  have hse_140 : vLA cy B g_135 146 169 Sv := vLA_fr hse_128 (fun q h1 h2 => hn_137 q (by omega))
                  have htb_141 : vIA cy B g_135 147 5 Tb := vIA_fr htb_129 (fun q h1 h2 => hn_137 q (by omega))
                  have hlk_142 : vIA cy B g_135 148 5 Lk1 := vIA_fr hlk_130 (fun q h1 h2 => hn_137 q (by omega))
                  have hbs_143 : vLA cy B g_135 149 541 Bs := vLA_fr hbs_131 (fun q h1 h2 => hn_137 q (by omega))
                  have hfr_144 : ∀ q, (q ≠ 141 ∧ q ≠ 148 ∧ q ≠ 149) → g_135 q = g q := fun q hq => (hn_137 q (by omega)).trans (hfr_132 q hq)
                  refine w_aload_n dX11_looksAtTable_284 rfl 0 rfl ?_
                  refine w_get (i := 21) (T := TX11) (NF := 32) 141 (by first | omega | with_reducible rfl) hm_138 rfl (fun _ h => (List.mem_cons_of_mem _ (List.mem_append_right _ h))) (by decide) (List.mem_of_getElem? (i := 13) rfl) rfl dX11_looksAtTable_285 ?_
                  refine w_iload dX11_looksAtTable_288 5 rfl ?_
                  refine w_dup2 dX11_looksAtTable_290 rfl rfl ?_
                  refine w_lald 149 (by first | omega | with_reducible rfl) hbs_143 (by first | omega | with_reducible rfl) dX11_looksAtTable_291 ?_
                  refine w_lload dX11_looksAtTable_292 4 rfl ?_
                  refine w_ladd dX11_looksAtTable_294 ?_
                  refine w_last 149 (by first | omega | with_reducible rfl) hbs_143 (by first | omega | with_reducible rfl) dX11_looksAtTable_295 (fun g_145 he_146 hn_147 => ?_)
                  have hm_148 : vM cy B g_145 141 cg le sp va ((k : Nat) : Int) (A.1) ((A.2.1) + (wt (coL c) u)) (if A.1 = 0 ∨ A.2.2.1 < (wt (coL c) u) then (wt (coL c) u) else A.2.2.1) (if A.1 = 0 ∨ (wt (coL c) u) < A.2.2.2.2.1 then (wt (coL c) u) else A.2.2.2.2.1) (if A.1 = 0 ∨ (sc (coL c) u) < A.2.2.2.2.2.1 then (sc (coL c) u) else A.2.2.2.2.2.1) (if A.1 = 0 ∨ A.2.2.2.2.2.2.1 < (sc (coL c) u) then (sc (coL c) u) else A.2.2.2.2.2.2.1) ((A.2.2.2.2.2.2.2.1) + (if isS c law u = true then 1 else 0)) ((A.2.2.2.2.2.2.2.2.1) + (if isS c law u = true then (wt (coL c) u) else 0)) (if u = xsL c then A.1 else A.2.2.2.2.2.2.2.2.2) := vM_fr hm_138 (fun q h1 h2 => hn_147 q (by omega))
                  have hnow_149 : vIA cy B g_145 142 49 Nw := vIA_fr hnow_139 (fun q h1 h2 => hn_147 q (by omega))
                  have hse_150 : vLA cy B g_145 146 169 Sv := vLA_fr hse_140 (fun q h1 h2 => hn_147 q (by omega))
                  have htb_151 : vIA cy B g_145 147 5 Tb := vIA_fr htb_141 (fun q h1 h2 => hn_147 q (by omega))
                  have hlk_152 : vIA cy B g_145 148 5 Lk1 := vIA_fr hlk_142 (fun q h1 h2 => hn_147 q (by omega))
                  have hbs_153 : vLA cy B g_145 149 541 (uZ Bs (sc (coL c) u) ((Bs (sc (coL c) u)) + (wt (coL c) u))) := he_146
                  have hfr_154 : ∀ q, (q ≠ 141 ∧ q ≠ 148 ∧ q ≠ 149) → g_145 q = g q := fun q hq => (hn_147 q (by omega)).trans (hfr_144 q hq)
                  refine w_aload_n dX11_looksAtTable_296 rfl 0 rfl ?_
                  refine w_dup dX11_looksAtTable_297 rfl ?_
                  refine w_get (i := 11) (T := TX11) (NF := 32) 141 (by first | omega | with_reducible rfl) hm_148 rfl (fun _ h => (List.mem_cons_of_mem _ (List.mem_append_right _ h))) (by decide) (List.mem_of_getElem? (i := 2) rfl) rfl dX11_looksAtTable_298 ?_
                  refine w_iconst dX11_looksAtTable_301 ?_
                  refine w_iadd dX11_looksAtTable_302 ?_
                  refine w_put (i := 11) (T := TX11) (NF := 32) 141 (by first | omega | with_reducible rfl) hm_148 rfl (fun _ h => (List.mem_cons_of_mem _ (List.mem_append_right _ h))) tyX11 tyX11_ok nmX11 (by decide) (List.mem_of_getElem? (i := 2) rfl) rfl rfl rfl (Nat.le_of_ble_eq_true rfl) dX11_looksAtTable_303 (fun g_155 he_156 hn_157 => ?_)
                  have hm_158 : vM cy B g_155 141 cg le sp va ((k : Nat) : Int) ((A.1) + 1) ((A.2.1) + (wt (coL c) u)) (if A.1 = 0 ∨ A.2.2.1 < (wt (coL c) u) then (wt (coL c) u) else A.2.2.1) (if A.1 = 0 ∨ (wt (coL c) u) < A.2.2.2.2.1 then (wt (coL c) u) else A.2.2.2.2.1) (if A.1 = 0 ∨ (sc (coL c) u) < A.2.2.2.2.2.1 then (sc (coL c) u) else A.2.2.2.2.2.1) (if A.1 = 0 ∨ A.2.2.2.2.2.2.1 < (sc (coL c) u) then (sc (coL c) u) else A.2.2.2.2.2.2.1) ((A.2.2.2.2.2.2.2.1) + (if isS c law u = true then 1 else 0)) ((A.2.2.2.2.2.2.2.2.1) + (if isS c law u = true then (wt (coL c) u) else 0)) (if u = xsL c then A.1 else A.2.2.2.2.2.2.2.2.2) := he_156
                  have hnow_159 : vIA cy B g_155 142 49 Nw := vIA_fr hnow_149 (fun q h1 h2 => hn_157 q (by omega))
                  have hse_160 : vLA cy B g_155 146 169 Sv := vLA_fr hse_150 (fun q h1 h2 => hn_157 q (by omega))
                  have htb_161 : vIA cy B g_155 147 5 Tb := vIA_fr htb_151 (fun q h1 h2 => hn_157 q (by omega))
                  have hlk_162 : vIA cy B g_155 148 5 Lk1 := vIA_fr hlk_152 (fun q h1 h2 => hn_157 q (by omega))
                  have hbs_163 : vLA cy B g_155 149 541 (uZ Bs (sc (coL c) u) ((Bs (sc (coL c) u)) + (wt (coL c) u))) := vLA_fr hbs_153 (fun q h1 h2 => hn_157 q (by omega))
                  have hfr_164 : ∀ q, (q ≠ 141 ∧ q ≠ 148 ∧ q ≠ 149) → g_155 q = g q := fun q hq => (hn_157 q (by omega)).trans (hfr_154 q hq)
                  exact w_vret dX11_looksAtTable_306 rfl ⟨Lk1, (by have h9 := hm_158; exact h9), hlk_162, hbs_163, hLk1, hfr_164⟩

set_option maxHeartbeats 4000000 in
set_option maxRecDepth 100000 in
theorem c_X11_goesThrough {l : Launch} {D : va_G} {cy : Nat → ClassId} {B N : Nat} {g : Nat → va_E} {cg le sp va o0 tn aw mw fw ls gs sn sw kr : Int} {Nw Sv Tb Lk Bs : Int → Int} {k : Nat} {c : List Co} {law : Int} (hm : vM cy B g 141 cg le sp va o0 tn aw mw fw ls gs sn sw kr) (hnow : vIA cy B g 142 49 Nw) (hse : vLA cy B g 146 169 Sv) (htb : vIA cy B g 147 5 Tb) (hlk : vIA cy B g 148 5 Lk) (hbs : vLA cy B g 149 541 Bs) (hN : 160 ≤ N) (hmc : MC Nw k c) (hc : cok c) (hn2 : 2 ≤ c.length) (hSv : SvOK Sv) (hrg : (-9223372036854775808 ≤ mw ∧ mw < 9223372036854775808) ∧ (-9223372036854775808 ≤ fw ∧ fw < 9223372036854775808) ∧ (-2147483648 ≤ ls ∧ ls < 2147483648) ∧ (-2147483648 ≤ gs ∧ gs < 2147483648)) (hlaw : 0 ≤ law ∧ law ≤ 2) : CTv l yX11_goesThrough wsX11_goesThrough (rmo 5 119) D cy B N g [.ref (B + 141), .int (zI ((k : Nat) : Int)), .int (zI law)] (fun g' => ∃ Tb1 : Int → Int, ∃ Lk1 : Int → Int, ∃ Bs1 : Int → Int, vM cy B g' 141 cg le sp va ((k : Nat) : Int) (tc (coL c) (coR c)) (bh (coL c) (coR c)) (lg (coL c) (coR c)) (sh (coL c) (coR c)) (les (coL c) (coR c)) (grs (coL c) (coR c)) (stT c law) (stW c law) (aRan c) ∧ vIA cy B g' 147 5 Tb1 ∧ vIA cy B g' 148 5 Lk1 ∧ vLA cy B g' 149 541 Bs1 ∧ (TR c.length Lk1 (bst (coL c) (coR c))) ∧ (∀ y : Int, 0 ≤ y → y ≤ 540 → Bs1 y = swF (coL c) (coR c) y) ∧ (∀ q, (q ≠ 141 ∧ q ≠ 147 ∧ q ≠ 148 ∧ q ≠ 149) → g' q = g q)) := by
  refine WW_of (cc := cX11_goesThrough) (maxL := 7) (ret := none) (own := RX11) (by decide) rfl rfl (Nat.le_of_ble_eq_true rfl) rfl ?_
  intro pp ee ss mm bl me co hmn
  have hfr_0 : ∀ q, (q ≠ 141 ∧ q ≠ 147 ∧ q ≠ 148 ∧ q ≠ 149) → g q = g q := fun _ _ => rfl
  have hk3 := hmc.1
  have hcp := (SO_co hc).1
  have hcs := (SO_co hc).2
  have hcL := coL_S hc
  have htc9 := tc_small hc
  have htl := tc_len (coL c) (coR c)
  have htp := tc_posR hc
  refine w_aload_n dX11_goesThrough_0 rfl 0 rfl ?_
  refine w_iconst dX11_goesThrough_1 ?_
  refine w_put (i := 11) (T := TX11) (NF := 32) 141 (by first | omega | with_reducible rfl) hm rfl (fun _ h => (List.mem_cons_of_mem _ (List.mem_append_right _ h))) tyX11 tyX11_ok nmX11 (by decide) (List.mem_of_getElem? (i := 1) rfl) rfl rfl rfl (Nat.le_of_ble_eq_true rfl) dX11_goesThrough_2 (fun g_1 he_2 hn_3 => ?_)
  have hm_4 : vM cy B g_1 141 cg le sp va o0 0 aw mw fw ls gs sn sw kr := he_2
  have hnow_5 : vIA cy B g_1 142 49 Nw := vIA_fr hnow (fun q h1 h2 => hn_3 q (by omega))
  have hse_6 : vLA cy B g_1 146 169 Sv := vLA_fr hse (fun q h1 h2 => hn_3 q (by omega))
  have htb_7 : vIA cy B g_1 147 5 Tb := vIA_fr htb (fun q h1 h2 => hn_3 q (by omega))
  have hlk_8 : vIA cy B g_1 148 5 Lk := vIA_fr hlk (fun q h1 h2 => hn_3 q (by omega))
  have hbs_9 : vLA cy B g_1 149 541 Bs := vLA_fr hbs (fun q h1 h2 => hn_3 q (by omega))
  have hfr_10 : ∀ q, (q ≠ 141 ∧ q ≠ 147 ∧ q ≠ 148 ∧ q ≠ 149) → g_1 q = g q := fun q hq => (hn_3 q (by omega)).trans (hfr_0 q hq)
  refine w_aload_n dX11_goesThrough_5 rfl 0 rfl ?_
  refine w_lconst0 dX11_goesThrough_6 ?_
  refine w_put (i := 12) (T := TX11) (NF := 32) 141 (by first | omega | with_reducible rfl) hm_4 rfl (fun _ h => (List.mem_cons_of_mem _ (List.mem_append_right _ h))) tyX11 tyX11_ok nmX11 (by decide) (List.mem_of_getElem? (i := 2) rfl) rfl rfl rfl (Nat.le_of_ble_eq_true rfl) dX11_goesThrough_7 (fun g_11 he_12 hn_13 => ?_)
  have hm_14 : vM cy B g_11 141 cg le sp va o0 0 0 mw fw ls gs sn sw kr := he_12
  have hnow_15 : vIA cy B g_11 142 49 Nw := vIA_fr hnow_5 (fun q h1 h2 => hn_13 q (by omega))
  have hse_16 : vLA cy B g_11 146 169 Sv := vLA_fr hse_6 (fun q h1 h2 => hn_13 q (by omega))
  have htb_17 : vIA cy B g_11 147 5 Tb := vIA_fr htb_7 (fun q h1 h2 => hn_13 q (by omega))
  have hlk_18 : vIA cy B g_11 148 5 Lk := vIA_fr hlk_8 (fun q h1 h2 => hn_13 q (by omega))
  have hbs_19 : vLA cy B g_11 149 541 Bs := vLA_fr hbs_9 (fun q h1 h2 => hn_13 q (by omega))
  have hfr_20 : ∀ q, (q ≠ 141 ∧ q ≠ 147 ∧ q ≠ 148 ∧ q ≠ 149) → g_11 q = g q := fun q hq => (hn_13 q (by omega)).trans (hfr_10 q hq)
  refine w_aload_n dX11_goesThrough_10 rfl 0 rfl ?_
  refine w_iconst dX11_goesThrough_11 ?_
  refine w_put (i := 17) (T := TX11) (NF := 32) 141 (by first | omega | with_reducible rfl) hm_14 rfl (fun _ h => (List.mem_cons_of_mem _ (List.mem_append_right _ h))) tyX11 tyX11_ok nmX11 (by decide) (List.mem_of_getElem? (i := 3) rfl) rfl rfl rfl (Nat.le_of_ble_eq_true rfl) dX11_goesThrough_12 (fun g_21 he_22 hn_23 => ?_)
  have hm_24 : vM cy B g_21 141 cg le sp va o0 0 0 mw fw ls gs 0 sw kr := he_22
  have hnow_25 : vIA cy B g_21 142 49 Nw := vIA_fr hnow_15 (fun q h1 h2 => hn_23 q (by omega))
  have hse_26 : vLA cy B g_21 146 169 Sv := vLA_fr hse_16 (fun q h1 h2 => hn_23 q (by omega))
  have htb_27 : vIA cy B g_21 147 5 Tb := vIA_fr htb_17 (fun q h1 h2 => hn_23 q (by omega))
  have hlk_28 : vIA cy B g_21 148 5 Lk := vIA_fr hlk_18 (fun q h1 h2 => hn_23 q (by omega))
  have hbs_29 : vLA cy B g_21 149 541 Bs := vLA_fr hbs_19 (fun q h1 h2 => hn_23 q (by omega))
  have hfr_30 : ∀ q, (q ≠ 141 ∧ q ≠ 147 ∧ q ≠ 148 ∧ q ≠ 149) → g_21 q = g q := fun q hq => (hn_23 q (by omega)).trans (hfr_20 q hq)
  refine w_aload_n dX11_goesThrough_15 rfl 0 rfl ?_
  refine w_lconst0 dX11_goesThrough_16 ?_
  refine w_put (i := 18) (T := TX11) (NF := 32) 141 (by first | omega | with_reducible rfl) hm_24 rfl (fun _ h => (List.mem_cons_of_mem _ (List.mem_append_right _ h))) tyX11 tyX11_ok nmX11 (by decide) (List.mem_of_getElem? (i := 4) rfl) rfl rfl rfl (Nat.le_of_ble_eq_true rfl) dX11_goesThrough_17 (fun g_31 he_32 hn_33 => ?_)
  have hm_34 : vM cy B g_31 141 cg le sp va o0 0 0 mw fw ls gs 0 0 kr := he_32
  have hnow_35 : vIA cy B g_31 142 49 Nw := vIA_fr hnow_25 (fun q h1 h2 => hn_33 q (by omega))
  have hse_36 : vLA cy B g_31 146 169 Sv := vLA_fr hse_26 (fun q h1 h2 => hn_33 q (by omega))
  have htb_37 : vIA cy B g_31 147 5 Tb := vIA_fr htb_27 (fun q h1 h2 => hn_33 q (by omega))
  have hlk_38 : vIA cy B g_31 148 5 Lk := vIA_fr hlk_28 (fun q h1 h2 => hn_33 q (by omega))
  have hbs_39 : vLA cy B g_31 149 541 Bs := vLA_fr hbs_29 (fun q h1 h2 => hn_33 q (by omega))
  have hfr_40 : ∀ q, (q ≠ 141 ∧ q ≠ 147 ∧ q ≠ 148 ∧ q ≠ 149) → g_31 q = g q := fun q hq => (hn_33 q (by omega)).trans (hfr_30 q hq)
  refine w_iconst dX11_goesThrough_20 ?_
  refine w_istore_n [(3, .int (zI 0)), (0, .ref (B + 141)), (1, .int (zI ((k : Nat) : Int))), (2, .int (zI law))] dX11_goesThrough_21 rfl (by decide) rfl ?_
  refine w_sub [(0, .ref (B + 141)), (1, .int (zI ((k : Nat) : Int))), (2, .int (zI law)), (3, .int (zI 0))] [1, 2, 3, 0] rfl ?_
  refine w_lv (lv' := [(0, .ref (B + 141)), (1, .int (zI ((k : Nat) : Int))), (2, .int (zI law)), (3, .int (zI ((0 : Nat) : Int)))]) (lc_s (lc_s (lc_s (lc_i (by first | omega | with_reducible rfl) rfl)))) ?_
  refine w_loop3 (fun (i : Nat) (Bsi : Int → Int) (gl_41 : (Nat → va_E)) => vM cy B gl_41 141 cg le sp va o0 0 0 mw fw ls gs 0 0 kr ∧ vIA cy B gl_41 142 49 Nw ∧ vLA cy B gl_41 146 169 Sv ∧ vIA cy B gl_41 147 5 Tb ∧ vIA cy B gl_41 148 5 Lk ∧ vLA cy B gl_41 149 541 Bsi ∧ (∀ q, (q ≠ 141 ∧ q ≠ 147 ∧ q ≠ 148 ∧ q ≠ 149) → gl_41 q = g q) ∧ i ≤ 541 ∧ (∀ y : Int, 0 ≤ y → y < i → Bsi y = 0)) (fun (i : Nat) (Bsi : Int → Int) (gl_41 : (Nat → va_E)) => 541 - i) (fun (i : Nat) (Bsi : Int → Int) (gl_41 : (Nat → va_E)) => gl_41) (fun (i : Nat) (Bsi : Int → Int) (gl_41 : (Nat → va_E)) => [(0, .ref (B + 141)), (1, .int (zI ((k : Nat) : Int))), (2, .int (zI law)), (3, .int (zI ((i : Nat) : Int)))]) ?_ 0 Bs g_31 ⟨hm_34, hnow_35, hse_36, htb_37, hlk_38, hbs_39, hfr_40, (by first | omega | with_reducible rfl), (fun y h1 h2 => by omega)⟩
  rintro i Bsi gl_41 ⟨hm_42, hnow_43, hse_44, htb_45, hlk_46, hbs_47, hfr_48, hi, hz9⟩ ih_22
  refine w_iload_n dX11_goesThrough_22 rfl 3 rfl ?_
  refine w_sipush dX11_goesThrough_23 (by decide) ?_
  refine w_icmp_ge 42 dX11_goesThrough_26 (by decide) (by first | omega | with_reducible rfl) (by first | omega | with_reducible rfl) (fun c_26 => ?_) (fun c_26 => ?_)
  · refine w_aload_n dX11_goesThrough_42 rfl 0 rfl ?_
    refine w_iload_n dX11_goesThrough_43 rfl 1 rfl ?_
    refine w_calll (As := [.int (zI ((k : Nat) : Int))]) (rest := []) (n := 1) (c_X11_seenWays (k := k) hm_42 hnow_43 hse_44 (by first | omega | with_reducible rfl) (by first | omega | with_reducible rfl) (by first | omega | with_reducible rfl) (by first | omega | with_reducible rfl)) gX11_goesThrough_X11_seenWays rfl rfl rfl (by decide +kernel) ⟨Nat.le_of_ble_eq_true rfl, Nat.le_of_ble_eq_true rfl⟩ rfl (by first | omega | with_reducible rfl) hm_42 rfl (Nat.le_of_ble_eq_true rfl) ⟨Nat.zero_le _, Nat.zero_le _⟩ dX11_goesThrough_44 rfl (fun g_49 hp_50 => ?_)
    subst g_49
    refine w_lstore_n [(3, .long (zJ (coP c))), (0, .ref (B + 141)), (1, .int (zI ((k : Nat) : Int))), (2, .int (zI law))] dX11_goesThrough_47 rfl (by decide) rfl ?_
    refine w_aload_n dX11_goesThrough_48 rfl 1 rfl ?_
    refine w_iload_n dX11_goesThrough_49 rfl 2 rfl ?_
    refine w_calli (As := [.int (zI ((k : Nat) : Int))]) (rest := []) (n := 1) (c_X11_seenSum (k := k) hm_42 hnow_43 (by first | omega | with_reducible rfl) (by first | omega | with_reducible rfl)) gX11_goesThrough_X11_seenSum rfl rfl rfl (by decide +kernel) ⟨Nat.le_of_ble_eq_true rfl, Nat.le_of_ble_eq_true rfl⟩ rfl (by first | omega | with_reducible rfl) hm_42 rfl (Nat.le_of_ble_eq_true rfl) ⟨Nat.zero_le _, Nat.zero_le _⟩ dX11_goesThrough_50 rfl (fun g_51 hp_52 => ?_)
    subst g_51
    refine w_istore [(5, .int (zI (coS c))), (3, .long (zJ (coP c))), (0, .ref (B + 141)), (1, .int (zI ((k : Nat) : Int))), (2, .int (zI law))] dX11_goesThrough_53 (by decide) rfl ?_
    refine w_aload_n dX11_goesThrough_55 rfl 2 rfl ?_
    refine w_iload_n dX11_goesThrough_56 rfl 3 rfl ?_
    refine w_callv (As := [.int (zI ((k : Nat) : Int))]) (rest := []) (n := 1) (c_X11_first (k := k) hm_42 hnow_43 htb_45 (by first | omega | with_reducible rfl) (by first | omega | with_reducible rfl) (by first | omega | with_reducible rfl)) gX11_goesThrough_X11_first rfl rfl rfl (by decide +kernel) ⟨Nat.le_of_ble_eq_true rfl, Nat.le_of_ble_eq_true rfl⟩ rfl (by first | omega | with_reducible rfl) hm_42 rfl (Nat.le_of_ble_eq_true rfl) ⟨Nat.zero_le _, Nat.zero_le _⟩ dX11_goesThrough_57 rfl (fun g_53 hp_54 => ?_)
    obtain ⟨Tb1_55, hm_56, htb_57, hT1_57, hf_58⟩ := hp_54
    have hnow_59 : vIA cy B g_53 142 49 Nw := vIA_fr hnow_43 (fun q h1 h2 => hf_58 q (by omega))
    have hse_60 : vLA cy B g_53 146 169 Sv := vLA_fr hse_44 (fun q h1 h2 => hf_58 q (by omega))
    have hlk_61 : vIA cy B g_53 148 5 Lk := vIA_fr hlk_46 (fun q h1 h2 => hf_58 q (by omega))
    have hbs_62 : vLA cy B g_53 149 541 Bsi := vLA_fr hbs_47 (fun q h1 h2 => hf_58 q (by omega))
    have hfr_63 : ∀ q, (q ≠ 141 ∧ q ≠ 147 ∧ q ≠ 148 ∧ q ≠ 149) → g_53 q = g q := fun q hq => (hf_58 q (by omega)).trans (hfr_48 q hq)
    refine w_iconst dX11_goesThrough_60 ?_
    refine w_istore [(6, .int (zI 1)), (5, .int (zI (coS c))), (3, .long (zJ (coP c))), (0, .ref (B + 141)), (1, .int (zI ((k : Nat) : Int))), (2, .int (zI law))] dX11_goesThrough_61 (by decide) rfl ?_
    refine w_sub [(0, .ref (B + 141)), (2, .int (zI law)), (3, .long (zJ (coP c))), (5, .int (zI (coS c))), (6, .int (zI 1))] [3, 5, 2, 1, 0] rfl ?_
    refine w_lv (lv' := [(0, .ref (B + 141)), (2, .int (zI law)), (3, .long (zJ (coP c))), (5, .int (zI (coS c))), (6, .int (zI (if 0 < (tb (coL c) (coR c)).length then 1 else 0)))]) (lc_s (lc_s (lc_s (lc_s (lc_i (by rw [if_pos (by omega)]) rfl))))) ?_
    refine w_loop6 (fun (A : Acc) (M : List (List Nat)) (Tbi : Int → Int) (Lki : Int → Int) (Bsj : Int → Int) (gl_64 : (Nat → va_E)) => vM cy B gl_64 141 cg le sp va ((k : Nat) : Int) (A.1) (A.2.1) (A.2.2.1) (A.2.2.2.2.1) (A.2.2.2.2.2.1) (A.2.2.2.2.2.2.1) (A.2.2.2.2.2.2.2.1) (A.2.2.2.2.2.2.2.2.1) (A.2.2.2.2.2.2.2.2.2) ∧ vIA cy B gl_64 142 49 Nw ∧ vLA cy B gl_64 146 169 Sv ∧ vIA cy B gl_64 147 5 Tbi ∧ vIA cy B gl_64 148 5 Lki ∧ vLA cy B gl_64 149 541 Bsj ∧ (∀ q, (q ≠ 141 ∧ q ≠ 147 ∧ q ≠ 148 ∧ q ≠ 149) → gl_64 q = g q) ∧ (∃ D9, (tb (coL c) (coR c)) = D9 ++ M) ∧ (∀ u9 R9, M = u9 :: R9 → TR c.length Tbi u9) ∧ M.foldl (stepA c law) A = ((tb (coL c) (coR c)).foldl (stepA c law) ((0, 0, mw, [], fw, ls, gs, 0, 0, kr) : Acc)) ∧ (∀ y : Int, 0 ≤ y → y ≤ 540 → Bsj y + sumL (fun u => if sc (coL c) u = y then wt (coL c) u else 0) M = swF (coL c) (coR c) y) ∧ (A.1 ≠ 0 → TR c.length Lki A.2.2.2.1) ∧ rgA A ∧ (0 ≤ A.1 ∧ A.1 + ((M.length : Nat) : Int) = (((tb (coL c) (coR c)).length : Nat) : Int))) (fun (A : Acc) (M : List (List Nat)) (Tbi : Int → Int) (Lki : Int → Int) (Bsj : Int → Int) (gl_64 : (Nat → va_E)) => M.length) (fun (A : Acc) (M : List (List Nat)) (Tbi : Int → Int) (Lki : Int → Int) (Bsj : Int → Int) (gl_64 : (Nat → va_E)) => gl_64) (fun (A : Acc) (M : List (List Nat)) (Tbi : Int → Int) (Lki : Int → Int) (Bsj : Int → Int) (gl_64 : (Nat → va_E)) => [(0, .ref (B + 141)), (2, .int (zI law)), (3, .long (zJ (coP c))), (5, .int (zI (coS c))), (6, .int (zI (if 0 < M.length then 1 else 0)))]) ?_ (0, 0, mw, [], fw, ls, gs, 0, 0, kr) (tb (coL c) (coR c)) Tb1_55 Lk Bsi g_53 ⟨(by have h9 := hm_56; exact h9), hnow_59, hse_60, htb_57, hlk_61, hbs_62, hfr_63, ⟨[], rfl⟩, (fun u9 R9 h => by obtain ⟨l9, e9⟩ := tb_head hcL.2.2.1; rw [e9] at h; rw [← (List.cons.inj h).1]; exact hT1_57), rfl, (fun y h1 h2 => by rw [swF_tb]; have := hz9 y h1 (by omega); omega), (fun h => absurd rfl h), ⟨hrg.1, hrg.2.1, hrg.2.2.1, hrg.2.2.2⟩, ⟨Int.le_refl 0, Int.zero_add _⟩⟩
    rintro A M Tbi Lki Bsj gl_64 ⟨hm_65, hnow_66, hse_67, htb_68, hlk_69, hbs_70, hfr_71, hD, hT9, hF9, hB9, hL9, hr9, hA9⟩ ih_63
    refine w_iload dX11_goesThrough_63 4 rfl ?_
    refine w_ifeqB 85 dX11_goesThrough_65 (by decide) (fun c_65 => ?_) (fun c_65 => ?_)
    · have hM0 : M = [] := by cases M with | nil => rfl | cons u R9 => exact absurd (show 0 < (u :: R9).length by simp) c_65
      rw [hM0] at hF9 hB9
      have hAe : A = (tc (coL c) (coR c), bh (coL c) (coR c), lg (coL c) (coR c), bst (coL c) (coR c), sh (coL c) (coR c), les (coL c) (coR c), grs (coL c) (coR c), stT c law, stW c law, aRan c) := by rw [← GT hc law (A := (0, 0, mw, [], fw, ls, gs, 0, 0, kr)) rfl rfl rfl rfl, ← hF9]; rfl
      have hA7 : A.1 ≠ 0 := by rw [hAe]; have := tc_posR hc; show tc (coL c) (coR c) ≠ 0; omega
      exact w_vret dX11_goesThrough_85 rfl ⟨Tbi, Lki, Bsj, (by have h9 := hm_65; rw [hAe] at h9; exact h9), htb_68, hlk_69, hbs_70, (by have h7 := hL9 hA7; rw [hAe] at h7; exact h7), (fun y h1 h2 => by have h7 := hB9 y h1 h2; rw [← h7]; exact (Int.add_zero _).symm), hfr_71⟩
    · obtain ⟨u, R9, hMe⟩ : ∃ u R9, M = u :: R9 := by cases M with | nil => exact absurd c_65 (by simp) | cons u R9 => exact ⟨u, R9, rfl⟩
      obtain ⟨D9, hDe⟩ := hD
      have hu9 : u ∈ (tb (coL c) (coR c)) := by rw [hDe, hMe]; exact List.mem_append_right _ List.mem_cons_self
      have htc8 := tb_tbc hu9
      have hnxt : nxt (coL c) u = hdE R9 none := nxt_tb hcL.2.2.1 (by rw [hDe, hMe])
      have hA8 := hA9
      rw [hMe, List.length_cons] at hA8
      refine w_aload_n dX11_goesThrough_68 rfl 0 rfl ?_
      refine w_iload_n dX11_goesThrough_69 rfl 1 rfl ?_
      refine w_lload_n dX11_goesThrough_70 rfl 2 rfl ?_
      refine w_iload dX11_goesThrough_71 3 rfl ?_
      refine w_callv (As := [.int (zI law), .long (zJ (coP c)), .int (zI (coS c))]) (rest := []) (n := 3) (c_X11_looksAtTable (A := A) (u := u) hm_65 hnow_66 hse_67 htb_68 hlk_69 hbs_70 (by first | omega | with_reducible rfl) (by first | omega | with_reducible rfl) (by first | omega | with_reducible rfl) (by first | omega | with_reducible rfl) (hT9 u R9 hMe) hu9 hL9 hr9 (by first | omega | with_reducible rfl) (by first | omega | with_reducible rfl)) gX11_goesThrough_X11_looksAtTable rfl rfl rfl (by decide +kernel) ⟨Nat.le_of_ble_eq_true rfl, Nat.le_of_ble_eq_true rfl⟩ rfl (by first | omega | with_reducible rfl) hm_65 rfl (Nat.le_of_ble_eq_true rfl) ⟨Nat.zero_le _, Nat.zero_le _⟩ dX11_goesThrough_73 rfl (fun g_72 hp_73 => ?_)
      obtain ⟨Lk1_74, hm_75, hlk_76, hbs_77, hLk1_73, hf_78⟩ := hp_73
      have hnow_79 : vIA cy B g_72 142 49 Nw := vIA_fr hnow_66 (fun q h1 h2 => hf_78 q (by omega))
      have hse_80 : vLA cy B g_72 146 169 Sv := vLA_fr hse_67 (fun q h1 h2 => hf_78 q (by omega))
      have htb_81 : vIA cy B g_72 147 5 Tbi := vIA_fr htb_68 (fun q h1 h2 => hf_78 q (by omega))
      have hfr_82 : ∀ q, (q ≠ 141 ∧ q ≠ 147 ∧ q ≠ 148 ∧ q ≠ 149) → g_72 q = g q := fun q hq => (hf_78 q (by omega)).trans (hfr_71 q hq)
      refine w_aload_n dX11_goesThrough_76 rfl 0 rfl ?_
      refine w_calli (As := []) (rest := []) (n := 0) (c_X11_next (u := u) hm_75 hnow_79 htb_81 (by first | omega | with_reducible rfl) (by first | omega | with_reducible rfl) (by first | omega | with_reducible rfl) (by first | omega | with_reducible rfl) (hT9 u R9 hMe) htc8) gX11_goesThrough_X11_next rfl rfl rfl (by decide +kernel) ⟨Nat.le_of_ble_eq_true rfl, Nat.le_of_ble_eq_true rfl⟩ rfl (by first | omega | with_reducible rfl) hm_75 rfl (Nat.le_of_ble_eq_true rfl) ⟨Nat.zero_le _, Nat.zero_le _⟩ dX11_goesThrough_77 rfl (fun g_83 hp_84 => ?_)
      obtain ⟨Tb1_85, htb_86, hnx_77, hf_87⟩ := hp_84
      have hm_88 : vM cy B g_83 141 cg le sp va ((k : Nat) : Int) ((stepA c law A u).1) ((stepA c law A u).2.1) ((stepA c law A u).2.2.1) ((stepA c law A u).2.2.2.2.1) ((stepA c law A u).2.2.2.2.2.1) ((stepA c law A u).2.2.2.2.2.2.1) ((stepA c law A u).2.2.2.2.2.2.2.1) ((stepA c law A u).2.2.2.2.2.2.2.2.1) ((stepA c law A u).2.2.2.2.2.2.2.2.2) := vM_fr hm_75 (fun q h1 h2 => hf_87 q (by omega))
      have hnow_89 : vIA cy B g_83 142 49 Nw := vIA_fr hnow_79 (fun q h1 h2 => hf_87 q (by omega))
      have hse_90 : vLA cy B g_83 146 169 Sv := vLA_fr hse_80 (fun q h1 h2 => hf_87 q (by omega))
      have hlk_91 : vIA cy B g_83 148 5 Lk1_74 := vIA_fr hlk_76 (fun q h1 h2 => hf_87 q (by omega))
      have hbs_92 : vLA cy B g_83 149 541 (uZ Bsj (sc (coL c) u) ((Bsj (sc (coL c) u)) + (wt (coL c) u))) := vLA_fr hbs_77 (fun q h1 h2 => hf_87 q (by omega))
      have hfr_93 : ∀ q, (q ≠ 141 ∧ q ≠ 147 ∧ q ≠ 148 ∧ q ≠ 149) → g_83 q = g q := fun q hq => (hf_87 q (by omega)).trans (hfr_82 q hq)
      refine w_istore [(6, .int (zI (if (nxt (coL c) u).isSome = true then 1 else 0))), (0, .ref (B + 141)), (2, .int (zI law)), (3, .long (zJ (coP c))), (5, .int (zI (coS c)))] dX11_goesThrough_80 (by decide) rfl ?_
      refine w_goto 63 dX11_goesThrough_82 (by decide) ?_
      refine w_sub [(0, .ref (B + 141)), (2, .int (zI law)), (3, .long (zJ (coP c))), (5, .int (zI (coS c))), (6, .int (zI (if (nxt (coL c) u).isSome = true then 1 else 0)))] [1, 2, 3, 4, 0] rfl ?_
      refine w_lv (lv' := [(0, .ref (B + 141)), (2, .int (zI law)), (3, .long (zJ (coP c))), (5, .int (zI (coS c))), (6, .int (zI (if 0 < R9.length then 1 else 0)))]) (lc_s (lc_s (lc_s (lc_s (lc_i (by rw [hnxt]; cases R9 <;> rfl) rfl))))) ?_
      exact ih_63 (stepA c law A u) R9 Tb1_85 Lk1_74 (uZ Bsj (sc (coL c) u) ((Bsj (sc (coL c) u)) + (wt (coL c) u))) g_83 ⟨hm_88, hnow_89, hse_90, htb_86, hlk_91, hbs_92, hfr_93, ⟨D9 ++ [u], by rw [hDe, hMe]; simp⟩, (fun u8 R8 h => hnx_77 u8 (by rw [hnxt, h]; rfl)), (by rw [← hF9, hMe]; rfl), (bs_step (by rw [hMe] at hB9; exact hB9)), (fun _ => hLk1_73), (rgA_step hc hu9 hr9), (by rw [hMe, List.length_cons] at hA9; show 0 ≤ A.1 + 1 ∧ A.1 + 1 + _ = _; omega)⟩ (by rw [hMe, List.length_cons]; omega)
  · refine w_aload_n dX11_goesThrough_29 rfl 0 rfl ?_
    refine w_get (i := 21) (T := TX11) (NF := 32) 141 (by first | omega | with_reducible rfl) hm_42 rfl (fun _ h => (List.mem_cons_of_mem _ (List.mem_append_right _ h))) (by decide) (List.mem_of_getElem? (i := 5) rfl) rfl dX11_goesThrough_30 ?_
    refine w_iload_n dX11_goesThrough_33 rfl 3 rfl ?_
    refine w_lconst0 dX11_goesThrough_34 ?_
    refine w_last 149 (by first | omega | with_reducible rfl) hbs_47 (by first | omega | with_reducible rfl) dX11_goesThrough_35 (fun g_94 he_95 hn_96 => ?_)
    have hm_97 : vM cy B g_94 141 cg le sp va o0 0 0 mw fw ls gs 0 0 kr := vM_fr hm_42 (fun q h1 h2 => hn_96 q (by omega))
    have hnow_98 : vIA cy B g_94 142 49 Nw := vIA_fr hnow_43 (fun q h1 h2 => hn_96 q (by omega))
    have hse_99 : vLA cy B g_94 146 169 Sv := vLA_fr hse_44 (fun q h1 h2 => hn_96 q (by omega))
    have htb_100 : vIA cy B g_94 147 5 Tb := vIA_fr htb_45 (fun q h1 h2 => hn_96 q (by omega))
    have hlk_101 : vIA cy B g_94 148 5 Lk := vIA_fr hlk_46 (fun q h1 h2 => hn_96 q (by omega))
    have hbs_102 : vLA cy B g_94 149 541 (uZ Bsi ((i : Nat) : Int) 0) := he_95
    have hfr_103 : ∀ q, (q ≠ 141 ∧ q ≠ 147 ∧ q ≠ 148 ∧ q ≠ 149) → g_94 q = g q := fun q hq => (hn_96 q (by omega)).trans (hfr_48 q hq)
    refine w_iinc 3 [(3, .int (zI (((i : Nat) : Int) + 1))), (0, .ref (B + 141)), (1, .int (zI ((k : Nat) : Int))), (2, .int (zI law))] dX11_goesThrough_36 rfl (by decide) rfl ?_
    refine w_goto 22 dX11_goesThrough_39 (by decide) ?_
    refine w_sub [(0, .ref (B + 141)), (1, .int (zI ((k : Nat) : Int))), (2, .int (zI law)), (3, .int (zI (((i : Nat) : Int) + 1)))] [1, 2, 3, 0] rfl ?_
    refine w_lv (lv' := [(0, .ref (B + 141)), (1, .int (zI ((k : Nat) : Int))), (2, .int (zI law)), (3, .int (zI (((i + 1) : Nat) : Int)))]) (lc_s (lc_s (lc_s (lc_i (by first | omega | with_reducible rfl) rfl)))) ?_
    exact ih_22 (i + 1) (uZ Bsi ((i : Nat) : Int) 0) g_94 ⟨hm_97, hnow_98, hse_99, htb_100, hlk_101, hbs_102, hfr_103, (by first | omega | with_reducible rfl), (step_uz (f := fun _ => 0) hz9 rfl)⟩ (by first | omega | with_reducible rfl)

