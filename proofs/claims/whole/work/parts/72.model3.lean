/-! ===== the model: what is asked ===== -/
set_option maxHeartbeats 4000000 in
set_option maxRecDepth 100000 in
theorem m_n_X11_stratum {l : Launch} {D : va_G} {cy : Nat → ClassId} {B N : Nat} {g : Nat → va_E} {cg le sp va o0 tn aw mw fw ls gs sn sw kr : Int} {Nw : Int → Int} {S : St} {s what : Int} (hm : vM cy B g 141 cg le sp va o0 tn aw mw fw ls gs sn sw kr) (hnow : vIA cy B g 142 49 Nw) (hN : 160 ≤ N) (hER : ER Nw S) (h_s : -2147483648 ≤ s ∧ s < 2147483648) (h_what : -2147483648 ≤ what ∧ what < 2147483648) (hb : ¬ ((0 ≤ s ∧ s < S.length) ∧ 0 ≤ what ∧ what ≤ 6)) : CTi l yX11_stratum wsX11_stratum (rmo 6 145) D cy B N g [.ref (B + 141), .int (zI s), .int (zI what)] (-1) (fun g' => g' = g) := by
  refine WW_of (cc := cX11_stratum) (maxL := 3) (ret := (some .int)) (own := RX11) (by decide) rfl rfl (Nat.le_of_ble_eq_true rfl) rfl ?_
  intro pp ee ss mm bl me co hmn
  refine w_aload_n dX11_stratum_0 rfl 0 rfl ?_
  refine w_iload_n dX11_stratum_1 rfl 1 rfl ?_
  refine w_calli (As := [.int (zI s)]) (rest := []) (n := 1) (c_X11_isStratum hm hnow (by first | omega | with_reducible rfl) (by first | omega | with_reducible rfl) (by first | omega | with_reducible rfl)) gX11_stratum_X11_isStratum rfl rfl rfl (by decide +kernel) ⟨Nat.le_of_ble_eq_true rfl, Nat.le_of_ble_eq_true rfl⟩ rfl (by first | omega | with_reducible rfl) hm rfl (Nat.le_of_ble_eq_true rfl) ⟨Nat.zero_le _, Nat.zero_le _⟩ dX11_stratum_2 rfl (fun g_1 hp_2 => ?_)
  subst g_1
  refine w_ifeqB 18 dX11_stratum_5 (by decide) (fun c_5 => ?_) (fun c_5 => ?_)
  · refine w_iconst dX11_stratum_18 ?_
    exact w_iret dX11_stratum_19 rfl (by first | with_reducible rfl | omega | (split <;> omega)) rfl
  · refine w_iload_n dX11_stratum_8 rfl 2 rfl ?_
    refine w_iconst dX11_stratum_9 ?_
    refine w_bipush dX11_stratum_10 (by decide) ?_
    refine w_calliS (As := [.int (zI what), .int (zI 0), .int (zI 6)]) (rest := []) (n := 3) (c_X11_in (by first | omega | with_reducible rfl) (by first | omega | with_reducible rfl) (by first | omega | with_reducible rfl)) gX11_stratum_X11_in rfl rfl rfl (by decide +kernel) ⟨Nat.le_of_ble_eq_true rfl, Nat.le_of_ble_eq_true rfl⟩ rfl (Nat.le_of_ble_eq_true rfl) ⟨Nat.zero_le _, Nat.zero_le _⟩ dX11_stratum_12 rfl (fun g_3 hp_4 => ?_)
    subst g_3
    refine w_ifneB 20 dX11_stratum_15 (by decide) (fun c_15 => ?_) (fun c_15 => ?_)
    · exfalso; omega
    · refine w_iconst dX11_stratum_18 ?_
      exact w_iret dX11_stratum_19 rfl (by first | with_reducible rfl | omega | (split <;> omega)) rfl
set_option maxHeartbeats 4000000 in
set_option maxRecDepth 100000 in
theorem m_y_X11_stratum {l : Launch} {D : va_G} {cy : Nat → ClassId} {B N : Nat} {g : Nat → va_E} {cg le sp va o0 tn aw mw fw ls gs sn sw kr : Int} {Nw Sv Tb Lk Bs : Int → Int} {S : St} {k : Nat} {c : List Co} {what : Int} (hm : vM cy B g 141 cg le sp va o0 tn aw mw fw ls gs sn sw kr) (hnow : vIA cy B g 142 49 Nw) (hse : vLA cy B g 146 169 Sv) (htb : vIA cy B g 147 5 Tb) (hlk : vIA cy B g 148 5 Lk) (hbs : vLA cy B g 149 541 Bs) (hN : 160 ≤ N) (hER : ER Nw S) (hkS : k < S.length) (hcS : S.getD k [] = c) (hc : cok c) (h2 : 2 ≤ c.length) (hSv : SvOK Sv) (hrg : rgM mw fw ls gs) (h_what : -2147483648 ≤ what ∧ what < 2147483648) (hw : 0 ≤ what ∧ what ≤ 6) : CTi l yX11_stratum wsX11_stratum (rmo 6 145) D cy B N g [.ref (B + 141), .int (zI ((k : Nat) : Int)), .int (zI what)] (aStr c what) (fun g' => ∃ o01 : Int, ∃ tn1 : Int, ∃ aw1 : Int, ∃ mw1 : Int, ∃ fw1 : Int, ∃ ls1 : Int, ∃ gs1 : Int, ∃ sn1 : Int, ∃ sw1 : Int, ∃ kr1 : Int, ∃ Tb1 : Int → Int, ∃ Lk1 : Int → Int, ∃ Bs1 : Int → Int, vM cy B g' 141 cg le sp va o01 tn1 aw1 mw1 fw1 ls1 gs1 sn1 sw1 kr1 ∧ vIA cy B g' 147 5 Tb1 ∧ vIA cy B g' 148 5 Lk1 ∧ vLA cy B g' 149 541 Bs1 ∧ (rgM mw1 fw1 ls1 gs1) ∧ (∀ q, (q ≠ 141 ∧ q ≠ 147 ∧ q ≠ 148 ∧ q ≠ 149) → g' q = g q)) := by
  refine WW_of (cc := cX11_stratum) (maxL := 3) (ret := (some .int)) (own := RX11) (by decide) rfl rfl (Nat.le_of_ble_eq_true rfl) rfl ?_
  intro pp ee ss mm bl me co hmn
  have hfr_0 : ∀ q, (q ≠ 141 ∧ q ≠ 147 ∧ q ≠ 148 ∧ q ≠ 149) → g q = g q := fun _ _ => rfl
  have hmc : MC Nw k c := by have h := hER.2 k hkS; rw [hcS] at h; exact h
  have hk3 := hmc.1
  refine w_aload_n dX11_stratum_0 rfl 0 rfl ?_
  refine w_iload_n dX11_stratum_1 rfl 1 rfl ?_
  refine w_calli (As := [.int (zI ((k : Nat) : Int))]) (rest := []) (n := 1) (c_X11_isStratum hm hnow (by first | omega | with_reducible rfl) (by first | omega | with_reducible rfl) (by first | omega | with_reducible rfl)) gX11_stratum_X11_isStratum rfl rfl rfl (by decide +kernel) ⟨Nat.le_of_ble_eq_true rfl, Nat.le_of_ble_eq_true rfl⟩ rfl (by first | omega | with_reducible rfl) hm rfl (Nat.le_of_ble_eq_true rfl) ⟨Nat.zero_le _, Nat.zero_le _⟩ dX11_stratum_2 rfl (fun g_1 hp_2 => ?_)
  subst g_1
  refine w_ifeqB 18 dX11_stratum_5 (by decide) (fun c_5 => ?_) (fun c_5 => ?_)
  · exfalso; omega
  · refine w_iload_n dX11_stratum_8 rfl 2 rfl ?_
    refine w_iconst dX11_stratum_9 ?_
    refine w_bipush dX11_stratum_10 (by decide) ?_
    refine w_calliS (As := [.int (zI what), .int (zI 0), .int (zI 6)]) (rest := []) (n := 3) (c_X11_in (by first | omega | with_reducible rfl) (by first | omega | with_reducible rfl) (by first | omega | with_reducible rfl)) gX11_stratum_X11_in rfl rfl rfl (by decide +kernel) ⟨Nat.le_of_ble_eq_true rfl, Nat.le_of_ble_eq_true rfl⟩ rfl (Nat.le_of_ble_eq_true rfl) ⟨Nat.zero_le _, Nat.zero_le _⟩ dX11_stratum_12 rfl (fun g_3 hp_4 => ?_)
    subst g_3
    refine w_ifneB 20 dX11_stratum_15 (by decide) (fun c_15 => ?_) (fun c_15 => ?_)
    · refine w_iload_n dX11_stratum_20 rfl 2 rfl ?_
      by_cases c_21 : what < 0 ∨ 3 < what
      · refine w_tout 78 dX11_stratum_21 (by first | omega | with_reducible rfl) c_21 (by decide) ?_
        refine w_aload_n dX11_stratum_78 rfl 0 rfl ?_
        refine w_iload_n dX11_stratum_79 rfl 1 rfl ?_
        refine w_iconst dX11_stratum_80 ?_
        refine w_callv (As := [.int (zI ((k : Nat) : Int)), .int (zI 0)]) (rest := []) (n := 2) (c_X11_goesThrough (k := k) (law := 0) hm hnow hse htb hlk hbs (by first | omega | with_reducible rfl) (by first | omega | with_reducible rfl) (by first | omega | with_reducible rfl) (by first | omega | with_reducible rfl) (by first | omega | with_reducible rfl) hrg (by first | omega | with_reducible rfl)) gX11_stratum_X11_goesThrough rfl rfl rfl (by decide +kernel) ⟨Nat.le_of_ble_eq_true rfl, Nat.le_of_ble_eq_true rfl⟩ rfl (by first | omega | with_reducible rfl) hm rfl (Nat.le_of_ble_eq_true rfl) ⟨Nat.zero_le _, Nat.zero_le _⟩ dX11_stratum_81 rfl (fun g_5 hp_6 => ?_)
        obtain ⟨Tb1_7, Lk1_8, Bs1_9, hm_10, htb_11, hlk_12, hbs_13, hLk1_81, hBs1_81, hf_14⟩ := hp_6
        have hnow_15 : vIA cy B g_5 142 49 Nw := vIA_fr hnow (fun q h1 h2 => hf_14 q (by omega))
        have hse_16 : vLA cy B g_5 146 169 Sv := vLA_fr hse (fun q h1 h2 => hf_14 q (by omega))
        have hfr_17 : ∀ q, (q ≠ 141 ∧ q ≠ 147 ∧ q ≠ 148 ∧ q ≠ 149) → g_5 q = g q := fun q hq => (hf_14 q (by omega)).trans (hfr_0 q hq)
        refine w_iload_n dX11_stratum_84 rfl 2 rfl ?_
        refine w_iconst dX11_stratum_85 ?_
        refine w_icmp_ne 96 dX11_stratum_86 (by decide) (by first | omega | with_reducible rfl) (by first | omega | with_reducible rfl) (fun c_86 => ?_) (fun c_86 => ?_)
        · refine w_iload_n dX11_stratum_96 rfl 2 rfl ?_
          refine w_iconst dX11_stratum_97 ?_
          refine w_icmp_ne 108 dX11_stratum_98 (by decide) (by first | omega | with_reducible rfl) (by first | omega | with_reducible rfl) (fun c_98 => ?_) (fun c_98 => ?_)
          · refine w_aload_n dX11_stratum_108 rfl 0 rfl ?_
            refine w_get (i := 16) (T := TX11) (NF := 32) 141 (by first | omega | with_reducible rfl) hm_10 rfl (fun _ h => (List.mem_cons_of_mem _ (List.mem_append_right _ h))) (by decide) (List.mem_of_getElem? (i := 3) rfl) rfl dX11_stratum_109 ?_
            exact w_iret dX11_stratum_112 rfl (by first | (unfold aStr; rw [if_neg (by omega), if_neg (by omega), if_neg (by omega), if_neg (by omega), if_pos (by omega)]) | (unfold aStr; rw [if_neg (by omega), if_neg (by omega), if_neg (by omega), if_neg (by omega), if_neg (by omega), if_pos (by omega)]) | (unfold aStr; rw [if_neg (by omega), if_neg (by omega), if_neg (by omega), if_neg (by omega), if_neg (by omega), if_neg (by omega), if_pos (by omega)])) ⟨((k : Nat) : Int), (tc (coL c) (coR c)), (bh (coL c) (coR c)), (lg (coL c) (coR c)), (sh (coL c) (coR c)), (les (coL c) (coR c)), (grs (coL c) (coR c)), (stT c 0), (stW c 0), (aRan c), Tb1_7, Lk1_8, Bs1_9, hm_10, htb_11, hlk_12, hbs_13, (GTrg hc), hfr_17⟩
          · refine w_aload_n dX11_stratum_101 rfl 0 rfl ?_
            refine w_get (i := 15) (T := TX11) (NF := 32) 141 (by first | omega | with_reducible rfl) hm_10 rfl (fun _ h => (List.mem_cons_of_mem _ (List.mem_append_right _ h))) (by decide) (List.mem_of_getElem? (i := 2) rfl) rfl dX11_stratum_102 ?_
            refine w_goto 112 dX11_stratum_105 (by decide) ?_
            exact w_iret dX11_stratum_112 rfl (by first | (unfold aStr; rw [if_neg (by omega), if_neg (by omega), if_neg (by omega), if_neg (by omega), if_pos (by omega)]) | (unfold aStr; rw [if_neg (by omega), if_neg (by omega), if_neg (by omega), if_neg (by omega), if_neg (by omega), if_pos (by omega)]) | (unfold aStr; rw [if_neg (by omega), if_neg (by omega), if_neg (by omega), if_neg (by omega), if_neg (by omega), if_neg (by omega), if_pos (by omega)])) ⟨((k : Nat) : Int), (tc (coL c) (coR c)), (bh (coL c) (coR c)), (lg (coL c) (coR c)), (sh (coL c) (coR c)), (les (coL c) (coR c)), (grs (coL c) (coR c)), (stT c 0), (stW c 0), (aRan c), Tb1_7, Lk1_8, Bs1_9, hm_10, htb_11, hlk_12, hbs_13, (GTrg hc), hfr_17⟩
        · refine w_aload_n dX11_stratum_89 rfl 0 rfl ?_
          refine w_get (i := 11) (T := TX11) (NF := 32) 141 (by first | omega | with_reducible rfl) hm_10 rfl (fun _ h => (List.mem_cons_of_mem _ (List.mem_append_right _ h))) (by decide) (List.mem_of_getElem? (i := 1) rfl) rfl dX11_stratum_90 ?_
          refine w_goto 112 dX11_stratum_93 (by decide) ?_
          exact w_iret dX11_stratum_112 rfl (by first | (unfold aStr; rw [if_neg (by omega), if_neg (by omega), if_neg (by omega), if_neg (by omega), if_pos (by omega)]) | (unfold aStr; rw [if_neg (by omega), if_neg (by omega), if_neg (by omega), if_neg (by omega), if_neg (by omega), if_pos (by omega)]) | (unfold aStr; rw [if_neg (by omega), if_neg (by omega), if_neg (by omega), if_neg (by omega), if_neg (by omega), if_neg (by omega), if_pos (by omega)])) ⟨((k : Nat) : Int), (tc (coL c) (coR c)), (bh (coL c) (coR c)), (lg (coL c) (coR c)), (sh (coL c) (coR c)), (les (coL c) (coR c)), (grs (coL c) (coR c)), (stT c 0), (stW c 0), (aRan c), Tb1_7, Lk1_8, Bs1_9, hm_10, htb_11, hlk_12, hbs_13, (GTrg hc), hfr_17⟩
      · rcases (show what = 0 ∨ what = 1 ∨ what = 2 ∨ what = 3 by omega) with c_21 | c_21 | c_21 | c_21
        · refine w_tin (z := what) (off := 31) 52 dX11_stratum_21 (by first | omega | with_reducible rfl) (by omega) (by omega) (by rw [c_21]; rfl) (by decide) ?_
          refine w_aload_n dX11_stratum_52 rfl 0 rfl ?_
          refine w_iload_n dX11_stratum_53 rfl 1 rfl ?_
          refine w_calli (As := [.int (zI ((k : Nat) : Int))]) (rest := []) (n := 1) (c_X11_columns (k := k) hm hnow (by first | omega | with_reducible rfl) (by first | omega | with_reducible rfl)) gX11_stratum_X11_columns rfl rfl rfl (by decide +kernel) ⟨Nat.le_of_ble_eq_true rfl, Nat.le_of_ble_eq_true rfl⟩ rfl (by first | omega | with_reducible rfl) hm rfl (Nat.le_of_ble_eq_true rfl) ⟨Nat.zero_le _, Nat.zero_le _⟩ dX11_stratum_54 rfl (fun g_18 hp_19 => ?_)
          subst g_18
          exact w_iret dX11_stratum_57 rfl (by unfold aStr; rw [if_pos c_21]) ⟨o0, tn, aw, mw, fw, ls, gs, sn, sw, kr, Tb, Lk, Bs, hm, htb, hlk, hbs, hrg, hfr_0⟩
        · refine w_tin (z := what) (off := 37) 58 dX11_stratum_21 (by first | omega | with_reducible rfl) (by omega) (by omega) (by rw [c_21]; rfl) (by decide) ?_
          refine w_aload_n dX11_stratum_58 rfl 0 rfl ?_
          refine w_iload_n dX11_stratum_59 rfl 1 rfl ?_
          refine w_iconst dX11_stratum_60 ?_
          refine w_calli (As := [.int (zI ((k : Nat) : Int)), .int (zI 0)]) (rest := []) (n := 2) (c_X11_total0 (k := k) hm hnow (by first | omega | with_reducible rfl) (by first | omega | with_reducible rfl)) gX11_stratum_X11_total rfl rfl rfl (by decide +kernel) ⟨Nat.le_of_ble_eq_true rfl, Nat.le_of_ble_eq_true rfl⟩ rfl (by first | omega | with_reducible rfl) hm rfl (Nat.le_of_ble_eq_true rfl) ⟨Nat.zero_le _, Nat.zero_le _⟩ dX11_stratum_61 rfl (fun g_20 hp_21 => ?_)
          subst g_20
          exact w_iret dX11_stratum_64 rfl (by unfold aStr; rw [if_neg (by omega), if_pos c_21]) ⟨o0, tn, aw, mw, fw, ls, gs, sn, sw, kr, Tb, Lk, Bs, hm, htb, hlk, hbs, hrg, hfr_0⟩
        · refine w_tin (z := what) (off := 44) 65 dX11_stratum_21 (by first | omega | with_reducible rfl) (by omega) (by omega) (by rw [c_21]; rfl) (by decide) ?_
          refine w_aload_n dX11_stratum_65 rfl 0 rfl ?_
          refine w_iload_n dX11_stratum_66 rfl 1 rfl ?_
          refine w_iconst dX11_stratum_67 ?_
          refine w_calli (As := [.int (zI ((k : Nat) : Int)), .int (zI 1)]) (rest := []) (n := 2) (c_X11_total1 (k := k) hm hnow (by first | omega | with_reducible rfl) (by first | omega | with_reducible rfl)) gX11_stratum_X11_total rfl rfl rfl (by decide +kernel) ⟨Nat.le_of_ble_eq_true rfl, Nat.le_of_ble_eq_true rfl⟩ rfl (by first | omega | with_reducible rfl) hm rfl (Nat.le_of_ble_eq_true rfl) ⟨Nat.zero_le _, Nat.zero_le _⟩ dX11_stratum_68 rfl (fun g_22 hp_23 => ?_)
          subst g_22
          exact w_iret dX11_stratum_71 rfl (by unfold aStr; rw [if_neg (by omega), if_neg (by omega), if_pos c_21, coR_z hc]) ⟨o0, tn, aw, mw, fw, ls, gs, sn, sw, kr, Tb, Lk, Bs, hm, htb, hlk, hbs, hrg, hfr_0⟩
        · refine w_tin (z := what) (off := 51) 72 dX11_stratum_21 (by first | omega | with_reducible rfl) (by omega) (by omega) (by rw [c_21]; rfl) (by decide) ?_
          refine w_aload_n dX11_stratum_72 rfl 0 rfl ?_
          refine w_iload_n dX11_stratum_73 rfl 1 rfl ?_
          refine w_calli (As := [.int (zI ((k : Nat) : Int))]) (rest := []) (n := 1) (c_X11_seenSum (k := k) hm hnow (by first | omega | with_reducible rfl) (by first | omega | with_reducible rfl)) gX11_stratum_X11_seenSum rfl rfl rfl (by decide +kernel) ⟨Nat.le_of_ble_eq_true rfl, Nat.le_of_ble_eq_true rfl⟩ rfl (by first | omega | with_reducible rfl) hm rfl (Nat.le_of_ble_eq_true rfl) ⟨Nat.zero_le _, Nat.zero_le _⟩ dX11_stratum_74 rfl (fun g_24 hp_25 => ?_)
          subst g_24
          exact w_iret dX11_stratum_77 rfl (by unfold aStr; rw [if_neg (by omega), if_neg (by omega), if_neg (by omega), if_pos c_21]) ⟨o0, tn, aw, mw, fw, ls, gs, sn, sw, kr, Tb, Lk, Bs, hm, htb, hlk, hbs, hrg, hfr_0⟩
    · exfalso; omega

set_option maxHeartbeats 4000000 in
set_option maxRecDepth 100000 in
theorem m_n_X11_ways {l : Launch} {D : va_G} {cy : Nat → ClassId} {B N : Nat} {g : Nat → va_E} {cg le sp va o0 tn aw mw fw ls gs sn sw kr : Int} {Nw : Int → Int} {S : St} {s what : Int} (hm : vM cy B g 141 cg le sp va o0 tn aw mw fw ls gs sn sw kr) (hnow : vIA cy B g 142 49 Nw) (hN : 160 ≤ N) (hER : ER Nw S) (h_s : -2147483648 ≤ s ∧ s < 2147483648) (h_what : -2147483648 ≤ what ∧ what < 2147483648) (hb : ¬ ((0 ≤ s ∧ s < S.length) ∧ 0 ≤ what ∧ what ≤ 3)) : CTl l yX11_ways wsX11_ways (rmo 6 145) D cy B N g [.ref (B + 141), .int (zI s), .int (zI what)] (-1) (fun g' => g' = g) := by
  refine WW_of (cc := cX11_ways) (maxL := 3) (ret := (some .long)) (own := RX11) (by decide) rfl rfl (Nat.le_of_ble_eq_true rfl) rfl ?_
  intro pp ee ss mm bl me co hmn
  refine w_aload_n dX11_ways_0 rfl 0 rfl ?_
  refine w_iload_n dX11_ways_1 rfl 1 rfl ?_
  refine w_calli (As := [.int (zI s)]) (rest := []) (n := 1) (c_X11_isStratum hm hnow (by first | omega | with_reducible rfl) (by first | omega | with_reducible rfl) (by first | omega | with_reducible rfl)) gX11_ways_X11_isStratum rfl rfl rfl (by decide +kernel) ⟨Nat.le_of_ble_eq_true rfl, Nat.le_of_ble_eq_true rfl⟩ rfl (by first | omega | with_reducible rfl) hm rfl (Nat.le_of_ble_eq_true rfl) ⟨Nat.zero_le _, Nat.zero_le _⟩ dX11_ways_2 rfl (fun g_1 hp_2 => ?_)
  subst g_1
  refine w_ifeqB 17 dX11_ways_5 (by decide) (fun c_5 => ?_) (fun c_5 => ?_)
  · refine w_ldc2 (z := -1) (List.mem_of_getElem? (i := 1) rfl) dX11_ways_17 ?_
    exact w_lret dX11_ways_20 rfl (by first | with_reducible rfl | omega | (split <;> omega)) rfl
  · refine w_iload_n dX11_ways_8 rfl 2 rfl ?_
    refine w_iconst dX11_ways_9 ?_
    refine w_iconst dX11_ways_10 ?_
    refine w_calliS (As := [.int (zI what), .int (zI 0), .int (zI 3)]) (rest := []) (n := 3) (c_X11_in (by first | omega | with_reducible rfl) (by first | omega | with_reducible rfl) (by first | omega | with_reducible rfl)) gX11_ways_X11_in rfl rfl rfl (by decide +kernel) ⟨Nat.le_of_ble_eq_true rfl, Nat.le_of_ble_eq_true rfl⟩ rfl (Nat.le_of_ble_eq_true rfl) ⟨Nat.zero_le _, Nat.zero_le _⟩ dX11_ways_11 rfl (fun g_3 hp_4 => ?_)
    subst g_3
    refine w_ifneB 21 dX11_ways_14 (by decide) (fun c_14 => ?_) (fun c_14 => ?_)
    · exfalso; omega
    · refine w_ldc2 (z := -1) (List.mem_of_getElem? (i := 1) rfl) dX11_ways_17 ?_
      exact w_lret dX11_ways_20 rfl (by first | with_reducible rfl | omega | (split <;> omega)) rfl
set_option maxHeartbeats 4000000 in
set_option maxRecDepth 100000 in
theorem m_y_X11_ways {l : Launch} {D : va_G} {cy : Nat → ClassId} {B N : Nat} {g : Nat → va_E} {cg le sp va o0 tn aw mw fw ls gs sn sw kr : Int} {Nw Sv Tb Lk Bs : Int → Int} {S : St} {k : Nat} {c : List Co} {what : Int} (hm : vM cy B g 141 cg le sp va o0 tn aw mw fw ls gs sn sw kr) (hnow : vIA cy B g 142 49 Nw) (hse : vLA cy B g 146 169 Sv) (htb : vIA cy B g 147 5 Tb) (hlk : vIA cy B g 148 5 Lk) (hbs : vLA cy B g 149 541 Bs) (hN : 160 ≤ N) (hER : ER Nw S) (hkS : k < S.length) (hcS : S.getD k [] = c) (hc : cok c) (h2 : 2 ≤ c.length) (hSv : SvOK Sv) (hrg : rgM mw fw ls gs) (h_what : -2147483648 ≤ what ∧ what < 2147483648) (hw : 0 ≤ what ∧ what ≤ 3) : CTl l yX11_ways wsX11_ways (rmo 6 145) D cy B N g [.ref (B + 141), .int (zI ((k : Nat) : Int)), .int (zI what)] (aWay c what) (fun g' => ∃ o01 : Int, ∃ tn1 : Int, ∃ aw1 : Int, ∃ mw1 : Int, ∃ fw1 : Int, ∃ ls1 : Int, ∃ gs1 : Int, ∃ sn1 : Int, ∃ sw1 : Int, ∃ kr1 : Int, ∃ Tb1 : Int → Int, ∃ Lk1 : Int → Int, ∃ Bs1 : Int → Int, vM cy B g' 141 cg le sp va o01 tn1 aw1 mw1 fw1 ls1 gs1 sn1 sw1 kr1 ∧ vIA cy B g' 147 5 Tb1 ∧ vIA cy B g' 148 5 Lk1 ∧ vLA cy B g' 149 541 Bs1 ∧ (rgM mw1 fw1 ls1 gs1) ∧ (∀ q, (q ≠ 141 ∧ q ≠ 147 ∧ q ≠ 148 ∧ q ≠ 149) → g' q = g q)) := by
  refine WW_of (cc := cX11_ways) (maxL := 3) (ret := (some .long)) (own := RX11) (by decide) rfl rfl (Nat.le_of_ble_eq_true rfl) rfl ?_
  intro pp ee ss mm bl me co hmn
  have hfr_0 : ∀ q, (q ≠ 141 ∧ q ≠ 147 ∧ q ≠ 148 ∧ q ≠ 149) → g q = g q := fun _ _ => rfl
  have hmc : MC Nw k c := by have h := hER.2 k hkS; rw [hcS] at h; exact h
  have hk3 := hmc.1
  refine w_aload_n dX11_ways_0 rfl 0 rfl ?_
  refine w_iload_n dX11_ways_1 rfl 1 rfl ?_
  refine w_calli (As := [.int (zI ((k : Nat) : Int))]) (rest := []) (n := 1) (c_X11_isStratum hm hnow (by first | omega | with_reducible rfl) (by first | omega | with_reducible rfl) (by first | omega | with_reducible rfl)) gX11_ways_X11_isStratum rfl rfl rfl (by decide +kernel) ⟨Nat.le_of_ble_eq_true rfl, Nat.le_of_ble_eq_true rfl⟩ rfl (by first | omega | with_reducible rfl) hm rfl (Nat.le_of_ble_eq_true rfl) ⟨Nat.zero_le _, Nat.zero_le _⟩ dX11_ways_2 rfl (fun g_1 hp_2 => ?_)
  subst g_1
  refine w_ifeqB 17 dX11_ways_5 (by decide) (fun c_5 => ?_) (fun c_5 => ?_)
  · exfalso; omega
  · refine w_iload_n dX11_ways_8 rfl 2 rfl ?_
    refine w_iconst dX11_ways_9 ?_
    refine w_iconst dX11_ways_10 ?_
    refine w_calliS (As := [.int (zI what), .int (zI 0), .int (zI 3)]) (rest := []) (n := 3) (c_X11_in (by first | omega | with_reducible rfl) (by first | omega | with_reducible rfl) (by first | omega | with_reducible rfl)) gX11_ways_X11_in rfl rfl rfl (by decide +kernel) ⟨Nat.le_of_ble_eq_true rfl, Nat.le_of_ble_eq_true rfl⟩ rfl (Nat.le_of_ble_eq_true rfl) ⟨Nat.zero_le _, Nat.zero_le _⟩ dX11_ways_11 rfl (fun g_3 hp_4 => ?_)
    subst g_3
    refine w_ifneB 21 dX11_ways_14 (by decide) (fun c_14 => ?_) (fun c_14 => ?_)
    · refine w_iload_n dX11_ways_21 rfl 2 rfl ?_
      refine w_if_ne 31 dX11_ways_22 (by decide) (by first | omega | with_reducible rfl) (fun c_22 => ?_) (fun c_22 => ?_)
      · refine w_aload_n dX11_ways_31 rfl 0 rfl ?_
        refine w_iload_n dX11_ways_32 rfl 1 rfl ?_
        refine w_iconst dX11_ways_33 ?_
        refine w_callv (As := [.int (zI ((k : Nat) : Int)), .int (zI 0)]) (rest := []) (n := 2) (c_X11_goesThrough (k := k) (law := 0) hm hnow hse htb hlk hbs (by first | omega | with_reducible rfl) (by first | omega | with_reducible rfl) (by first | omega | with_reducible rfl) (by first | omega | with_reducible rfl) (by first | omega | with_reducible rfl) hrg (by first | omega | with_reducible rfl)) gX11_ways_X11_goesThrough rfl rfl rfl (by decide +kernel) ⟨Nat.le_of_ble_eq_true rfl, Nat.le_of_ble_eq_true rfl⟩ rfl (by first | omega | with_reducible rfl) hm rfl (Nat.le_of_ble_eq_true rfl) ⟨Nat.zero_le _, Nat.zero_le _⟩ dX11_ways_34 rfl (fun g_5 hp_6 => ?_)
        obtain ⟨Tb1_7, Lk1_8, Bs1_9, hm_10, htb_11, hlk_12, hbs_13, hLk1_34, hBs1_34, hf_14⟩ := hp_6
        have hnow_15 : vIA cy B g_5 142 49 Nw := vIA_fr hnow (fun q h1 h2 => hf_14 q (by omega))
        have hse_16 : vLA cy B g_5 146 169 Sv := vLA_fr hse (fun q h1 h2 => hf_14 q (by omega))
        have hfr_17 : ∀ q, (q ≠ 141 ∧ q ≠ 147 ∧ q ≠ 148 ∧ q ≠ 149) → g_5 q = g q := fun q hq => (hf_14 q (by omega)).trans (hfr_0 q hq)
        refine w_iload_n dX11_ways_37 rfl 2 rfl ?_
        refine w_iconst dX11_ways_38 ?_
        refine w_icmp_ne 49 dX11_ways_39 (by decide) (by first | omega | with_reducible rfl) (by first | omega | with_reducible rfl) (fun c_39 => ?_) (fun c_39 => ?_)
        · refine w_iload_n dX11_ways_49 rfl 2 rfl ?_
          refine w_iconst dX11_ways_50 ?_
          refine w_icmp_ne 61 dX11_ways_51 (by decide) (by first | omega | with_reducible rfl) (by first | omega | with_reducible rfl) (fun c_51 => ?_) (fun c_51 => ?_)
          · refine w_aload_n dX11_ways_61 rfl 0 rfl ?_
            refine w_get (i := 14) (T := TX11) (NF := 32) 141 (by first | omega | with_reducible rfl) hm_10 rfl (fun _ h => (List.mem_cons_of_mem _ (List.mem_append_right _ h))) (by decide) (List.mem_of_getElem? (i := 4) rfl) rfl dX11_ways_62 ?_
            exact w_lret dX11_ways_65 rfl (by first | (unfold aWay; rw [if_neg (by omega), if_pos (by omega)]) | (unfold aWay; rw [if_neg (by omega), if_neg (by omega), if_pos (by omega)]) | (unfold aWay; rw [if_neg (by omega), if_neg (by omega), if_neg (by omega), if_pos (by omega)])) ⟨((k : Nat) : Int), (tc (coL c) (coR c)), (bh (coL c) (coR c)), (lg (coL c) (coR c)), (sh (coL c) (coR c)), (les (coL c) (coR c)), (grs (coL c) (coR c)), (stT c 0), (stW c 0), (aRan c), Tb1_7, Lk1_8, Bs1_9, hm_10, htb_11, hlk_12, hbs_13, (GTrg hc), hfr_17⟩
          · refine w_aload_n dX11_ways_54 rfl 0 rfl ?_
            refine w_get (i := 13) (T := TX11) (NF := 32) 141 (by first | omega | with_reducible rfl) hm_10 rfl (fun _ h => (List.mem_cons_of_mem _ (List.mem_append_right _ h))) (by decide) (List.mem_of_getElem? (i := 3) rfl) rfl dX11_ways_55 ?_
            refine w_goto 65 dX11_ways_58 (by decide) ?_
            exact w_lret dX11_ways_65 rfl (by first | (unfold aWay; rw [if_neg (by omega), if_pos (by omega)]) | (unfold aWay; rw [if_neg (by omega), if_neg (by omega), if_pos (by omega)]) | (unfold aWay; rw [if_neg (by omega), if_neg (by omega), if_neg (by omega), if_pos (by omega)])) ⟨((k : Nat) : Int), (tc (coL c) (coR c)), (bh (coL c) (coR c)), (lg (coL c) (coR c)), (sh (coL c) (coR c)), (les (coL c) (coR c)), (grs (coL c) (coR c)), (stT c 0), (stW c 0), (aRan c), Tb1_7, Lk1_8, Bs1_9, hm_10, htb_11, hlk_12, hbs_13, (GTrg hc), hfr_17⟩
        · refine w_aload_n dX11_ways_42 rfl 0 rfl ?_
          refine w_get (i := 12) (T := TX11) (NF := 32) 141 (by first | omega | with_reducible rfl) hm_10 rfl (fun _ h => (List.mem_cons_of_mem _ (List.mem_append_right _ h))) (by decide) (List.mem_of_getElem? (i := 2) rfl) rfl dX11_ways_43 ?_
          refine w_goto 65 dX11_ways_46 (by decide) ?_
          exact w_lret dX11_ways_65 rfl (by first | (unfold aWay; rw [if_neg (by omega), if_pos (by omega)]) | (unfold aWay; rw [if_neg (by omega), if_neg (by omega), if_pos (by omega)]) | (unfold aWay; rw [if_neg (by omega), if_neg (by omega), if_neg (by omega), if_pos (by omega)])) ⟨((k : Nat) : Int), (tc (coL c) (coR c)), (bh (coL c) (coR c)), (lg (coL c) (coR c)), (sh (coL c) (coR c)), (les (coL c) (coR c)), (grs (coL c) (coR c)), (stT c 0), (stW c 0), (aRan c), Tb1_7, Lk1_8, Bs1_9, hm_10, htb_11, hlk_12, hbs_13, (GTrg hc), hfr_17⟩
      · refine w_aload_n dX11_ways_25 rfl 0 rfl ?_
        refine w_iload_n dX11_ways_26 rfl 1 rfl ?_
        refine w_calll (As := [.int (zI ((k : Nat) : Int))]) (rest := []) (n := 1) (c_X11_seenWays (k := k) hm hnow hse (by first | omega | with_reducible rfl) (by first | omega | with_reducible rfl) (by first | omega | with_reducible rfl) (by first | omega | with_reducible rfl)) gX11_ways_X11_seenWays rfl rfl rfl (by decide +kernel) ⟨Nat.le_of_ble_eq_true rfl, Nat.le_of_ble_eq_true rfl⟩ rfl (by first | omega | with_reducible rfl) hm rfl (Nat.le_of_ble_eq_true rfl) ⟨Nat.zero_le _, Nat.zero_le _⟩ dX11_ways_27 rfl (fun g_18 hp_19 => ?_)
        subst g_18
        exact w_lret dX11_ways_30 rfl (by unfold aWay; rw [if_pos (by omega)]) ⟨o0, tn, aw, mw, fw, ls, gs, sn, sw, kr, Tb, Lk, Bs, hm, htb, hlk, hbs, hrg, hfr_0⟩
    · exfalso; omega

set_option maxHeartbeats 4000000 in
set_option maxRecDepth 100000 in
theorem c_X11_common {l : Launch} {D : va_G} {cy : Nat → ClassId} {B N : Nat} {g : Nat → va_E} {x y : Nat} (hx : x < 9223372036854775808) (hy : y < 9223372036854775808) : CTl l yX11_common wsX11_common (rmo 0 0) D cy B N g [.long (zJ ((x : Nat) : Int)), .long (zJ ((y : Nat) : Int))] ((Nat.gcd x y : Nat) : Int) (fun g' => g' = g) := by
  refine WW_of (cc := cX11_common) (maxL := 10) (ret := (some .long)) (own := RX11) (by decide) rfl rfl (Nat.le_of_ble_eq_true rfl) rfl ?_
  intro pp ee ss mm bl me co hmn
  refine w_lload_n dX11_common_0 rfl 0 rfl ?_
  refine w_lstore [(4, .long (zJ ((x : Nat) : Int))), (0, .long (zJ ((x : Nat) : Int))), (2, .long (zJ ((y : Nat) : Int)))] dX11_common_1 (by decide) rfl ?_
  refine w_lload_n dX11_common_3 rfl 2 rfl ?_
  refine w_lstore [(6, .long (zJ ((y : Nat) : Int))), (4, .long (zJ ((x : Nat) : Int))), (0, .long (zJ ((x : Nat) : Int))), (2, .long (zJ ((y : Nat) : Int)))] dX11_common_4 (by decide) rfl ?_
  refine w_sub [(4, .long (zJ ((x : Nat) : Int))), (6, .long (zJ ((y : Nat) : Int)))] [1, 0] rfl ?_
  refine w_lv (lv' := [(4, .long (zJ ((x : Nat) : Int))), (6, .long (zJ ((y : Nat) : Int)))]) (lc_l (by first | omega | with_reducible rfl) (lc_l (by first | omega | with_reducible rfl) rfl)) ?_
  refine w_loop2 (fun (p : Nat) (q : Nat) => Nat.gcd p q = Nat.gcd x y ∧ p < 9223372036854775808 ∧ q < 9223372036854775808) (fun (p : Nat) (q : Nat) => q) (fun (p : Nat) (q : Nat) => g) (fun (p : Nat) (q : Nat) => [(4, .long (zJ ((p : Nat) : Int))), (6, .long (zJ ((q : Nat) : Int)))]) ?_ x y ⟨rfl, (by first | omega | with_reducible rfl), (by first | omega | with_reducible rfl)⟩
  rintro p q ⟨hg, hp, hq⟩ ih_6
  refine w_lload dX11_common_6 1 rfl ?_
  refine w_lconst0 dX11_common_8 ?_
  refine w_lcmp_eq 31 dX11_common_9 dX11_common_10 (by decide) (by first | omega | with_reducible rfl) (by first | omega | with_reducible rfl) (fun c_9 => ?_) (fun c_9 => ?_)
  · have hq0 : q = 0 := by omega
    refine w_lload dX11_common_31 0 rfl ?_
    exact w_lret dX11_common_33 rfl (by rw [← hg, hq0, Nat.gcd_zero_right]) rfl
  · refine w_lload dX11_common_13 0 rfl ?_
    refine w_lload dX11_common_15 1 rfl ?_
    refine w_lrem dX11_common_17 (by first | omega | with_reducible rfl) (by first | omega | with_reducible rfl) ?_
    refine w_as (st' := [.long (zJ (((p % q) : Nat) : Int))]) (sc_l rfl rfl) ?_
    refine w_lstore [(8, .long (zJ (((p % q) : Nat) : Int))), (4, .long (zJ ((p : Nat) : Int))), (6, .long (zJ ((q : Nat) : Int)))] dX11_common_18 (by decide) rfl ?_
    refine w_lload dX11_common_20 2 rfl ?_
    refine w_lstore [(4, .long (zJ ((q : Nat) : Int))), (8, .long (zJ (((p % q) : Nat) : Int))), (6, .long (zJ ((q : Nat) : Int)))] dX11_common_22 (by decide) rfl ?_
    refine w_lload dX11_common_24 1 rfl ?_
    refine w_lstore [(6, .long (zJ (((p % q) : Nat) : Int))), (4, .long (zJ ((q : Nat) : Int))), (8, .long (zJ (((p % q) : Nat) : Int)))] dX11_common_26 (by decide) rfl ?_
    refine w_goto 6 dX11_common_28 (by decide) ?_
    refine w_sub [(4, .long (zJ ((q : Nat) : Int))), (6, .long (zJ (((p % q) : Nat) : Int)))] [1, 0] rfl ?_
    refine w_lv (lv' := [(4, .long (zJ ((q : Nat) : Int))), (6, .long (zJ (((p % q) : Nat) : Int)))]) (lc_l (by first | omega | with_reducible rfl) (lc_l (by first | omega | with_reducible rfl) rfl)) ?_
    exact ih_6 q (p % q) ⟨(by rw [← hg, Nat.gcd_comm p q, Nat.gcd_rec q p, Nat.gcd_comm]), (by first | omega | with_reducible rfl), (Nat.lt_of_le_of_lt (Nat.mod_le p q) hp)⟩ (Nat.mod_lt _ (by omega))

set_option maxHeartbeats 4000000 in
set_option maxRecDepth 100000 in
theorem m_n_X11_chance {l : Launch} {D : va_G} {cy : Nat → ClassId} {B N : Nat} {g : Nat → va_E} {cg le sp va o0 tn aw mw fw ls gs sn sw kr : Int} {Nw : Int → Int} {S : St} {s law part : Int} (hm : vM cy B g 141 cg le sp va o0 tn aw mw fw ls gs sn sw kr) (hnow : vIA cy B g 142 49 Nw) (hN : 160 ≤ N) (hER : ER Nw S) (h_s : -2147483648 ≤ s ∧ s < 2147483648) (h_law : -2147483648 ≤ law ∧ law < 2147483648) (h_part : -2147483648 ≤ part ∧ part < 2147483648) (hb : ¬ ((0 ≤ s ∧ s < S.length) ∧ 0 ≤ law ∧ law ≤ 2 ∧ 0 ≤ part ∧ part ≤ 1)) : CTl l yX11_chance wsX11_chance (rmo 6 145) D cy B N g [.ref (B + 141), .int (zI s), .int (zI law), .int (zI part)] (-1) (fun g' => g' = g) := by
  refine WW_of (cc := cX11_chance) (maxL := 4) (ret := (some .long)) (own := RX11) (by decide) rfl rfl (Nat.le_of_ble_eq_true rfl) rfl ?_
  intro pp ee ss mm bl me co hmn
  refine w_aload_n dX11_chance_0 rfl 0 rfl ?_
  refine w_iload_n dX11_chance_1 rfl 1 rfl ?_
  refine w_calli (As := [.int (zI s)]) (rest := []) (n := 1) (c_X11_isStratum hm hnow (by first | omega | with_reducible rfl) (by first | omega | with_reducible rfl) (by first | omega | with_reducible rfl)) gX11_chance_X11_isStratum rfl rfl rfl (by decide +kernel) ⟨Nat.le_of_ble_eq_true rfl, Nat.le_of_ble_eq_true rfl⟩ rfl (by first | omega | with_reducible rfl) hm rfl (Nat.le_of_ble_eq_true rfl) ⟨Nat.zero_le _, Nat.zero_le _⟩ dX11_chance_2 rfl (fun g_1 hp_2 => ?_)
  subst g_1
  refine w_ifeqB 26 dX11_chance_5 (by decide) (fun c_5 => ?_) (fun c_5 => ?_)
  · refine w_ldc2 (z := -1) (List.mem_of_getElem? (i := 1) rfl) dX11_chance_26 ?_
    exact w_lret dX11_chance_29 rfl (by first | with_reducible rfl | omega | (split <;> omega)) rfl
  · refine w_iload_n dX11_chance_8 rfl 2 rfl ?_
    refine w_iconst dX11_chance_9 ?_
    refine w_iconst dX11_chance_10 ?_
    refine w_calliS (As := [.int (zI law), .int (zI 0), .int (zI 2)]) (rest := []) (n := 3) (c_X11_in (by first | omega | with_reducible rfl) (by first | omega | with_reducible rfl) (by first | omega | with_reducible rfl)) gX11_chance_X11_in rfl rfl rfl (by decide +kernel) ⟨Nat.le_of_ble_eq_true rfl, Nat.le_of_ble_eq_true rfl⟩ rfl (Nat.le_of_ble_eq_true rfl) ⟨Nat.zero_le _, Nat.zero_le _⟩ dX11_chance_11 rfl (fun g_3 hp_4 => ?_)
    subst g_3
    refine w_ifeqB 26 dX11_chance_14 (by decide) (fun c_14 => ?_) (fun c_14 => ?_)
    · refine w_ldc2 (z := -1) (List.mem_of_getElem? (i := 1) rfl) dX11_chance_26 ?_
      exact w_lret dX11_chance_29 rfl (by first | with_reducible rfl | omega | (split <;> omega)) rfl
    · refine w_iload_n dX11_chance_17 rfl 3 rfl ?_
      refine w_iconst dX11_chance_18 ?_
      refine w_iconst dX11_chance_19 ?_
      refine w_calliS (As := [.int (zI part), .int (zI 0), .int (zI 1)]) (rest := []) (n := 3) (c_X11_in (by first | omega | with_reducible rfl) (by first | omega | with_reducible rfl) (by first | omega | with_reducible rfl)) gX11_chance_X11_in rfl rfl rfl (by decide +kernel) ⟨Nat.le_of_ble_eq_true rfl, Nat.le_of_ble_eq_true rfl⟩ rfl (Nat.le_of_ble_eq_true rfl) ⟨Nat.zero_le _, Nat.zero_le _⟩ dX11_chance_20 rfl (fun g_5 hp_6 => ?_)
      subst g_5
      refine w_ifneB 30 dX11_chance_23 (by decide) (fun c_23 => ?_) (fun c_23 => ?_)
      · exfalso; omega
      · refine w_ldc2 (z := -1) (List.mem_of_getElem? (i := 1) rfl) dX11_chance_26 ?_
        exact w_lret dX11_chance_29 rfl (by first | with_reducible rfl | omega | (split <;> omega)) rfl
set_option maxHeartbeats 4000000 in
set_option maxRecDepth 100000 in
theorem m_y_X11_chance {l : Launch} {D : va_G} {cy : Nat → ClassId} {B N : Nat} {g : Nat → va_E} {cg le sp va o0 tn aw mw fw ls gs sn sw kr : Int} {Nw Sv Tb Lk Bs : Int → Int} {S : St} {k : Nat} {c : List Co} {law part : Int} (hm : vM cy B g 141 cg le sp va o0 tn aw mw fw ls gs sn sw kr) (hnow : vIA cy B g 142 49 Nw) (hse : vLA cy B g 146 169 Sv) (htb : vIA cy B g 147 5 Tb) (hlk : vIA cy B g 148 5 Lk) (hbs : vLA cy B g 149 541 Bs) (hN : 160 ≤ N) (hER : ER Nw S) (hkS : k < S.length) (hcS : S.getD k [] = c) (hc : cok c) (h2 : 2 ≤ c.length) (hSv : SvOK Sv) (hrg : rgM mw fw ls gs) (h_law : -2147483648 ≤ law ∧ law < 2147483648) (h_part : -2147483648 ≤ part ∧ part < 2147483648) (hw : 0 ≤ law ∧ law ≤ 2 ∧ 0 ≤ part ∧ part ≤ 1) : CTl l yX11_chance wsX11_chance (rmo 6 145) D cy B N g [.ref (B + 141), .int (zI ((k : Nat) : Int)), .int (zI law), .int (zI part)] (aCha c law part) (fun g' => ∃ o01 : Int, ∃ tn1 : Int, ∃ aw1 : Int, ∃ mw1 : Int, ∃ fw1 : Int, ∃ ls1 : Int, ∃ gs1 : Int, ∃ sn1 : Int, ∃ sw1 : Int, ∃ kr1 : Int, ∃ Tb1 : Int → Int, ∃ Lk1 : Int → Int, ∃ Bs1 : Int → Int, vM cy B g' 141 cg le sp va o01 tn1 aw1 mw1 fw1 ls1 gs1 sn1 sw1 kr1 ∧ vIA cy B g' 147 5 Tb1 ∧ vIA cy B g' 148 5 Lk1 ∧ vLA cy B g' 149 541 Bs1 ∧ (rgM mw1 fw1 ls1 gs1) ∧ (∀ q, (q ≠ 141 ∧ q ≠ 147 ∧ q ≠ 148 ∧ q ≠ 149) → g' q = g q)) := by
  refine WW_of (cc := cX11_chance) (maxL := 4) (ret := (some .long)) (own := RX11) (by decide) rfl rfl (Nat.le_of_ble_eq_true rfl) rfl ?_
  intro pp ee ss mm bl me co hmn
  have hfr_0 : ∀ q, (q ≠ 141 ∧ q ≠ 147 ∧ q ≠ 148 ∧ q ≠ 149) → g q = g q := fun _ _ => rfl
  have hmc : MC Nw k c := by have h := hER.2 k hkS; rw [hcS] at h; exact h
  have hk3 := hmc.1
  refine w_aload_n dX11_chance_0 rfl 0 rfl ?_
  refine w_iload_n dX11_chance_1 rfl 1 rfl ?_
  refine w_calli (As := [.int (zI ((k : Nat) : Int))]) (rest := []) (n := 1) (c_X11_isStratum hm hnow (by first | omega | with_reducible rfl) (by first | omega | with_reducible rfl) (by first | omega | with_reducible rfl)) gX11_chance_X11_isStratum rfl rfl rfl (by decide +kernel) ⟨Nat.le_of_ble_eq_true rfl, Nat.le_of_ble_eq_true rfl⟩ rfl (by first | omega | with_reducible rfl) hm rfl (Nat.le_of_ble_eq_true rfl) ⟨Nat.zero_le _, Nat.zero_le _⟩ dX11_chance_2 rfl (fun g_1 hp_2 => ?_)
  subst g_1
  refine w_ifeqB 26 dX11_chance_5 (by decide) (fun c_5 => ?_) (fun c_5 => ?_)
  · exfalso; omega
  · refine w_iload_n dX11_chance_8 rfl 2 rfl ?_
    refine w_iconst dX11_chance_9 ?_
    refine w_iconst dX11_chance_10 ?_
    refine w_calliS (As := [.int (zI law), .int (zI 0), .int (zI 2)]) (rest := []) (n := 3) (c_X11_in (by first | omega | with_reducible rfl) (by first | omega | with_reducible rfl) (by first | omega | with_reducible rfl)) gX11_chance_X11_in rfl rfl rfl (by decide +kernel) ⟨Nat.le_of_ble_eq_true rfl, Nat.le_of_ble_eq_true rfl⟩ rfl (Nat.le_of_ble_eq_true rfl) ⟨Nat.zero_le _, Nat.zero_le _⟩ dX11_chance_11 rfl (fun g_3 hp_4 => ?_)
    subst g_3
    refine w_ifeqB 26 dX11_chance_14 (by decide) (fun c_14 => ?_) (fun c_14 => ?_)
    · exfalso; omega
    · refine w_iload_n dX11_chance_17 rfl 3 rfl ?_
      refine w_iconst dX11_chance_18 ?_
      refine w_iconst dX11_chance_19 ?_
      refine w_calliS (As := [.int (zI part), .int (zI 0), .int (zI 1)]) (rest := []) (n := 3) (c_X11_in (by first | omega | with_reducible rfl) (by first | omega | with_reducible rfl) (by first | omega | with_reducible rfl)) gX11_chance_X11_in rfl rfl rfl (by decide +kernel) ⟨Nat.le_of_ble_eq_true rfl, Nat.le_of_ble_eq_true rfl⟩ rfl (Nat.le_of_ble_eq_true rfl) ⟨Nat.zero_le _, Nat.zero_le _⟩ dX11_chance_20 rfl (fun g_5 hp_6 => ?_)
      subst g_5
      refine w_ifneB 30 dX11_chance_23 (by decide) (fun c_23 => ?_) (fun c_23 => ?_)
      · refine w_aload_n dX11_chance_30 rfl 0 rfl ?_
        refine w_iload_n dX11_chance_31 rfl 1 rfl ?_
        refine w_iload_n dX11_chance_32 rfl 2 rfl ?_
        refine w_callv (As := [.int (zI ((k : Nat) : Int)), .int (zI law)]) (rest := []) (n := 2) (c_X11_goesThrough (k := k) hm hnow hse htb hlk hbs (by first | omega | with_reducible rfl) (by first | omega | with_reducible rfl) (by first | omega | with_reducible rfl) (by first | omega | with_reducible rfl) (by first | omega | with_reducible rfl) hrg (by first | omega | with_reducible rfl)) gX11_chance_X11_goesThrough rfl rfl rfl (by decide +kernel) ⟨Nat.le_of_ble_eq_true rfl, Nat.le_of_ble_eq_true rfl⟩ rfl (by first | omega | with_reducible rfl) hm rfl (Nat.le_of_ble_eq_true rfl) ⟨Nat.zero_le _, Nat.zero_le _⟩ dX11_chance_33 rfl (fun g_7 hp_8 => ?_)
        obtain ⟨Tb1_9, Lk1_10, Bs1_11, hm_12, htb_13, hlk_14, hbs_15, hLk1_33, hBs1_33, hf_16⟩ := hp_8
        have hnow_17 : vIA cy B g_7 142 49 Nw := vIA_fr hnow (fun q h1 h2 => hf_16 q (by omega))
        have hse_18 : vLA cy B g_7 146 169 Sv := vLA_fr hse (fun q h1 h2 => hf_16 q (by omega))
        have hfr_19 : ∀ q, (q ≠ 141 ∧ q ≠ 147 ∧ q ≠ 148 ∧ q ≠ 149) → g_7 q = g q := fun q hq => (hf_16 q (by omega)).trans (hfr_0 q hq)
        have hbd := stW_bd hc law
        have hg0 : 0 < Nat.gcd (stW c law).toNat (bh (coL c) (coR c)).toNat := Nat.gcd_pos_of_pos_right _ (by omega)
        have hg1 : Nat.gcd (stW c law).toNat (bh (coL c) (coR c)).toNat ≤ (bh (coL c) (coR c)).toNat := Nat.gcd_le_right _ (by omega)
        refine w_iload_n dX11_chance_36 rfl 3 rfl ?_
        refine w_if_ne 47 dX11_chance_37 (by decide) (by first | omega | with_reducible rfl) (fun c_37 => ?_) (fun c_37 => ?_)
        · refine w_aload_n dX11_chance_47 rfl 0 rfl ?_
          refine w_get (i := 12) (T := TX11) (NF := 32) 141 (by first | omega | with_reducible rfl) hm_12 rfl (fun _ h => (List.mem_cons_of_mem _ (List.mem_append_right _ h))) (by decide) (List.mem_of_getElem? (i := 3) rfl) rfl dX11_chance_48 ?_
          refine w_as (st' := [.long (zJ (((bh (coL c) (coR c)).toNat : Nat) : Int))]) (sc_l (by omega) rfl) ?_
          refine w_aload_n dX11_chance_51 rfl 0 rfl ?_
          refine w_get (i := 18) (T := TX11) (NF := 32) 141 (by first | omega | with_reducible rfl) hm_12 rfl (fun _ h => (List.mem_cons_of_mem _ (List.mem_append_right _ h))) (by decide) (List.mem_of_getElem? (i := 2) rfl) rfl dX11_chance_52 ?_
          refine w_aload_n dX11_chance_55 rfl 0 rfl ?_
          refine w_get (i := 12) (T := TX11) (NF := 32) 141 (by first | omega | with_reducible rfl) hm_12 rfl (fun _ h => (List.mem_cons_of_mem _ (List.mem_append_right _ h))) (by decide) (List.mem_of_getElem? (i := 3) rfl) rfl dX11_chance_56 ?_
          refine w_as (st' := [.long (zJ (((bh (coL c) (coR c)).toNat : Nat) : Int)), .long (zJ (((stW c law).toNat : Nat) : Int)), .long (zJ (((bh (coL c) (coR c)).toNat : Nat) : Int))]) (sc_l (by omega) (sc_l (by omega) rfl)) ?_
          refine w_calllS (As := [.long (zJ (((stW c law).toNat : Nat) : Int)), .long (zJ (((bh (coL c) (coR c)).toNat : Nat) : Int))]) (rest := [.long (zJ (((bh (coL c) (coR c)).toNat : Nat) : Int))]) (n := 2) (c_X11_common (x := (stW c law).toNat) (y := (bh (coL c) (coR c)).toNat) (by first | omega | with_reducible rfl) (by first | omega | with_reducible rfl)) gX11_chance_X11_common rfl rfl rfl (by decide +kernel) ⟨Nat.le_of_ble_eq_true rfl, Nat.le_of_ble_eq_true rfl⟩ rfl (Nat.le_of_ble_eq_true rfl) ⟨Nat.zero_le _, Nat.zero_le _⟩ dX11_chance_59 rfl (fun g_20 hp_21 => ?_)
          subst g_20
          refine w_ldiv dX11_chance_62 (by first | omega | with_reducible rfl) (by first | omega | with_reducible rfl) ?_
          exact w_lret dX11_chance_63 rfl (by unfold aCha lowT; rw [if_pos (by omega)]; first | (rw [if_pos (by omega)]; rfl) | (rw [if_neg (by omega)]; rfl)) ⟨((k : Nat) : Int), (tc (coL c) (coR c)), (bh (coL c) (coR c)), (lg (coL c) (coR c)), (sh (coL c) (coR c)), (les (coL c) (coR c)), (grs (coL c) (coR c)), (stT c law), (stW c law), (aRan c), Tb1_9, Lk1_10, Bs1_11, hm_12, htb_13, hlk_14, hbs_15, (GTrg hc), hfr_19⟩
        · refine w_aload_n dX11_chance_40 rfl 0 rfl ?_
          refine w_get (i := 18) (T := TX11) (NF := 32) 141 (by first | omega | with_reducible rfl) hm_12 rfl (fun _ h => (List.mem_cons_of_mem _ (List.mem_append_right _ h))) (by decide) (List.mem_of_getElem? (i := 2) rfl) rfl dX11_chance_41 ?_
          refine w_goto 51 dX11_chance_44 (by decide) ?_
          refine w_as (st' := [.long (zJ (((stW c law).toNat : Nat) : Int))]) (sc_l (by omega) rfl) ?_
          refine w_aload_n dX11_chance_51 rfl 0 rfl ?_
          refine w_get (i := 18) (T := TX11) (NF := 32) 141 (by first | omega | with_reducible rfl) hm_12 rfl (fun _ h => (List.mem_cons_of_mem _ (List.mem_append_right _ h))) (by decide) (List.mem_of_getElem? (i := 2) rfl) rfl dX11_chance_52 ?_
          refine w_aload_n dX11_chance_55 rfl 0 rfl ?_
          refine w_get (i := 12) (T := TX11) (NF := 32) 141 (by first | omega | with_reducible rfl) hm_12 rfl (fun _ h => (List.mem_cons_of_mem _ (List.mem_append_right _ h))) (by decide) (List.mem_of_getElem? (i := 3) rfl) rfl dX11_chance_56 ?_
          refine w_as (st' := [.long (zJ (((bh (coL c) (coR c)).toNat : Nat) : Int)), .long (zJ (((stW c law).toNat : Nat) : Int)), .long (zJ (((stW c law).toNat : Nat) : Int))]) (sc_l (by omega) (sc_l (by omega) rfl)) ?_
          refine w_calllS (As := [.long (zJ (((stW c law).toNat : Nat) : Int)), .long (zJ (((bh (coL c) (coR c)).toNat : Nat) : Int))]) (rest := [.long (zJ (((stW c law).toNat : Nat) : Int))]) (n := 2) (c_X11_common (x := (stW c law).toNat) (y := (bh (coL c) (coR c)).toNat) (by first | omega | with_reducible rfl) (by first | omega | with_reducible rfl)) gX11_chance_X11_common rfl rfl rfl (by decide +kernel) ⟨Nat.le_of_ble_eq_true rfl, Nat.le_of_ble_eq_true rfl⟩ rfl (Nat.le_of_ble_eq_true rfl) ⟨Nat.zero_le _, Nat.zero_le _⟩ dX11_chance_59 rfl (fun g_22 hp_23 => ?_)
          subst g_22
          refine w_ldiv dX11_chance_62 (by first | omega | with_reducible rfl) (by first | omega | with_reducible rfl) ?_
          exact w_lret dX11_chance_63 rfl (by unfold aCha lowT; rw [if_pos (by omega)]; first | (rw [if_pos (by omega)]; rfl) | (rw [if_neg (by omega)]; rfl)) ⟨((k : Nat) : Int), (tc (coL c) (coR c)), (bh (coL c) (coR c)), (lg (coL c) (coR c)), (sh (coL c) (coR c)), (les (coL c) (coR c)), (grs (coL c) (coR c)), (stT c law), (stW c law), (aRan c), Tb1_9, Lk1_10, Bs1_11, hm_12, htb_13, hlk_14, hbs_15, (GTrg hc), hfr_19⟩
      · exfalso; omega

set_option maxHeartbeats 4000000 in
set_option maxRecDepth 100000 in
theorem m_n_X11_strange {l : Launch} {D : va_G} {cy : Nat → ClassId} {B N : Nat} {g : Nat → va_E} {cg le sp va o0 tn aw mw fw ls gs sn sw kr : Int} {Nw : Int → Int} {S : St} {s law : Int} (hm : vM cy B g 141 cg le sp va o0 tn aw mw fw ls gs sn sw kr) (hnow : vIA cy B g 142 49 Nw) (hN : 160 ≤ N) (hER : ER Nw S) (h_s : -2147483648 ≤ s ∧ s < 2147483648) (h_law : -2147483648 ≤ law ∧ law < 2147483648) (hb : ¬ ((0 ≤ s ∧ s < S.length) ∧ 0 ≤ law ∧ law ≤ 2)) : CTi l yX11_strange wsX11_strange (rmo 6 145) D cy B N g [.ref (B + 141), .int (zI s), .int (zI law)] (-1) (fun g' => g' = g) := by
  refine WW_of (cc := cX11_strange) (maxL := 3) (ret := (some .int)) (own := RX11) (by decide) rfl rfl (Nat.le_of_ble_eq_true rfl) rfl ?_
  intro pp ee ss mm bl me co hmn
  refine w_aload_n dX11_strange_0 rfl 0 rfl ?_
  refine w_iload_n dX11_strange_1 rfl 1 rfl ?_
  refine w_calli (As := [.int (zI s)]) (rest := []) (n := 1) (c_X11_isStratum hm hnow (by first | omega | with_reducible rfl) (by first | omega | with_reducible rfl) (by first | omega | with_reducible rfl)) gX11_strange_X11_isStratum rfl rfl rfl (by decide +kernel) ⟨Nat.le_of_ble_eq_true rfl, Nat.le_of_ble_eq_true rfl⟩ rfl (by first | omega | with_reducible rfl) hm rfl (Nat.le_of_ble_eq_true rfl) ⟨Nat.zero_le _, Nat.zero_le _⟩ dX11_strange_2 rfl (fun g_1 hp_2 => ?_)
  subst g_1
  refine w_ifeqB 17 dX11_strange_5 (by decide) (fun c_5 => ?_) (fun c_5 => ?_)
  · refine w_iconst dX11_strange_17 ?_
    exact w_iret dX11_strange_18 rfl (by first | with_reducible rfl | omega | (split <;> omega)) rfl
  · refine w_iload_n dX11_strange_8 rfl 2 rfl ?_
    refine w_iconst dX11_strange_9 ?_
    refine w_iconst dX11_strange_10 ?_
    refine w_calliS (As := [.int (zI law), .int (zI 0), .int (zI 2)]) (rest := []) (n := 3) (c_X11_in (by first | omega | with_reducible rfl) (by first | omega | with_reducible rfl) (by first | omega | with_reducible rfl)) gX11_strange_X11_in rfl rfl rfl (by decide +kernel) ⟨Nat.le_of_ble_eq_true rfl, Nat.le_of_ble_eq_true rfl⟩ rfl (Nat.le_of_ble_eq_true rfl) ⟨Nat.zero_le _, Nat.zero_le _⟩ dX11_strange_11 rfl (fun g_3 hp_4 => ?_)
    subst g_3
    refine w_ifneB 19 dX11_strange_14 (by decide) (fun c_14 => ?_) (fun c_14 => ?_)
    · exfalso; omega
    · refine w_iconst dX11_strange_17 ?_
      exact w_iret dX11_strange_18 rfl (by first | with_reducible rfl | omega | (split <;> omega)) rfl
set_option maxHeartbeats 4000000 in
set_option maxRecDepth 100000 in
theorem m_y_X11_strange {l : Launch} {D : va_G} {cy : Nat → ClassId} {B N : Nat} {g : Nat → va_E} {cg le sp va o0 tn aw mw fw ls gs sn sw kr : Int} {Nw Sv Tb Lk Bs : Int → Int} {S : St} {k : Nat} {c : List Co} {law : Int} (hm : vM cy B g 141 cg le sp va o0 tn aw mw fw ls gs sn sw kr) (hnow : vIA cy B g 142 49 Nw) (hse : vLA cy B g 146 169 Sv) (htb : vIA cy B g 147 5 Tb) (hlk : vIA cy B g 148 5 Lk) (hbs : vLA cy B g 149 541 Bs) (hN : 160 ≤ N) (hER : ER Nw S) (hkS : k < S.length) (hcS : S.getD k [] = c) (hc : cok c) (h2 : 2 ≤ c.length) (hSv : SvOK Sv) (hrg : rgM mw fw ls gs) (h_law : -2147483648 ≤ law ∧ law < 2147483648) (hw : 0 ≤ law ∧ law ≤ 2) : CTi l yX11_strange wsX11_strange (rmo 6 145) D cy B N g [.ref (B + 141), .int (zI ((k : Nat) : Int)), .int (zI law)] (aSta c law) (fun g' => ∃ o01 : Int, ∃ tn1 : Int, ∃ aw1 : Int, ∃ mw1 : Int, ∃ fw1 : Int, ∃ ls1 : Int, ∃ gs1 : Int, ∃ sn1 : Int, ∃ sw1 : Int, ∃ kr1 : Int, ∃ Tb1 : Int → Int, ∃ Lk1 : Int → Int, ∃ Bs1 : Int → Int, vM cy B g' 141 cg le sp va o01 tn1 aw1 mw1 fw1 ls1 gs1 sn1 sw1 kr1 ∧ vIA cy B g' 147 5 Tb1 ∧ vIA cy B g' 148 5 Lk1 ∧ vLA cy B g' 149 541 Bs1 ∧ (rgM mw1 fw1 ls1 gs1) ∧ (∀ q, (q ≠ 141 ∧ q ≠ 147 ∧ q ≠ 148 ∧ q ≠ 149) → g' q = g q)) := by
  refine WW_of (cc := cX11_strange) (maxL := 3) (ret := (some .int)) (own := RX11) (by decide) rfl rfl (Nat.le_of_ble_eq_true rfl) rfl ?_
  intro pp ee ss mm bl me co hmn
  have hfr_0 : ∀ q, (q ≠ 141 ∧ q ≠ 147 ∧ q ≠ 148 ∧ q ≠ 149) → g q = g q := fun _ _ => rfl
  have hmc : MC Nw k c := by have h := hER.2 k hkS; rw [hcS] at h; exact h
  have hk3 := hmc.1
  refine w_aload_n dX11_strange_0 rfl 0 rfl ?_
  refine w_iload_n dX11_strange_1 rfl 1 rfl ?_
  refine w_calli (As := [.int (zI ((k : Nat) : Int))]) (rest := []) (n := 1) (c_X11_isStratum hm hnow (by first | omega | with_reducible rfl) (by first | omega | with_reducible rfl) (by first | omega | with_reducible rfl)) gX11_strange_X11_isStratum rfl rfl rfl (by decide +kernel) ⟨Nat.le_of_ble_eq_true rfl, Nat.le_of_ble_eq_true rfl⟩ rfl (by first | omega | with_reducible rfl) hm rfl (Nat.le_of_ble_eq_true rfl) ⟨Nat.zero_le _, Nat.zero_le _⟩ dX11_strange_2 rfl (fun g_1 hp_2 => ?_)
  subst g_1
  refine w_ifeqB 17 dX11_strange_5 (by decide) (fun c_5 => ?_) (fun c_5 => ?_)
  · exfalso; omega
  · refine w_iload_n dX11_strange_8 rfl 2 rfl ?_
    refine w_iconst dX11_strange_9 ?_
    refine w_iconst dX11_strange_10 ?_
    refine w_calliS (As := [.int (zI law), .int (zI 0), .int (zI 2)]) (rest := []) (n := 3) (c_X11_in (by first | omega | with_reducible rfl) (by first | omega | with_reducible rfl) (by first | omega | with_reducible rfl)) gX11_strange_X11_in rfl rfl rfl (by decide +kernel) ⟨Nat.le_of_ble_eq_true rfl, Nat.le_of_ble_eq_true rfl⟩ rfl (Nat.le_of_ble_eq_true rfl) ⟨Nat.zero_le _, Nat.zero_le _⟩ dX11_strange_11 rfl (fun g_3 hp_4 => ?_)
    subst g_3
    refine w_ifneB 19 dX11_strange_14 (by decide) (fun c_14 => ?_) (fun c_14 => ?_)
    · refine w_aload_n dX11_strange_19 rfl 0 rfl ?_
      refine w_iload_n dX11_strange_20 rfl 1 rfl ?_
      refine w_iload_n dX11_strange_21 rfl 2 rfl ?_
      refine w_callv (As := [.int (zI ((k : Nat) : Int)), .int (zI law)]) (rest := []) (n := 2) (c_X11_goesThrough (k := k) hm hnow hse htb hlk hbs (by first | omega | with_reducible rfl) (by first | omega | with_reducible rfl) (by first | omega | with_reducible rfl) (by first | omega | with_reducible rfl) (by first | omega | with_reducible rfl) hrg (by first | omega | with_reducible rfl)) gX11_strange_X11_goesThrough rfl rfl rfl (by decide +kernel) ⟨Nat.le_of_ble_eq_true rfl, Nat.le_of_ble_eq_true rfl⟩ rfl (by first | omega | with_reducible rfl) hm rfl (Nat.le_of_ble_eq_true rfl) ⟨Nat.zero_le _, Nat.zero_le _⟩ dX11_strange_22 rfl (fun g_5 hp_6 => ?_)
      obtain ⟨Tb1_7, Lk1_8, Bs1_9, hm_10, htb_11, hlk_12, hbs_13, hLk1_22, hBs1_22, hf_14⟩ := hp_6
      have hnow_15 : vIA cy B g_5 142 49 Nw := vIA_fr hnow (fun q h1 h2 => hf_14 q (by omega))
      have hse_16 : vLA cy B g_5 146 169 Sv := vLA_fr hse (fun q h1 h2 => hf_14 q (by omega))
      have hfr_17 : ∀ q, (q ≠ 141 ∧ q ≠ 147 ∧ q ≠ 148 ∧ q ≠ 149) → g_5 q = g q := fun q hq => (hf_14 q (by omega)).trans (hfr_0 q hq)
      refine w_aload_n dX11_strange_25 rfl 0 rfl ?_
      refine w_get (i := 17) (T := TX11) (NF := 32) 141 (by first | omega | with_reducible rfl) hm_10 rfl (fun _ h => (List.mem_cons_of_mem _ (List.mem_append_right _ h))) (by decide) (List.mem_of_getElem? (i := 1) rfl) rfl dX11_strange_26 ?_
      exact w_iret dX11_strange_29 rfl (by unfold aSta; rw [if_pos (by omega)]) ⟨((k : Nat) : Int), (tc (coL c) (coR c)), (bh (coL c) (coR c)), (lg (coL c) (coR c)), (sh (coL c) (coR c)), (les (coL c) (coR c)), (grs (coL c) (coR c)), (stT c law), (stW c law), (aRan c), Tb1_7, Lk1_8, Bs1_9, hm_10, htb_11, hlk_12, hbs_13, (GTrg hc), hfr_17⟩
    · exfalso; omega

set_option maxHeartbeats 4000000 in
set_option maxRecDepth 100000 in
theorem m_n_X11_rank {l : Launch} {D : va_G} {cy : Nat → ClassId} {B N : Nat} {g : Nat → va_E} {cg le sp va o0 tn aw mw fw ls gs sn sw kr : Int} {Nw : Int → Int} {S : St} {s : Int} (hm : vM cy B g 141 cg le sp va o0 tn aw mw fw ls gs sn sw kr) (hnow : vIA cy B g 142 49 Nw) (hN : 160 ≤ N) (hER : ER Nw S) (h_s : -2147483648 ≤ s ∧ s < 2147483648) (hb : ¬ ((0 ≤ s ∧ s < S.length))) : CTi l yX11_rank wsX11_rank (rmo 6 145) D cy B N g [.ref (B + 141), .int (zI s)] (-1) (fun g' => g' = g) := by
  refine WW_of (cc := cX11_rank) (maxL := 2) (ret := (some .int)) (own := RX11) (by decide) rfl rfl (Nat.le_of_ble_eq_true rfl) rfl ?_
  intro pp ee ss mm bl me co hmn
  refine w_aload_n dX11_rank_0 rfl 0 rfl ?_
  refine w_iload_n dX11_rank_1 rfl 1 rfl ?_
  refine w_calli (As := [.int (zI s)]) (rest := []) (n := 1) (c_X11_isStratum hm hnow (by first | omega | with_reducible rfl) (by first | omega | with_reducible rfl) (by first | omega | with_reducible rfl)) gX11_rank_X11_isStratum rfl rfl rfl (by decide +kernel) ⟨Nat.le_of_ble_eq_true rfl, Nat.le_of_ble_eq_true rfl⟩ rfl (by first | omega | with_reducible rfl) hm rfl (Nat.le_of_ble_eq_true rfl) ⟨Nat.zero_le _, Nat.zero_le _⟩ dX11_rank_2 rfl (fun g_1 hp_2 => ?_)
  subst g_1
  refine w_ifneB 10 dX11_rank_5 (by decide) (fun c_5 => ?_) (fun c_5 => ?_)
  · exfalso; omega
  · refine w_iconst dX11_rank_8 ?_
    exact w_iret dX11_rank_9 rfl (by first | with_reducible rfl | omega | (split <;> omega)) rfl
set_option maxHeartbeats 4000000 in
set_option maxRecDepth 100000 in
theorem m_y_X11_rank {l : Launch} {D : va_G} {cy : Nat → ClassId} {B N : Nat} {g : Nat → va_E} {cg le sp va o0 tn aw mw fw ls gs sn sw kr : Int} {Nw Sv Tb Lk Bs : Int → Int} {S : St} {k : Nat} {c : List Co} (hm : vM cy B g 141 cg le sp va o0 tn aw mw fw ls gs sn sw kr) (hnow : vIA cy B g 142 49 Nw) (hse : vLA cy B g 146 169 Sv) (htb : vIA cy B g 147 5 Tb) (hlk : vIA cy B g 148 5 Lk) (hbs : vLA cy B g 149 541 Bs) (hN : 160 ≤ N) (hER : ER Nw S) (hkS : k < S.length) (hcS : S.getD k [] = c) (hc : cok c) (h2 : 2 ≤ c.length) (hSv : SvOK Sv) (hrg : rgM mw fw ls gs) : CTi l yX11_rank wsX11_rank (rmo 6 145) D cy B N g [.ref (B + 141), .int (zI ((k : Nat) : Int))] (aRan c) (fun g' => ∃ o01 : Int, ∃ tn1 : Int, ∃ aw1 : Int, ∃ mw1 : Int, ∃ fw1 : Int, ∃ ls1 : Int, ∃ gs1 : Int, ∃ sn1 : Int, ∃ sw1 : Int, ∃ kr1 : Int, ∃ Tb1 : Int → Int, ∃ Lk1 : Int → Int, ∃ Bs1 : Int → Int, vM cy B g' 141 cg le sp va o01 tn1 aw1 mw1 fw1 ls1 gs1 sn1 sw1 kr1 ∧ vIA cy B g' 147 5 Tb1 ∧ vIA cy B g' 148 5 Lk1 ∧ vLA cy B g' 149 541 Bs1 ∧ (rgM mw1 fw1 ls1 gs1) ∧ (∀ q, (q ≠ 141 ∧ q ≠ 147 ∧ q ≠ 148 ∧ q ≠ 149) → g' q = g q)) := by
  refine WW_of (cc := cX11_rank) (maxL := 2) (ret := (some .int)) (own := RX11) (by decide) rfl rfl (Nat.le_of_ble_eq_true rfl) rfl ?_
  intro pp ee ss mm bl me co hmn
  have hfr_0 : ∀ q, (q ≠ 141 ∧ q ≠ 147 ∧ q ≠ 148 ∧ q ≠ 149) → g q = g q := fun _ _ => rfl
  have hmc : MC Nw k c := by have h := hER.2 k hkS; rw [hcS] at h; exact h
  have hk3 := hmc.1
  refine w_aload_n dX11_rank_0 rfl 0 rfl ?_
  refine w_iload_n dX11_rank_1 rfl 1 rfl ?_
  refine w_calli (As := [.int (zI ((k : Nat) : Int))]) (rest := []) (n := 1) (c_X11_isStratum hm hnow (by first | omega | with_reducible rfl) (by first | omega | with_reducible rfl) (by first | omega | with_reducible rfl)) gX11_rank_X11_isStratum rfl rfl rfl (by decide +kernel) ⟨Nat.le_of_ble_eq_true rfl, Nat.le_of_ble_eq_true rfl⟩ rfl (by first | omega | with_reducible rfl) hm rfl (Nat.le_of_ble_eq_true rfl) ⟨Nat.zero_le _, Nat.zero_le _⟩ dX11_rank_2 rfl (fun g_1 hp_2 => ?_)
  subst g_1
  refine w_ifneB 10 dX11_rank_5 (by decide) (fun c_5 => ?_) (fun c_5 => ?_)
  · refine w_aload_n dX11_rank_10 rfl 0 rfl ?_
    refine w_iload_n dX11_rank_11 rfl 1 rfl ?_
    refine w_iconst dX11_rank_12 ?_
    refine w_callv (As := [.int (zI ((k : Nat) : Int)), .int (zI 0)]) (rest := []) (n := 2) (c_X11_goesThrough (k := k) (law := 0) hm hnow hse htb hlk hbs (by first | omega | with_reducible rfl) (by first | omega | with_reducible rfl) (by first | omega | with_reducible rfl) (by first | omega | with_reducible rfl) (by first | omega | with_reducible rfl) hrg (by first | omega | with_reducible rfl)) gX11_rank_X11_goesThrough rfl rfl rfl (by decide +kernel) ⟨Nat.le_of_ble_eq_true rfl, Nat.le_of_ble_eq_true rfl⟩ rfl (by first | omega | with_reducible rfl) hm rfl (Nat.le_of_ble_eq_true rfl) ⟨Nat.zero_le _, Nat.zero_le _⟩ dX11_rank_13 rfl (fun g_3 hp_4 => ?_)
    obtain ⟨Tb1_5, Lk1_6, Bs1_7, hm_8, htb_9, hlk_10, hbs_11, hLk1_13, hBs1_13, hf_12⟩ := hp_4
    have hnow_13 : vIA cy B g_3 142 49 Nw := vIA_fr hnow (fun q h1 h2 => hf_12 q (by omega))
    have hse_14 : vLA cy B g_3 146 169 Sv := vLA_fr hse (fun q h1 h2 => hf_12 q (by omega))
    have hfr_15 : ∀ q, (q ≠ 141 ∧ q ≠ 147 ∧ q ≠ 148 ∧ q ≠ 149) → g_3 q = g q := fun q hq => (hf_12 q (by omega)).trans (hfr_0 q hq)
    refine w_aload_n dX11_rank_16 rfl 0 rfl ?_
    refine w_get (i := 20) (T := TX11) (NF := 32) 141 (by first | omega | with_reducible rfl) hm_8 rfl (fun _ h => (List.mem_cons_of_mem _ (List.mem_append_right _ h))) (by decide) (List.mem_of_getElem? (i := 1) rfl) rfl dX11_rank_17 ?_
    exact w_iret dX11_rank_20 rfl (by rfl) ⟨((k : Nat) : Int), (tc (coL c) (coR c)), (bh (coL c) (coR c)), (lg (coL c) (coR c)), (sh (coL c) (coR c)), (les (coL c) (coR c)), (grs (coL c) (coR c)), (stT c 0), (stW c 0), (aRan c), Tb1_5, Lk1_6, Bs1_7, hm_8, htb_9, hlk_10, hbs_11, (GTrg hc), hfr_15⟩
  · exfalso; omega

set_option maxHeartbeats 4000000 in
set_option maxRecDepth 100000 in
theorem m_n_X11_likeliest {l : Launch} {D : va_G} {cy : Nat → ClassId} {B N : Nat} {g : Nat → va_E} {cg le sp va o0 tn aw mw fw ls gs sn sw kr : Int} {Nw : Int → Int} {S : St} {s j : Int} (hm : vM cy B g 141 cg le sp va o0 tn aw mw fw ls gs sn sw kr) (hnow : vIA cy B g 142 49 Nw) (hN : 160 ≤ N) (hER : ER Nw S) (h_s : -2147483648 ≤ s ∧ s < 2147483648) (h_j : -2147483648 ≤ j ∧ j < 2147483648) (hb : ¬ ((0 ≤ s ∧ s < S.length) ∧ 0 ≤ j ∧ j < (S.getD s.toNat []).length)) : CTi l yX11_likeliest wsX11_likeliest (rmo 6 145) D cy B N g [.ref (B + 141), .int (zI s), .int (zI j)] (-1) (fun g' => g' = g) := by
  refine WW_of (cc := cX11_likeliest) (maxL := 3) (ret := (some .int)) (own := RX11) (by decide) rfl rfl (Nat.le_of_ble_eq_true rfl) rfl ?_
  intro pp ee ss mm bl me co hmn
  refine w_aload_n dX11_likeliest_0 rfl 0 rfl ?_
  refine w_iload_n dX11_likeliest_1 rfl 1 rfl ?_
  refine w_iload_n dX11_likeliest_2 rfl 2 rfl ?_
  refine w_calli (As := [.int (zI s), .int (zI j)]) (rest := []) (n := 2) (c_X11_isColumn hm hnow (by first | omega | with_reducible rfl) (by first | omega | with_reducible rfl) (by first | omega | with_reducible rfl) (by first | omega | with_reducible rfl)) gX11_likeliest_X11_isColumn rfl rfl rfl (by decide +kernel) ⟨Nat.le_of_ble_eq_true rfl, Nat.le_of_ble_eq_true rfl⟩ rfl (by first | omega | with_reducible rfl) hm rfl (Nat.le_of_ble_eq_true rfl) ⟨Nat.zero_le _, Nat.zero_le _⟩ dX11_likeliest_3 rfl (fun g_1 hp_2 => ?_)
  subst g_1
  refine w_ifneB 11 dX11_likeliest_6 (by decide) (fun c_6 => ?_) (fun c_6 => ?_)
  · exfalso; omega
  · refine w_iconst dX11_likeliest_9 ?_
    exact w_iret dX11_likeliest_10 rfl (by first | with_reducible rfl | omega | (split <;> omega)) rfl
set_option maxHeartbeats 4000000 in
set_option maxRecDepth 100000 in
theorem m_y_X11_likeliest {l : Launch} {D : va_G} {cy : Nat → ClassId} {B N : Nat} {g : Nat → va_E} {cg le sp va o0 tn aw mw fw ls gs sn sw kr : Int} {Nw Sv Tb Lk Bs : Int → Int} {S : St} {k : Nat} {c : List Co} {j : Int} (hm : vM cy B g 141 cg le sp va o0 tn aw mw fw ls gs sn sw kr) (hnow : vIA cy B g 142 49 Nw) (hse : vLA cy B g 146 169 Sv) (htb : vIA cy B g 147 5 Tb) (hlk : vIA cy B g 148 5 Lk) (hbs : vLA cy B g 149 541 Bs) (hN : 160 ≤ N) (hER : ER Nw S) (hkS : k < S.length) (hcS : S.getD k [] = c) (hc : cok c) (h2 : 2 ≤ c.length) (hSv : SvOK Sv) (hrg : rgM mw fw ls gs) (h_j : -2147483648 ≤ j ∧ j < 2147483648) (hj : 0 ≤ j ∧ j < c.length) : CTi l yX11_likeliest wsX11_likeliest (rmo 6 145) D cy B N g [.ref (B + 141), .int (zI ((k : Nat) : Int)), .int (zI j)] (aLik c j) (fun g' => ∃ o01 : Int, ∃ tn1 : Int, ∃ aw1 : Int, ∃ mw1 : Int, ∃ fw1 : Int, ∃ ls1 : Int, ∃ gs1 : Int, ∃ sn1 : Int, ∃ sw1 : Int, ∃ kr1 : Int, ∃ Tb1 : Int → Int, ∃ Lk1 : Int → Int, ∃ Bs1 : Int → Int, vM cy B g' 141 cg le sp va o01 tn1 aw1 mw1 fw1 ls1 gs1 sn1 sw1 kr1 ∧ vIA cy B g' 147 5 Tb1 ∧ vIA cy B g' 148 5 Lk1 ∧ vLA cy B g' 149 541 Bs1 ∧ (rgM mw1 fw1 ls1 gs1) ∧ (∀ q, (q ≠ 141 ∧ q ≠ 147 ∧ q ≠ 148 ∧ q ≠ 149) → g' q = g q)) := by
  refine WW_of (cc := cX11_likeliest) (maxL := 3) (ret := (some .int)) (own := RX11) (by decide) rfl rfl (Nat.le_of_ble_eq_true rfl) rfl ?_
  intro pp ee ss mm bl me co hmn
  have hfr_0 : ∀ q, (q ≠ 141 ∧ q ≠ 147 ∧ q ≠ 148 ∧ q ≠ 149) → g q = g q := fun _ _ => rfl
  have hmc : MC Nw k c := by have h := hER.2 k hkS; rw [hcS] at h; exact h
  have hk3 := hmc.1
  have hcS2 : S.getD (((k : Nat) : Int)).toNat [] = c := by rw [Int.toNat_natCast]; exact hcS
  refine w_aload_n dX11_likeliest_0 rfl 0 rfl ?_
  refine w_iload_n dX11_likeliest_1 rfl 1 rfl ?_
  refine w_iload_n dX11_likeliest_2 rfl 2 rfl ?_
  refine w_calli (As := [.int (zI ((k : Nat) : Int)), .int (zI j)]) (rest := []) (n := 2) (c_X11_isColumn hm hnow (by first | omega | with_reducible rfl) (by first | omega | with_reducible rfl) (by first | omega | with_reducible rfl) (by first | omega | with_reducible rfl)) gX11_likeliest_X11_isColumn rfl rfl rfl (by decide +kernel) ⟨Nat.le_of_ble_eq_true rfl, Nat.le_of_ble_eq_true rfl⟩ rfl (by first | omega | with_reducible rfl) hm rfl (Nat.le_of_ble_eq_true rfl) ⟨Nat.zero_le _, Nat.zero_le _⟩ dX11_likeliest_3 rfl (fun g_1 hp_2 => ?_)
  subst g_1
  refine w_ifneB 11 dX11_likeliest_6 (by decide) (fun c_6 => ?_) (fun c_6 => ?_)
  · refine w_aload_n dX11_likeliest_11 rfl 0 rfl ?_
    refine w_iload_n dX11_likeliest_12 rfl 1 rfl ?_
    refine w_iconst dX11_likeliest_13 ?_
    refine w_callv (As := [.int (zI ((k : Nat) : Int)), .int (zI 0)]) (rest := []) (n := 2) (c_X11_goesThrough (k := k) (law := 0) hm hnow hse htb hlk hbs (by first | omega | with_reducible rfl) (by first | omega | with_reducible rfl) (by first | omega | with_reducible rfl) (by first | omega | with_reducible rfl) (by first | omega | with_reducible rfl) hrg (by first | omega | with_reducible rfl)) gX11_likeliest_X11_goesThrough rfl rfl rfl (by decide +kernel) ⟨Nat.le_of_ble_eq_true rfl, Nat.le_of_ble_eq_true rfl⟩ rfl (by first | omega | with_reducible rfl) hm rfl (Nat.le_of_ble_eq_true rfl) ⟨Nat.zero_le _, Nat.zero_le _⟩ dX11_likeliest_14 rfl (fun g_3 hp_4 => ?_)
    obtain ⟨Tb1_5, Lk1_6, Bs1_7, hm_8, htb_9, hlk_10, hbs_11, hLk1_14, hBs1_14, hf_12⟩ := hp_4
    have hnow_13 : vIA cy B g_3 142 49 Nw := vIA_fr hnow (fun q h1 h2 => hf_12 q (by omega))
    have hse_14 : vLA cy B g_3 146 169 Sv := vLA_fr hse (fun q h1 h2 => hf_12 q (by omega))
    have hfr_15 : ∀ q, (q ≠ 141 ∧ q ≠ 147 ∧ q ≠ 148 ∧ q ≠ 149) → g_3 q = g q := fun q hq => (hf_12 q (by omega)).trans (hfr_0 q hq)
    refine w_aload_n dX11_likeliest_17 rfl 0 rfl ?_
    refine w_get (i := 19) (T := TX11) (NF := 32) 141 (by first | omega | with_reducible rfl) hm_8 rfl (fun _ h => (List.mem_cons_of_mem _ (List.mem_append_right _ h))) (by decide) (List.mem_of_getElem? (i := 1) rfl) rfl dX11_likeliest_18 ?_
    refine w_iload_n dX11_likeliest_21 rfl 2 rfl ?_
    refine w_iald 148 (by first | omega | with_reducible rfl) hlk_10 (by first | omega | with_reducible rfl) dX11_likeliest_22 ?_
    exact w_iret dX11_likeliest_23 rfl (by obtain ⟨jn, rfl⟩ := Int.eq_ofNat_of_zero_le hj.1; rw [aLik_at hc (by omega)]; exact hLk1_14.2 jn (by omega)) ⟨((k : Nat) : Int), (tc (coL c) (coR c)), (bh (coL c) (coR c)), (lg (coL c) (coR c)), (sh (coL c) (coR c)), (les (coL c) (coR c)), (grs (coL c) (coR c)), (stT c 0), (stW c 0), (aRan c), Tb1_5, Lk1_6, Bs1_7, hm_8, htb_9, hlk_10, hbs_11, (GTrg hc), hfr_15⟩
  · rw [hcS2] at c_6
    exfalso; omega

set_option maxHeartbeats 4000000 in
set_option maxRecDepth 100000 in
theorem m_n_X11_column {l : Launch} {D : va_G} {cy : Nat → ClassId} {B N : Nat} {g : Nat → va_E} {cg le sp va o0 tn aw mw fw ls gs sn sw kr : Int} {Nw : Int → Int} {S : St} {s j what : Int} (hm : vM cy B g 141 cg le sp va o0 tn aw mw fw ls gs sn sw kr) (hnow : vIA cy B g 142 49 Nw) (hN : 160 ≤ N) (hER : ER Nw S) (h_s : -2147483648 ≤ s ∧ s < 2147483648) (h_j : -2147483648 ≤ j ∧ j < 2147483648) (h_what : -2147483648 ≤ what ∧ what < 2147483648) (hb : ¬ ((0 ≤ s ∧ s < S.length) ∧ 0 ≤ j ∧ j < (S.getD s.toNat []).length ∧ 0 ≤ what ∧ what ≤ 2)) : CTi l yX11_column wsX11_column (rmo 3 65) D cy B N g [.ref (B + 141), .int (zI s), .int (zI j), .int (zI what)] (-1) (fun g' => g' = g) := by
  refine WW_of (cc := cX11_column) (maxL := 4) (ret := (some .int)) (own := RX11) (by decide) rfl rfl (Nat.le_of_ble_eq_true rfl) rfl ?_
  intro pp ee ss mm bl me co hmn
  refine w_aload_n dX11_column_0 rfl 0 rfl ?_
  refine w_iload_n dX11_column_1 rfl 1 rfl ?_
  refine w_iload_n dX11_column_2 rfl 2 rfl ?_
  refine w_calli (As := [.int (zI s), .int (zI j)]) (rest := []) (n := 2) (c_X11_isColumn hm hnow (by first | omega | with_reducible rfl) (by first | omega | with_reducible rfl) (by first | omega | with_reducible rfl) (by first | omega | with_reducible rfl)) gX11_column_X11_isColumn rfl rfl rfl (by decide +kernel) ⟨Nat.le_of_ble_eq_true rfl, Nat.le_of_ble_eq_true rfl⟩ rfl (by first | omega | with_reducible rfl) hm rfl (Nat.le_of_ble_eq_true rfl) ⟨Nat.zero_le _, Nat.zero_le _⟩ dX11_column_3 rfl (fun g_1 hp_2 => ?_)
  subst g_1
  refine w_ifeqB 28 dX11_column_6 (by decide) (fun c_6 => ?_) (fun c_6 => ?_)
  · refine w_iconst dX11_column_28 ?_
    exact w_iret dX11_column_29 rfl (by first | with_reducible rfl | omega | (split <;> omega)) rfl
  · refine w_iload_n dX11_column_9 rfl 3 rfl ?_
    refine w_iconst dX11_column_10 ?_
    refine w_iconst dX11_column_11 ?_
    refine w_calliS (As := [.int (zI what), .int (zI 0), .int (zI 2)]) (rest := []) (n := 3) (c_X11_in (by first | omega | with_reducible rfl) (by first | omega | with_reducible rfl) (by first | omega | with_reducible rfl)) gX11_column_X11_in rfl rfl rfl (by decide +kernel) ⟨Nat.le_of_ble_eq_true rfl, Nat.le_of_ble_eq_true rfl⟩ rfl (Nat.le_of_ble_eq_true rfl) ⟨Nat.zero_le _, Nat.zero_le _⟩ dX11_column_12 rfl (fun g_3 hp_4 => ?_)
    subst g_3
    refine w_ifeqB 28 dX11_column_15 (by decide) (fun c_15 => ?_) (fun c_15 => ?_)
    · refine w_iconst dX11_column_28 ?_
      exact w_iret dX11_column_29 rfl (by first | with_reducible rfl | omega | (split <;> omega)) rfl
    · exfalso; omega
set_option maxHeartbeats 4000000 in
set_option maxRecDepth 100000 in
theorem m_y_X11_column {l : Launch} {D : va_G} {cy : Nat → ClassId} {B N : Nat} {g : Nat → va_E} {cg le sp va o0 tn aw mw fw ls gs sn sw kr : Int} {Nw Sv Tb Lk Bs : Int → Int} {S : St} {k : Nat} {c : List Co} {j what : Int} (hm : vM cy B g 141 cg le sp va o0 tn aw mw fw ls gs sn sw kr) (hnow : vIA cy B g 142 49 Nw) (hN : 160 ≤ N) (hER : ER Nw S) (hkS : k < S.length) (hcS : S.getD k [] = c) (hc : cok c) (h_j : -2147483648 ≤ j ∧ j < 2147483648) (h_what : -2147483648 ≤ what ∧ what < 2147483648) (hw : (0 ≤ j ∧ j < c.length) ∧ 0 ≤ what ∧ what ≤ 2) : CTi l yX11_column wsX11_column (rmo 3 65) D cy B N g [.ref (B + 141), .int (zI ((k : Nat) : Int)), .int (zI j), .int (zI what)] (aCol c j what) (fun g' => g' = g) := by
  refine WW_of (cc := cX11_column) (maxL := 4) (ret := (some .int)) (own := RX11) (by decide) rfl rfl (Nat.le_of_ble_eq_true rfl) rfl ?_
  intro pp ee ss mm bl me co hmn
  have hmc : MC Nw k c := by have h := hER.2 k hkS; rw [hcS] at h; exact h
  have hk3 := hmc.1
  have hcS2 : S.getD (((k : Nat) : Int)).toNat [] = c := by rw [Int.toNat_natCast]; exact hcS
  refine w_aload_n dX11_column_0 rfl 0 rfl ?_
  refine w_iload_n dX11_column_1 rfl 1 rfl ?_
  refine w_iload_n dX11_column_2 rfl 2 rfl ?_
  refine w_calli (As := [.int (zI ((k : Nat) : Int)), .int (zI j)]) (rest := []) (n := 2) (c_X11_isColumn hm hnow (by first | omega | with_reducible rfl) (by first | omega | with_reducible rfl) (by first | omega | with_reducible rfl) (by first | omega | with_reducible rfl)) gX11_column_X11_isColumn rfl rfl rfl (by decide +kernel) ⟨Nat.le_of_ble_eq_true rfl, Nat.le_of_ble_eq_true rfl⟩ rfl (by first | omega | with_reducible rfl) hm rfl (Nat.le_of_ble_eq_true rfl) ⟨Nat.zero_le _, Nat.zero_le _⟩ dX11_column_3 rfl (fun g_1 hp_2 => ?_)
  subst g_1
  refine w_ifeqB 28 dX11_column_6 (by decide) (fun c_6 => ?_) (fun c_6 => ?_)
  · rw [hcS2] at c_6
    exfalso; omega
  · refine w_iload_n dX11_column_9 rfl 3 rfl ?_
    refine w_iconst dX11_column_10 ?_
    refine w_iconst dX11_column_11 ?_
    refine w_calliS (As := [.int (zI what), .int (zI 0), .int (zI 2)]) (rest := []) (n := 3) (c_X11_in (by first | omega | with_reducible rfl) (by first | omega | with_reducible rfl) (by first | omega | with_reducible rfl)) gX11_column_X11_in rfl rfl rfl (by decide +kernel) ⟨Nat.le_of_ble_eq_true rfl, Nat.le_of_ble_eq_true rfl⟩ rfl (Nat.le_of_ble_eq_true rfl) ⟨Nat.zero_le _, Nat.zero_le _⟩ dX11_column_12 rfl (fun g_3 hp_4 => ?_)
    subst g_3
    refine w_ifeqB 28 dX11_column_15 (by decide) (fun c_15 => ?_) (fun c_15 => ?_)
    · exfalso; omega
    · refine w_aload_n dX11_column_18 rfl 0 rfl ?_
      refine w_iload_n dX11_column_19 rfl 1 rfl ?_
      refine w_iload_n dX11_column_20 rfl 2 rfl ?_
      refine w_iload_n dX11_column_21 rfl 3 rfl ?_
      refine w_calli (As := [.int (zI ((k : Nat) : Int)), .int (zI j), .int (zI what)]) (rest := []) (n := 3) (c_X11_of (k := k) hm hnow (by first | omega | with_reducible rfl) (by first | omega | with_reducible rfl) (by first | omega | with_reducible rfl) (by first | omega | with_reducible rfl)) gX11_column_X11_of rfl rfl rfl (by decide +kernel) ⟨Nat.le_of_ble_eq_true rfl, Nat.le_of_ble_eq_true rfl⟩ rfl (by first | omega | with_reducible rfl) hm rfl (Nat.le_of_ble_eq_true rfl) ⟨Nat.zero_le _, Nat.zero_le _⟩ dX11_column_22 rfl (fun g_5 hp_6 => ?_)
      subst g_5
      refine w_goto 29 dX11_column_25 (by decide) ?_
      exact w_iret dX11_column_29 rfl (by unfold aCol cof; rw [if_pos hw.1]; rcases (show what = 0 ∨ what = 1 ∨ what = 2 by omega) with e | e | e <;> subst e <;> rfl) rfl

set_option maxHeartbeats 4000000 in
set_option maxRecDepth 100000 in
theorem c_X11_seenSums {l : Launch} {D : va_G} {cy : Nat → ClassId} {B N : Nat} {g : Nat → va_E} {cg le sp va o0 tn aw mw fw ls gs sn sw kr : Int} {Nw : Int → Int} {S : St} (hm : vM cy B g 141 cg le sp va o0 tn aw mw fw ls gs sn sw kr) (hnow : vIA cy B g 142 49 Nw) (hN : 160 ≤ N) (hER : ER Nw S) : CTi l yX11_seenSums wsX11_seenSums (rmo 3 68) D cy B N g [.ref (B + 141)] (jS (fun i => S.getD i []) S.length) (fun g' => g' = g) := by
  refine WW_of (cc := cX11_seenSums) (maxL := 3) (ret := (some .int)) (own := RX11) (by decide) rfl rfl (Nat.le_of_ble_eq_true rfl) rfl ?_
  intro pp ee ss mm bl me co hmn
  have hS3 := hER.1
  refine w_iconst dX11_seenSums_0 ?_
  refine w_istore_n [(1, .int (zI 0)), (0, .ref (B + 141))] dX11_seenSums_1 rfl (by decide) rfl ?_
  refine w_iconst dX11_seenSums_2 ?_
  refine w_istore_n [(2, .int (zI 0)), (1, .int (zI 0)), (0, .ref (B + 141))] dX11_seenSums_3 rfl (by decide) rfl ?_
  refine w_sub [(0, .ref (B + 141)), (1, .int (zI 0)), (2, .int (zI 0))] [2, 1, 0] rfl ?_
  refine w_lv (lv' := [(0, .ref (B + 141)), (1, .int (zI (jS (fun i => S.getD i []) 0))), (2, .int (zI ((0 : Nat) : Int)))]) (lc_s (lc_i rfl (lc_i (by first | omega | with_reducible rfl) rfl))) ?_
  refine w_loop1 (fun (k : Nat) => k ≤ S.length) (fun (k : Nat) => S.length - k) (fun (k : Nat) => g) (fun (k : Nat) => [(0, .ref (B + 141)), (1, .int (zI (jS (fun i => S.getD i []) k))), (2, .int (zI ((k : Nat) : Int)))]) ?_ 0 (by first | omega | with_reducible rfl)
  rintro k hk ih_4
  refine w_iload_n dX11_seenSums_4 rfl 2 rfl ?_
  refine w_aload_n dX11_seenSums_5 rfl 0 rfl ?_
  refine w_get (i := 0) (T := TX11) (NF := 32) 141 (by first | omega | with_reducible rfl) hm rfl (fun _ h => (List.mem_cons_of_mem _ (List.mem_append_right _ h))) (by decide) (List.mem_of_getElem? (i := 1) rfl) rfl dX11_seenSums_6 ?_
  refine w_iconst dX11_seenSums_9 ?_
  refine w_iald 142 (by first | omega | with_reducible rfl) hnow (by first | omega | with_reducible rfl) dX11_seenSums_10 ?_
  refine w_as (st' := [.int (zI ((S.length : Nat) : Int)), .int (zI ((k : Nat) : Int))]) (sc_i (by first | omega | with_reducible rfl) rfl) ?_
  refine w_icmp_ge 28 dX11_seenSums_11 (by decide) (by first | omega | with_reducible rfl) (by first | omega | with_reducible rfl) (fun c_11 => ?_) (fun c_11 => ?_)
  · refine w_iload_n dX11_seenSums_28 rfl 1 rfl ?_
    have hkl : k = S.length := by omega
    exact w_iret dX11_seenSums_29 rfl (by rw [hkl]) rfl
  · refine w_iload_n dX11_seenSums_14 rfl 1 rfl ?_
    refine w_aload_n dX11_seenSums_15 rfl 0 rfl ?_
    refine w_iload_n dX11_seenSums_16 rfl 2 rfl ?_
    refine w_calli (As := [.int (zI ((k : Nat) : Int))]) (rest := [.int (zI (jS (fun i => S.getD i []) k))]) (n := 1) (c_X11_seenSum (k := k) hm hnow (by first | omega | with_reducible rfl) (hER.2 k (by omega))) gX11_seenSums_X11_seenSum rfl rfl rfl (by decide +kernel) ⟨Nat.le_of_ble_eq_true rfl, Nat.le_of_ble_eq_true rfl⟩ rfl (by first | omega | with_reducible rfl) hm rfl (Nat.le_of_ble_eq_true rfl) ⟨Nat.zero_le _, Nat.zero_le _⟩ dX11_seenSums_17 rfl (fun g_1 hp_2 => ?_)
    subst g_1
    refine w_iadd dX11_seenSums_20 ?_
    refine w_istore_n [(1, .int (zI ((jS (fun i => S.getD i []) k) + (coS (S.getD k []))))), (0, .ref (B + 141)), (2, .int (zI ((k : Nat) : Int)))] dX11_seenSums_21 rfl (by decide) rfl ?_
    refine w_iinc 2 [(2, .int (zI (((k : Nat) : Int) + 1))), (1, .int (zI ((jS (fun i => S.getD i []) k) + (coS (S.getD k []))))), (0, .ref (B + 141))] dX11_seenSums_22 rfl (by decide) rfl ?_
    refine w_goto 4 dX11_seenSums_25 (by decide) ?_
    refine w_sub [(0, .ref (B + 141)), (1, .int (zI ((jS (fun i => S.getD i []) k) + (coS (S.getD k []))))), (2, .int (zI (((k : Nat) : Int) + 1)))] [2, 1, 0] rfl ?_
    refine w_lv (lv' := [(0, .ref (B + 141)), (1, .int (zI (jS (fun i => S.getD i []) (k + 1)))), (2, .int (zI (((k + 1) : Nat) : Int)))]) (lc_s (lc_i rfl (lc_i (by first | omega | with_reducible rfl) rfl))) ?_
    exact ih_4 (k + 1) (by first | omega | with_reducible rfl) (by first | omega | with_reducible rfl)

set_option maxHeartbeats 4000000 in
set_option maxRecDepth 100000 in
theorem c_X11_count {l : Launch} {D : va_G} {cy : Nat → ClassId} {B N : Nat} {g : Nat → va_E} {cg le sp va o0 tn aw mw fw ls gs sn sw kr : Int} {Nw : Int → Int} {S : St} {what : Int} (hm : vM cy B g 141 cg le sp va o0 tn aw mw fw ls gs sn sw kr) (hnow : vIA cy B g 142 49 Nw) (hN : 160 ≤ N) (hER : ER Nw S) (hck : ∀ i : Nat, i < S.length → cok (S.getD i [])) (h_what : -2147483648 ≤ what ∧ what < 2147483648) : CTi l yX11_count wsX11_count (rmo 4 90) D cy B N g [.ref (B + 141), .int (zI what)] (if what = 0 then ((S.length : Nat) : Int) else if what = 5 then cg else if what = 6 then le else if what < 0 ∨ 4 < what then -1 else cntS (fun i => S.getD i []) what S.length) (fun g' => g' = g) := by
  refine WW_of (cc := cX11_count) (maxL := 6) (ret := (some .int)) (own := RX11) (by decide) rfl rfl (Nat.le_of_ble_eq_true rfl) rfl ?_
  intro pp ee ss mm bl me co hmn
  have hS3 := hER.1
  refine w_iload_n dX11_count_0 rfl 1 rfl ?_
  refine w_iconst dX11_count_1 ?_
  refine w_icmp_eq 11 dX11_count_2 (by decide) (by first | omega | with_reducible rfl) (by first | omega | with_reducible rfl) (fun c_2 => ?_) (fun c_2 => ?_)
  · refine w_iload_n dX11_count_11 rfl 1 rfl ?_
    refine w_iconst dX11_count_12 ?_
    refine w_icmp_ne 23 dX11_count_13 (by decide) (by first | omega | with_reducible rfl) (by first | omega | with_reducible rfl) (fun c_13 => ?_) (fun c_13 => ?_)
    · refine w_aload_n dX11_count_23 rfl 0 rfl ?_
      refine w_get (i := 5) (T := TX11) (NF := 32) 141 (by first | omega | with_reducible rfl) hm rfl (fun _ h => (List.mem_cons_of_mem _ (List.mem_append_right _ h))) (by decide) (List.mem_of_getElem? (i := 2) rfl) rfl dX11_count_24 ?_
      exact w_iret dX11_count_27 rfl (by first | (exfalso; omega) | skip; rw [if_neg (by omega)]; first | rw [if_pos (by omega)] | rw [if_neg (by omega), if_pos (by omega)]) rfl
    · refine w_aload_n dX11_count_16 rfl 0 rfl ?_
      refine w_get (i := 3) (T := TX11) (NF := 32) 141 (by first | omega | with_reducible rfl) hm rfl (fun _ h => (List.mem_cons_of_mem _ (List.mem_append_right _ h))) (by decide) (List.mem_of_getElem? (i := 1) rfl) rfl dX11_count_17 ?_
      refine w_goto 27 dX11_count_20 (by decide) ?_
      exact w_iret dX11_count_27 rfl (by first | (exfalso; omega) | skip; rw [if_neg (by omega)]; first | rw [if_pos (by omega)] | rw [if_neg (by omega), if_pos (by omega)]) rfl
  · refine w_iload_n dX11_count_5 rfl 1 rfl ?_
    refine w_bipush dX11_count_6 (by decide) ?_
    refine w_icmp_ne 28 dX11_count_8 (by decide) (by first | omega | with_reducible rfl) (by first | omega | with_reducible rfl) (fun c_8 => ?_) (fun c_8 => ?_)
    · refine w_iload_n dX11_count_28 rfl 1 rfl ?_
      refine w_iconst dX11_count_29 ?_
      refine w_iconst dX11_count_30 ?_
      refine w_calliS (As := [.int (zI what), .int (zI 0), .int (zI 4)]) (rest := []) (n := 3) (c_X11_in (by first | omega | with_reducible rfl) (by first | omega | with_reducible rfl) (by first | omega | with_reducible rfl)) gX11_count_X11_in rfl rfl rfl (by decide +kernel) ⟨Nat.le_of_ble_eq_true rfl, Nat.le_of_ble_eq_true rfl⟩ rfl (Nat.le_of_ble_eq_true rfl) ⟨Nat.zero_le _, Nat.zero_le _⟩ dX11_count_31 rfl (fun g_1 hp_2 => ?_)
      subst g_1
      refine w_ifneB 39 dX11_count_34 (by decide) (fun c_34 => ?_) (fun c_34 => ?_)
      · refine w_iconst dX11_count_39 ?_
        refine w_istore_n [(2, .int (zI 0)), (0, .ref (B + 141)), (1, .int (zI what))] dX11_count_40 rfl (by decide) rfl ?_
        refine w_iconst dX11_count_41 ?_
        refine w_istore_n [(3, .int (zI 0)), (2, .int (zI 0)), (0, .ref (B + 141)), (1, .int (zI what))] dX11_count_42 rfl (by decide) rfl ?_
        refine w_iconst dX11_count_43 ?_
        refine w_istore [(4, .int (zI 0)), (3, .int (zI 0)), (2, .int (zI 0)), (0, .ref (B + 141)), (1, .int (zI what))] dX11_count_44 (by decide) rfl ?_
        refine w_iconst dX11_count_46 ?_
        refine w_istore [(5, .int (zI 0)), (4, .int (zI 0)), (3, .int (zI 0)), (2, .int (zI 0)), (0, .ref (B + 141)), (1, .int (zI what))] dX11_count_47 (by decide) rfl ?_
        refine w_sub [(0, .ref (B + 141)), (1, .int (zI what)), (2, .int (zI 0)), (3, .int (zI 0)), (4, .int (zI 0)), (5, .int (zI 0))] [4, 5, 3, 2, 1, 0] rfl ?_
        refine w_lv (lv' := [(0, .ref (B + 141)), (1, .int (zI what)), (2, .int (zI (cntS (fun i => S.getD i []) 1 0))), (3, .int (zI (cntS (fun i => S.getD i []) 2 0))), (4, .int (zI (cntS (fun i => S.getD i []) 3 0))), (5, .int (zI ((0 : Nat) : Int)))]) (lc_s (lc_s (lc_i rfl (lc_i rfl (lc_i rfl (lc_i (by first | omega | with_reducible rfl) rfl)))))) ?_
        refine w_loop1 (fun (k : Nat) => k ≤ S.length) (fun (k : Nat) => S.length - k) (fun (k : Nat) => g) (fun (k : Nat) => [(0, .ref (B + 141)), (1, .int (zI what)), (2, .int (zI (cntS (fun i => S.getD i []) 1 k))), (3, .int (zI (cntS (fun i => S.getD i []) 2 k))), (4, .int (zI (cntS (fun i => S.getD i []) 3 k))), (5, .int (zI ((k : Nat) : Int)))]) ?_ 0 (by first | omega | with_reducible rfl)
        rintro k hk ih_49
        refine w_iload dX11_count_49 5 rfl ?_
        refine w_aload_n dX11_count_51 rfl 0 rfl ?_
        refine w_get (i := 0) (T := TX11) (NF := 32) 141 (by first | omega | with_reducible rfl) hm rfl (fun _ h => (List.mem_cons_of_mem _ (List.mem_append_right _ h))) (by decide) (List.mem_of_getElem? (i := 3) rfl) rfl dX11_count_52 ?_
        refine w_iconst dX11_count_55 ?_
        refine w_iald 142 (by first | omega | with_reducible rfl) hnow (by first | omega | with_reducible rfl) dX11_count_56 ?_
        refine w_as (st' := [.int (zI ((S.length : Nat) : Int)), .int (zI ((k : Nat) : Int))]) (sc_i (by first | omega | with_reducible rfl) rfl) ?_
        refine w_icmp_ge 97 dX11_count_57 (by decide) (by first | omega | with_reducible rfl) (by first | omega | with_reducible rfl) (fun c_57 => ?_) (fun c_57 => ?_)
        · have hkl : k = S.length := by omega
          refine w_iload_n dX11_count_97 rfl 1 rfl ?_
          refine w_if_ne 110 dX11_count_98 (by decide) (by first | omega | with_reducible rfl) (fun c_98 => ?_) (fun c_98 => ?_)
          · refine w_iload_n dX11_count_110 rfl 1 rfl ?_
            refine w_iconst dX11_count_111 ?_
            refine w_icmp_ne 119 dX11_count_112 (by decide) (by first | omega | with_reducible rfl) (by first | omega | with_reducible rfl) (fun c_112 => ?_) (fun c_112 => ?_)
            · refine w_iload_n dX11_count_119 rfl 1 rfl ?_
              refine w_iconst dX11_count_120 ?_
              refine w_icmp_ne 128 dX11_count_121 (by decide) (by first | omega | with_reducible rfl) (by first | omega | with_reducible rfl) (fun c_121 => ?_) (fun c_121 => ?_)
              · refine w_iload_n dX11_count_128 rfl 1 rfl ?_
                refine w_iconst dX11_count_129 ?_
                refine w_icmp_ne 138 dX11_count_130 (by decide) (by first | omega | with_reducible rfl) (by first | omega | with_reducible rfl) (fun c_130 => ?_) (fun c_130 => ?_)
                · refine w_aload_n dX11_count_138 rfl 0 rfl ?_
                  refine w_calli (As := []) (rest := []) (n := 0) (c_X11_seenSums hm hnow (by first | omega | with_reducible rfl) (by first | omega | with_reducible rfl)) gX11_count_X11_seenSums rfl rfl rfl (by decide +kernel) ⟨Nat.le_of_ble_eq_true rfl, Nat.le_of_ble_eq_true rfl⟩ rfl (by first | omega | with_reducible rfl) hm rfl (Nat.le_of_ble_eq_true rfl) ⟨Nat.zero_le _, Nat.zero_le _⟩ dX11_count_139 rfl (fun g_3 hp_4 => ?_)
                  subst g_3
                  exact w_iret dX11_count_142 rfl (by first | rw [if_pos (by omega)] | (rw [if_neg (by omega), if_neg (by omega), if_neg (by omega), if_neg (by omega)]; first | (rw [show what = 1 by omega, hkl]; done) | (rw [show what = 2 by omega, hkl]; done) | (rw [show what = 3 by omega, hkl]; done) | (rw [show what = 4 by omega]; exact (cnt_jS _ _).symm))) rfl
                · refine w_iload dX11_count_133 4 rfl ?_
                  refine w_goto 142 dX11_count_135 (by decide) ?_
                  exact w_iret dX11_count_142 rfl (by first | rw [if_pos (by omega)] | (rw [if_neg (by omega), if_neg (by omega), if_neg (by omega), if_neg (by omega)]; first | (rw [show what = 1 by omega, hkl]; done) | (rw [show what = 2 by omega, hkl]; done) | (rw [show what = 3 by omega, hkl]; done) | (rw [show what = 4 by omega]; exact (cnt_jS _ _).symm))) rfl
              · refine w_iload_n dX11_count_124 rfl 3 rfl ?_
                refine w_goto 142 dX11_count_125 (by decide) ?_
                exact w_iret dX11_count_142 rfl (by first | rw [if_pos (by omega)] | (rw [if_neg (by omega), if_neg (by omega), if_neg (by omega), if_neg (by omega)]; first | (rw [show what = 1 by omega, hkl]; done) | (rw [show what = 2 by omega, hkl]; done) | (rw [show what = 3 by omega, hkl]; done) | (rw [show what = 4 by omega]; exact (cnt_jS _ _).symm))) rfl
            · refine w_iload_n dX11_count_115 rfl 2 rfl ?_
              refine w_goto 142 dX11_count_116 (by decide) ?_
              exact w_iret dX11_count_142 rfl (by first | rw [if_pos (by omega)] | (rw [if_neg (by omega), if_neg (by omega), if_neg (by omega), if_neg (by omega)]; first | (rw [show what = 1 by omega, hkl]; done) | (rw [show what = 2 by omega, hkl]; done) | (rw [show what = 3 by omega, hkl]; done) | (rw [show what = 4 by omega]; exact (cnt_jS _ _).symm))) rfl
          · refine w_aload_n dX11_count_101 rfl 0 rfl ?_
            refine w_get (i := 0) (T := TX11) (NF := 32) 141 (by first | omega | with_reducible rfl) hm rfl (fun _ h => (List.mem_cons_of_mem _ (List.mem_append_right _ h))) (by decide) (List.mem_of_getElem? (i := 3) rfl) rfl dX11_count_102 ?_
            refine w_iconst dX11_count_105 ?_
            refine w_iald 142 (by first | omega | with_reducible rfl) hnow (by first | omega | with_reducible rfl) dX11_count_106 ?_
            refine w_as (st' := [.int (zI ((S.length : Nat) : Int))]) (sc_i (by first | omega | with_reducible rfl) rfl) ?_
            refine w_goto 142 dX11_count_107 (by decide) ?_
            exact w_iret dX11_count_142 rfl (by first | rw [if_pos (by omega)] | (rw [if_neg (by omega), if_neg (by omega), if_neg (by omega), if_neg (by omega)]; first | (rw [show what = 1 by omega, hkl]; done) | (rw [show what = 2 by omega, hkl]; done) | (rw [show what = 3 by omega, hkl]; done) | (rw [show what = 4 by omega]; exact (cnt_jS _ _).symm))) rfl
        · refine w_iload_n dX11_count_60 rfl 2 rfl ?_
          refine w_aload_n dX11_count_61 rfl 0 rfl ?_
          refine w_iload dX11_count_62 5 rfl ?_
          refine w_calli (As := [.int (zI ((k : Nat) : Int))]) (rest := [.int (zI (cntS (fun i => S.getD i []) 1 k))]) (n := 1) (c_X11_columns (k := k) hm hnow (by first | omega | with_reducible rfl) (hER.2 k (by omega))) gX11_count_X11_columns rfl rfl rfl (by decide +kernel) ⟨Nat.le_of_ble_eq_true rfl, Nat.le_of_ble_eq_true rfl⟩ rfl (by first | omega | with_reducible rfl) hm rfl (Nat.le_of_ble_eq_true rfl) ⟨Nat.zero_le _, Nat.zero_le _⟩ dX11_count_64 rfl (fun g_5 hp_6 => ?_)
          subst g_5
          refine w_iadd dX11_count_67 ?_
          refine w_istore_n [(2, .int (zI ((cntS (fun i => S.getD i []) 1 k) + (((S.getD k []).length : Nat) : Int)))), (0, .ref (B + 141)), (1, .int (zI what)), (3, .int (zI (cntS (fun i => S.getD i []) 2 k))), (4, .int (zI (cntS (fun i => S.getD i []) 3 k))), (5, .int (zI ((k : Nat) : Int)))] dX11_count_68 rfl (by decide) rfl ?_
          refine w_iload_n dX11_count_69 rfl 3 rfl ?_
          refine w_aload_n dX11_count_70 rfl 1 rfl ?_
          refine w_iload dX11_count_71 5 rfl ?_
          refine w_iconst dX11_count_73 ?_
          refine w_calli (As := [.int (zI ((k : Nat) : Int)), .int (zI 0)]) (rest := [.int (zI (cntS (fun i => S.getD i []) 2 k))]) (n := 2) (c_X11_total0 (k := k) hm hnow (by first | omega | with_reducible rfl) (hER.2 k (by omega))) gX11_count_X11_total rfl rfl rfl (by decide +kernel) ⟨Nat.le_of_ble_eq_true rfl, Nat.le_of_ble_eq_true rfl⟩ rfl (by first | omega | with_reducible rfl) hm rfl (Nat.le_of_ble_eq_true rfl) ⟨Nat.zero_le _, Nat.zero_le _⟩ dX11_count_74 rfl (fun g_7 hp_8 => ?_)
          subst g_7
          refine w_iadd dX11_count_77 ?_
          refine w_istore_n [(3, .int (zI ((cntS (fun i => S.getD i []) 2 k) + (sm (coT (S.getD k [])) (S.getD k []).length)))), (2, .int (zI ((cntS (fun i => S.getD i []) 1 k) + (((S.getD k []).length : Nat) : Int)))), (0, .ref (B + 141)), (1, .int (zI what)), (4, .int (zI (cntS (fun i => S.getD i []) 3 k))), (5, .int (zI ((k : Nat) : Int)))] dX11_count_78 rfl (by decide) rfl ?_
          refine w_iload dX11_count_79 4 rfl ?_
          refine w_aload_n dX11_count_81 rfl 2 rfl ?_
          refine w_iload dX11_count_82 5 rfl ?_
          refine w_iconst dX11_count_84 ?_
          refine w_calli (As := [.int (zI ((k : Nat) : Int)), .int (zI 1)]) (rest := [.int (zI (cntS (fun i => S.getD i []) 3 k))]) (n := 2) (c_X11_total1 (k := k) hm hnow (by first | omega | with_reducible rfl) (hER.2 k (by omega))) gX11_count_X11_total rfl rfl rfl (by decide +kernel) ⟨Nat.le_of_ble_eq_true rfl, Nat.le_of_ble_eq_true rfl⟩ rfl (by first | omega | with_reducible rfl) hm rfl (Nat.le_of_ble_eq_true rfl) ⟨Nat.zero_le _, Nat.zero_le _⟩ dX11_count_85 rfl (fun g_9 hp_10 => ?_)
          subst g_9
          refine w_iadd dX11_count_88 ?_
          refine w_istore [(4, .int (zI ((cntS (fun i => S.getD i []) 3 k) + (sm (coX (S.getD k [])) (S.getD k []).length)))), (3, .int (zI ((cntS (fun i => S.getD i []) 2 k) + (sm (coT (S.getD k [])) (S.getD k []).length)))), (2, .int (zI ((cntS (fun i => S.getD i []) 1 k) + (((S.getD k []).length : Nat) : Int)))), (0, .ref (B + 141)), (1, .int (zI what)), (5, .int (zI ((k : Nat) : Int)))] dX11_count_89 (by decide) rfl ?_
          refine w_iinc 5 [(5, .int (zI (((k : Nat) : Int) + 1))), (4, .int (zI ((cntS (fun i => S.getD i []) 3 k) + (sm (coX (S.getD k [])) (S.getD k []).length)))), (3, .int (zI ((cntS (fun i => S.getD i []) 2 k) + (sm (coT (S.getD k [])) (S.getD k []).length)))), (2, .int (zI ((cntS (fun i => S.getD i []) 1 k) + (((S.getD k []).length : Nat) : Int)))), (0, .ref (B + 141)), (1, .int (zI what))] dX11_count_91 rfl (by decide) rfl ?_
          refine w_goto 49 dX11_count_94 (by decide) ?_
          refine w_sub [(0, .ref (B + 141)), (1, .int (zI what)), (2, .int (zI ((cntS (fun i => S.getD i []) 1 k) + (((S.getD k []).length : Nat) : Int)))), (3, .int (zI ((cntS (fun i => S.getD i []) 2 k) + (sm (coT (S.getD k [])) (S.getD k []).length)))), (4, .int (zI ((cntS (fun i => S.getD i []) 3 k) + (sm (coX (S.getD k [])) (S.getD k []).length)))), (5, .int (zI (((k : Nat) : Int) + 1)))] [4, 5, 3, 2, 1, 0] rfl ?_
          refine w_lv (lv' := [(0, .ref (B + 141)), (1, .int (zI what)), (2, .int (zI (cntS (fun i => S.getD i []) 1 (k + 1)))), (3, .int (zI (cntS (fun i => S.getD i []) 2 (k + 1)))), (4, .int (zI (cntS (fun i => S.getD i []) 3 (k + 1)))), (5, .int (zI (((k + 1) : Nat) : Int)))]) (lc_s (lc_s (lc_i rfl (lc_i rfl (lc_i (by rw [cntS]; exact congrArg (_ + ·) (coR_z (hck k (by omega)))) (lc_i (by first | omega | with_reducible rfl) rfl)))))) ?_
          exact ih_49 (k + 1) (by first | omega | with_reducible rfl) (by first | omega | with_reducible rfl)
      · refine w_iconst dX11_count_37 ?_
        exact w_iret dX11_count_38 rfl (by rw [if_neg (by omega), if_neg (by omega), if_neg (by omega), if_pos (by omega)]) rfl
    · refine w_iload_n dX11_count_11 rfl 1 rfl ?_
      refine w_iconst dX11_count_12 ?_
      refine w_icmp_ne 23 dX11_count_13 (by decide) (by first | omega | with_reducible rfl) (by first | omega | with_reducible rfl) (fun c_13 => ?_) (fun c_13 => ?_)
      · refine w_aload_n dX11_count_23 rfl 0 rfl ?_
        refine w_get (i := 5) (T := TX11) (NF := 32) 141 (by first | omega | with_reducible rfl) hm rfl (fun _ h => (List.mem_cons_of_mem _ (List.mem_append_right _ h))) (by decide) (List.mem_of_getElem? (i := 2) rfl) rfl dX11_count_24 ?_
        exact w_iret dX11_count_27 rfl (by first | (exfalso; omega) | skip; rw [if_neg (by omega)]; first | rw [if_pos (by omega)] | rw [if_neg (by omega), if_pos (by omega)]) rfl
      · refine w_aload_n dX11_count_16 rfl 0 rfl ?_
        refine w_get (i := 3) (T := TX11) (NF := 32) 141 (by first | omega | with_reducible rfl) hm rfl (fun _ h => (List.mem_cons_of_mem _ (List.mem_append_right _ h))) (by decide) (List.mem_of_getElem? (i := 1) rfl) rfl dX11_count_17 ?_
        refine w_goto 27 dX11_count_20 (by decide) ?_
        exact w_iret dX11_count_27 rfl (by first | (exfalso; omega) | skip; rw [if_neg (by omega)]; first | rw [if_pos (by omega)] | rw [if_neg (by omega), if_pos (by omega)]) rfl

