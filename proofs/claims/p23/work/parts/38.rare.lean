/-! ===== RareWalk ===== -/
set_option maxHeartbeats 4000000 in
set_option maxRecDepth 100000 in
theorem c_X4_rareWays {l : Launch} {D : va_G} {cy : Nat → ClassId} {B N : Nat} {g : Nat → va_E} {rb : Nat} {sw rw rt lc rver : Int} {nb cb : Nat} (hw : vRare cy B g rb cb nb sw rw rt lc rver) (hRB : rb + 1 ≤ N) : CTl l yX4_rareWays wsX4_rareWays (rmo 0 0) D cy B N g [.ref (B + rb)] rw (fun g' => g' = g) := by
  refine WW_of (cc := cX4_rareWays) (maxL := 1) (ret := (some .long)) (own := RX4) (by decide) rfl rfl (Nat.le_of_ble_eq_true rfl) rfl ?_
  intro pp ee ss mm bl me co hmn
  refine w_aload_n dX4_rareWays_0 rfl 0 rfl ?_
  refine w_get (i := 3) (T := TX4) (NF := 7) rb (by first | omega | with_reducible rfl) hw rfl (fun _ h => (List.mem_cons_of_mem _ (List.mem_append_right _ h))) (by decide) (List.mem_of_getElem? (i := 1) rfl) rfl dX4_rareWays_1 ?_
  exact w_lret dX4_rareWays_4 rfl (by first | with_reducible rfl | omega | (split <;> omega)) rfl
set_option maxHeartbeats 4000000 in
set_option maxRecDepth 100000 in
theorem c_X4_rareTables {l : Launch} {D : va_G} {cy : Nat → ClassId} {B N : Nat} {g : Nat → va_E} {rb : Nat} {sw rw rt lc rver : Int} {nb cb : Nat} (hw : vRare cy B g rb cb nb sw rw rt lc rver) (hRB : rb + 1 ≤ N) : CTi l yX4_rareTables wsX4_rareTables (rmo 0 0) D cy B N g [.ref (B + rb)] rt (fun g' => g' = g) := by
  refine WW_of (cc := cX4_rareTables) (maxL := 1) (ret := (some .int)) (own := RX4) (by decide) rfl rfl (Nat.le_of_ble_eq_true rfl) rfl ?_
  intro pp ee ss mm bl me co hmn
  refine w_aload_n dX4_rareTables_0 rfl 0 rfl ?_
  refine w_get (i := 4) (T := TX4) (NF := 7) rb (by first | omega | with_reducible rfl) hw rfl (fun _ h => (List.mem_cons_of_mem _ (List.mem_append_right _ h))) (by decide) (List.mem_of_getElem? (i := 1) rfl) rfl dX4_rareTables_1 ?_
  exact w_iret dX4_rareTables_4 rfl (by first | with_reducible rfl | omega | (split <;> omega)) rfl
set_option maxHeartbeats 4000000 in
set_option maxRecDepth 100000 in
theorem c_X4_lookCount {l : Launch} {D : va_G} {cy : Nat → ClassId} {B N : Nat} {g : Nat → va_E} {rb : Nat} {sw rw rt lc rver : Int} {nb cb : Nat} (hw : vRare cy B g rb cb nb sw rw rt lc rver) (hRB : rb + 1 ≤ N) : CTi l yX4_lookCount wsX4_lookCount (rmo 0 0) D cy B N g [.ref (B + rb)] lc (fun g' => g' = g) := by
  refine WW_of (cc := cX4_lookCount) (maxL := 1) (ret := (some .int)) (own := RX4) (by decide) rfl rfl (Nat.le_of_ble_eq_true rfl) rfl ?_
  intro pp ee ss mm bl me co hmn
  refine w_aload_n dX4_lookCount_0 rfl 0 rfl ?_
  refine w_get (i := 5) (T := TX4) (NF := 7) rb (by first | omega | with_reducible rfl) hw rfl (fun _ h => (List.mem_cons_of_mem _ (List.mem_append_right _ h))) (by decide) (List.mem_of_getElem? (i := 1) rfl) rfl dX4_lookCount_1 ?_
  exact w_iret dX4_lookCount_4 rfl (by first | with_reducible rfl | omega | (split <;> omega)) rfl
set_option maxHeartbeats 4000000 in
set_option maxRecDepth 100000 in
theorem c_X4_lookAt_0 {l : Launch} {D : va_G} {cy : Nat → ClassId} {B N : Nat} {g : Nat → va_E} {rb : Nat} {sw rw rt lc rver : Int} {nb cb : Nat} {tf : Int → Int} {nver : Int} {G : Nat → Int → Int} {sets n R : Nat} {cver : Int} {T X V : Int → Int} {Wy : Nat → Int → Int} {j a : Nat} {w : Int} (hw : vRare cy B g rb cb nb sw rw rt lc rver) (hn : vNet cy B g nb cb tf ((R : Nat) : Int) nver G) (hc : vCol cy B g cb sets n cver T X V Wy) (hRB : rb + 1 ≤ N) (hd1 : rb + 1 ≤ nb ∨ nb + 11 ≤ rb) (hd2 : rb + 1 ≤ cb ∨ cb + 10 ≤ rb) (hNB : nb + 11 ≤ N) (hCB : cb + 10 ≤ N) (hok : okT T V n) (hR : R ≤ 60) (hNF : NF T V n R G) (htf : ∀ j : Nat, j ≤ 5 → tf ((j : Nat) : Int) = ((tsum (clL T V j (n - j)) : Nat) : Int)) (hWy : ∀ j : Nat, j < n → ∀ x : Nat, x ≤ 12 → Wy j ((x : Nat) : Int) = ((ch (T ((j : Nat) : Int)).toNat x : Nat) : Int)) (hsw : 0 ≤ sw ∧ sw ≤ 1152921504606846976) (hjm : j + 0 = n) (hth : thr T V n R j a) (hwk : wok w (clL T V j 0)) : CTv l yX4_lookAt wsX4_lookAt (rmo 1 23) D cy B N g [.ref (B + rb), .int (zI ((j : Nat) : Int)), .int (zI ((a : Nat) : Int)), .long (zJ w)] (fun g' => vRare cy B g' rb cb nb sw (rw + la 0 sw (clL T V j 0) (R - a) w) (rt + la 1 sw (clL T V j 0) (R - a) w) (lc + la 2 sw (clL T V j 0) (R - a) w) rver ∧ (∀ q, (q < rb ∨ rb + 1 ≤ q) → g' q = g q)) := by
  refine WW_of (cc := cX4_lookAt) (maxL := 5) (ret := none) (own := RX4) (by decide) rfl rfl (Nat.le_of_ble_eq_true rfl) rfl ?_
  intro pp ee ss mm bl me co hmn
  have hfr_0 : ∀ q, (q < rb ∨ rb + 1 ≤ q) → g q = g q := fun _ _ => rfl
  have hn5 : n ≤ 5 := hok.1
  have htR := hth.2.1
  have hwl := wok_lg hwk (R - a)
  have hws := wok_sh hwk (thr_ts hth hjm)
  have htc := tc_rg (r := R - a) hok (show j + 0 ≤ n by omega)
  refine w_aload_n dX4_lookAt_0 rfl 0 rfl ?_
  refine w_dup dX4_lookAt_1 rfl ?_
  refine w_get (i := 5) (T := TX4) (NF := 7) rb (by first | omega | with_reducible rfl) hw rfl (fun _ h => (List.mem_cons_of_mem _ (List.mem_append_left _ (List.mem_append_left _ (List.mem_append_right _ h))))) (by decide) (List.mem_of_getElem? (i := 1) rfl) rfl dX4_lookAt_2 ?_
  refine w_iconst dX4_lookAt_5 ?_
  refine w_iadd dX4_lookAt_6 ?_
  refine w_put (i := 5) (T := TX4) (NF := 7) rb (by first | omega | with_reducible rfl) hw rfl (fun _ h => (List.mem_cons_of_mem _ (List.mem_append_left _ (List.mem_append_left _ (List.mem_append_right _ h))))) tyX4 tyX4_ok nmX4 (by decide) (List.mem_of_getElem? (i := 1) rfl) rfl rfl rfl (Nat.le_of_ble_eq_true rfl) dX4_lookAt_7 (fun g_1 he_2 hn_3 => ?_)
  have hw_4 : vRare cy B g_1 rb cb nb sw rw rt (lc + 1) rver := he_2
  have hn_5 : vNet cy B g_1 nb cb tf ((R : Nat) : Int) nver G := vNet_fr hn (fun q h1 h2 => hn_3 q (by omega))
  have hc_6 : vCol cy B g_1 cb sets n cver T X V Wy := vCol_fr hc (fun q h1 h2 => hn_3 q (by omega))
  have hfr_7 : ∀ q, (q < rb ∨ rb + 1 ≤ q) → g_1 q = g q := fun q hq => (hn_3 q (by omega)).trans (hfr_0 q hq)
  refine w_lload_n dX4_lookAt_10 rfl 3 rfl ?_
  refine w_aload_n dX4_lookAt_11 rfl 0 rfl ?_
  refine w_get (i := 1) (T := TX4) (NF := 7) rb (by first | omega | with_reducible rfl) hw_4 rfl (fun _ h => (List.mem_cons_of_mem _ (List.mem_append_left _ (List.mem_append_left _ (List.mem_append_right _ h))))) (by decide) (List.mem_of_getElem? (i := 2) rfl) rfl dX4_lookAt_12 ?_
  refine w_iconst dX4_lookAt_15 ?_
  refine w_iload_n dX4_lookAt_16 rfl 1 rfl ?_
  refine w_iload_n dX4_lookAt_17 rfl 2 rfl ?_
  refine w_calll (As := [.int (zI 2), .int (zI ((j : Nat) : Int)), .int (zI ((a : Nat) : Int))]) (rest := [.long (zJ w)]) (n := 3) (c_X2_at hn_5 (by first | omega | with_reducible rfl) (by first | omega | with_reducible rfl) (by first | omega | with_reducible rfl) (by first | omega | with_reducible rfl)) gX4_lookAt_X2_at rfl rfl rfl (by decide +kernel) ⟨Nat.le_of_ble_eq_true rfl, Nat.le_of_ble_eq_true rfl⟩ rfl (by first | omega | with_reducible rfl) hn_5.1 rfl (Nat.le_of_ble_eq_true rfl) ⟨Nat.zero_le _, Nat.zero_le _⟩ dX4_lookAt_18 rfl (fun g_8 hp_9 => ?_)
  subst g_8
  refine w_as (st' := [.long (zJ (lg (clL T V j 0) (R - a))), .long (zJ w)]) (sc_l (NF_at (kd := 2) hNF hth hjm (by omega) hR (by omega) (by omega) rfl) rfl) ?_
  refine w_lmul dX4_lookAt_21 ?_
  refine w_aload_n dX4_lookAt_22 rfl 0 rfl ?_
  refine w_get (i := 2) (T := TX4) (NF := 7) rb (by first | omega | with_reducible rfl) hw_4 rfl (fun _ h => (List.mem_cons_of_mem _ (List.mem_append_left _ (List.mem_append_left _ (List.mem_append_right _ h))))) (by decide) (List.mem_of_getElem? (i := 3) rfl) rfl dX4_lookAt_23 ?_
  refine w_lcmp_gt 74 dX4_lookAt_26 dX4_lookAt_27 (by decide) (by first | omega | with_reducible rfl) (by first | omega | with_reducible rfl) (fun c_26 => ?_) (fun c_26 => ?_)
  · refine w_lload_n dX4_lookAt_74 rfl 3 rfl ?_
    refine w_aload_n dX4_lookAt_75 rfl 0 rfl ?_
    refine w_get (i := 1) (T := TX4) (NF := 7) rb (by first | omega | with_reducible rfl) hw_4 rfl (fun _ h => (List.mem_cons_of_mem _ (List.mem_append_left _ (List.mem_append_left _ (List.mem_append_right _ h))))) (by decide) (List.mem_of_getElem? (i := 2) rfl) rfl dX4_lookAt_76 ?_
    refine w_iconst dX4_lookAt_79 ?_
    refine w_iload_n dX4_lookAt_80 rfl 1 rfl ?_
    refine w_iload_n dX4_lookAt_81 rfl 2 rfl ?_
    refine w_calll (As := [.int (zI 3), .int (zI ((j : Nat) : Int)), .int (zI ((a : Nat) : Int))]) (rest := [.long (zJ w)]) (n := 3) (c_X2_at hn_5 (by first | omega | with_reducible rfl) (by first | omega | with_reducible rfl) (by first | omega | with_reducible rfl) (by first | omega | with_reducible rfl)) gX4_lookAt_X2_at rfl rfl rfl (by decide +kernel) ⟨Nat.le_of_ble_eq_true rfl, Nat.le_of_ble_eq_true rfl⟩ rfl (by first | omega | with_reducible rfl) hn_5.1 rfl (Nat.le_of_ble_eq_true rfl) ⟨Nat.zero_le _, Nat.zero_le _⟩ dX4_lookAt_82 rfl (fun g_10 hp_11 => ?_)
    subst g_10
    refine w_as (st' := [.long (zJ (sh (clL T V j 0) (R - a))), .long (zJ w)]) (sc_l (NF_at (kd := 3) hNF hth hjm (by omega) hR (by omega) (by omega) rfl) rfl) ?_
    refine w_lmul dX4_lookAt_85 ?_
    refine w_aload_n dX4_lookAt_86 rfl 0 rfl ?_
    refine w_get (i := 2) (T := TX4) (NF := 7) rb (by first | omega | with_reducible rfl) hw_4 rfl (fun _ h => (List.mem_cons_of_mem _ (List.mem_append_left _ (List.mem_append_left _ (List.mem_append_right _ h))))) (by decide) (List.mem_of_getElem? (i := 3) rfl) rfl dX4_lookAt_87 ?_
    refine w_lcmp_gt 101 dX4_lookAt_90 dX4_lookAt_91 (by decide) (by first | omega | with_reducible rfl) (by first | omega | with_reducible rfl) (fun c_90 => ?_) (fun c_90 => ?_)
    · exact w_vret dX4_lookAt_101 rfl ⟨(by have h9 := hw_4; first | (obtain ⟨e0, e1, e2⟩ := la_yes (s := sw) (cs := (clL T V j 0)) (r := R - a) (w := w) (by omega); rw [e0, e1, e2]; exact h9) | (obtain ⟨e0, e1, e2⟩ := la_walk (s := sw) (cs := (clL T V j 0)) (r := R - a) (w := w) (by omega) (by omega); rw [e0, e1, e2, ← Int.add_assoc]; exact h9) | (obtain ⟨e0, e1, e2⟩ := la_no (s := sw) (cs := (clL T V j 0)) (r := R - a) (w := w) (by omega) (by omega); rw [e0, e1, e2, Int.add_zero, Int.add_zero]; exact h9)), hfr_7⟩
    · exfalso; exact c_90 c_26
  · refine w_aload_n dX4_lookAt_30 rfl 0 rfl ?_
    refine w_dup dX4_lookAt_31 rfl ?_
    refine w_get (i := 3) (T := TX4) (NF := 7) rb (by first | omega | with_reducible rfl) hw_4 rfl (fun _ h => (List.mem_cons_of_mem _ (List.mem_append_left _ (List.mem_append_left _ (List.mem_append_right _ h))))) (by decide) (List.mem_of_getElem? (i := 4) rfl) rfl dX4_lookAt_32 ?_
    refine w_lload_n dX4_lookAt_35 rfl 3 rfl ?_
    refine w_aload_n dX4_lookAt_36 rfl 0 rfl ?_
    refine w_get (i := 1) (T := TX4) (NF := 7) rb (by first | omega | with_reducible rfl) hw_4 rfl (fun _ h => (List.mem_cons_of_mem _ (List.mem_append_left _ (List.mem_append_left _ (List.mem_append_right _ h))))) (by decide) (List.mem_of_getElem? (i := 2) rfl) rfl dX4_lookAt_37 ?_
    refine w_iconst dX4_lookAt_40 ?_
    refine w_iload_n dX4_lookAt_41 rfl 1 rfl ?_
    refine w_iload_n dX4_lookAt_42 rfl 2 rfl ?_
    refine w_calll (As := [.int (zI 1), .int (zI ((j : Nat) : Int)), .int (zI ((a : Nat) : Int))]) (rest := [.long (zJ w), .long (zJ rw), .ref (B + rb)]) (n := 3) (c_X2_at hn_5 (by first | omega | with_reducible rfl) (by first | omega | with_reducible rfl) (by first | omega | with_reducible rfl) (by first | omega | with_reducible rfl)) gX4_lookAt_X2_at rfl rfl rfl (by decide +kernel) ⟨Nat.le_of_ble_eq_true rfl, Nat.le_of_ble_eq_true rfl⟩ rfl (by first | omega | with_reducible rfl) hn_5.1 rfl (Nat.le_of_ble_eq_true rfl) ⟨Nat.zero_le _, Nat.zero_le _⟩ dX4_lookAt_43 rfl (fun g_12 hp_13 => ?_)
    subst g_12
    refine w_as (st' := [.long (zJ (bh (clL T V j 0) (R - a))), .long (zJ w), .long (zJ rw), .ref (B + rb)]) (sc_l (NF_at (kd := 1) hNF hth hjm (by omega) hR (by omega) (by omega) rfl) rfl) ?_
    refine w_lmul dX4_lookAt_46 ?_
    refine w_ladd dX4_lookAt_47 ?_
    refine w_put (i := 3) (T := TX4) (NF := 7) rb (by first | omega | with_reducible rfl) hw_4 rfl (fun _ h => (List.mem_cons_of_mem _ (List.mem_append_left _ (List.mem_append_left _ (List.mem_append_right _ h))))) tyX4 tyX4_ok nmX4 (by decide) (List.mem_of_getElem? (i := 4) rfl) rfl rfl rfl (Nat.le_of_ble_eq_true rfl) dX4_lookAt_48 (fun g_14 he_15 hn_16 => ?_)
    have hw_17 : vRare cy B g_14 rb cb nb sw (rw + (w * (bh (clL T V j 0) (R - a)))) rt (lc + 1) rver := he_15
    have hn_18 : vNet cy B g_14 nb cb tf ((R : Nat) : Int) nver G := vNet_fr hn_5 (fun q h1 h2 => hn_16 q (by omega))
    have hc_19 : vCol cy B g_14 cb sets n cver T X V Wy := vCol_fr hc_6 (fun q h1 h2 => hn_16 q (by omega))
    have hfr_20 : ∀ q, (q < rb ∨ rb + 1 ≤ q) → g_14 q = g q := fun q hq => (hn_16 q (by omega)).trans (hfr_7 q hq)
    refine w_aload_n dX4_lookAt_51 rfl 0 rfl ?_
    refine w_dup dX4_lookAt_52 rfl ?_
    refine w_get (i := 4) (T := TX4) (NF := 7) rb (by first | omega | with_reducible rfl) hw_17 rfl (fun _ h => (List.mem_cons_of_mem _ (List.mem_append_left _ (List.mem_append_left _ (List.mem_append_right _ h))))) (by decide) (List.mem_of_getElem? (i := 5) rfl) rfl dX4_lookAt_53 ?_
    refine w_aload_n dX4_lookAt_56 rfl 0 rfl ?_
    refine w_get (i := 1) (T := TX4) (NF := 7) rb (by first | omega | with_reducible rfl) hw_17 rfl (fun _ h => (List.mem_cons_of_mem _ (List.mem_append_left _ (List.mem_append_left _ (List.mem_append_right _ h))))) (by decide) (List.mem_of_getElem? (i := 2) rfl) rfl dX4_lookAt_57 ?_
    refine w_iconst dX4_lookAt_60 ?_
    refine w_iload_n dX4_lookAt_61 rfl 1 rfl ?_
    refine w_iload_n dX4_lookAt_62 rfl 2 rfl ?_
    refine w_calll (As := [.int (zI 4), .int (zI ((j : Nat) : Int)), .int (zI ((a : Nat) : Int))]) (rest := [.int (zI rt), .ref (B + rb)]) (n := 3) (c_X2_at hn_18 (by first | omega | with_reducible rfl) (by first | omega | with_reducible rfl) (by first | omega | with_reducible rfl) (by first | omega | with_reducible rfl)) gX4_lookAt_X2_at rfl rfl rfl (by decide +kernel) ⟨Nat.le_of_ble_eq_true rfl, Nat.le_of_ble_eq_true rfl⟩ rfl (by first | omega | with_reducible rfl) hn_18.1 rfl (Nat.le_of_ble_eq_true rfl) ⟨Nat.zero_le _, Nat.zero_le _⟩ dX4_lookAt_63 rfl (fun g_21 hp_22 => ?_)
    subst g_21
    refine w_as (st' := [.long (zJ (tc (clL T V j 0) (R - a))), .int (zI rt), .ref (B + rb)]) (sc_l (NF_at (kd := 4) hNF hth hjm (by omega) hR (by omega) (by omega) rfl) rfl) ?_
    refine w_l2i dX4_lookAt_66 (by first | omega | with_reducible rfl) ?_
    refine w_iadd dX4_lookAt_67 ?_
    refine w_put (i := 4) (T := TX4) (NF := 7) rb (by first | omega | with_reducible rfl) hw_17 rfl (fun _ h => (List.mem_cons_of_mem _ (List.mem_append_left _ (List.mem_append_left _ (List.mem_append_right _ h))))) tyX4 tyX4_ok nmX4 (by decide) (List.mem_of_getElem? (i := 5) rfl) rfl rfl rfl (Nat.le_of_ble_eq_true rfl) dX4_lookAt_68 (fun g_23 he_24 hn_25 => ?_)
    have hw_26 : vRare cy B g_23 rb cb nb sw (rw + (w * (bh (clL T V j 0) (R - a)))) (rt + (tc (clL T V j 0) (R - a))) (lc + 1) rver := he_24
    have hn_27 : vNet cy B g_23 nb cb tf ((R : Nat) : Int) nver G := vNet_fr hn_18 (fun q h1 h2 => hn_25 q (by omega))
    have hc_28 : vCol cy B g_23 cb sets n cver T X V Wy := vCol_fr hc_19 (fun q h1 h2 => hn_25 q (by omega))
    have hfr_29 : ∀ q, (q < rb ∨ rb + 1 ≤ q) → g_23 q = g q := fun q hq => (hn_25 q (by omega)).trans (hfr_20 q hq)
    refine w_goto 101 dX4_lookAt_71 (by decide) ?_
    exact w_vret dX4_lookAt_101 rfl ⟨(by have h9 := hw_26; first | (obtain ⟨e0, e1, e2⟩ := la_yes (s := sw) (cs := (clL T V j 0)) (r := R - a) (w := w) (by omega); rw [e0, e1, e2]; exact h9) | (obtain ⟨e0, e1, e2⟩ := la_walk (s := sw) (cs := (clL T V j 0)) (r := R - a) (w := w) (by omega) (by omega); rw [e0, e1, e2, ← Int.add_assoc]; exact h9) | (obtain ⟨e0, e1, e2⟩ := la_no (s := sw) (cs := (clL T V j 0)) (r := R - a) (w := w) (by omega) (by omega); rw [e0, e1, e2, Int.add_zero, Int.add_zero]; exact h9)), hfr_29⟩
set_option maxHeartbeats 4000000 in
set_option maxRecDepth 100000 in
theorem c_X4_walkFrom_1 {l : Launch} {D : va_G} {cy : Nat → ClassId} {B N : Nat} {g : Nat → va_E} {rb : Nat} {sw rw rt lc rver : Int} {nb cb : Nat} {tf : Int → Int} {nver : Int} {G : Nat → Int → Int} {sets n R : Nat} {cver : Int} {T X V : Int → Int} {Wy : Nat → Int → Int} {j a : Nat} {w : Int} (hw : vRare cy B g rb cb nb sw rw rt lc rver) (hn : vNet cy B g nb cb tf ((R : Nat) : Int) nver G) (hc : vCol cy B g cb sets n cver T X V Wy) (hRB : rb + 1 ≤ N) (hd1 : rb + 1 ≤ nb ∨ nb + 11 ≤ rb) (hd2 : rb + 1 ≤ cb ∨ cb + 10 ≤ rb) (hNB : nb + 11 ≤ N) (hCB : cb + 10 ≤ N) (hok : okT T V n) (hR : R ≤ 60) (hNF : NF T V n R G) (htf : ∀ j : Nat, j ≤ 5 → tf ((j : Nat) : Int) = ((tsum (clL T V j (n - j)) : Nat) : Int)) (hWy : ∀ j : Nat, j < n → ∀ x : Nat, x ≤ 12 → Wy j ((x : Nat) : Int) = ((ch (T ((j : Nat) : Int)).toNat x : Nat) : Int)) (hsw : 0 ≤ sw ∧ sw ≤ 1152921504606846976) (hjm : j + 1 = n) (hth : thr T V n R j a) (hwk : wok w (clL T V j 1)) : CTv l yX4_walkFrom wsX4_walkFrom (rmo 2 62) D cy B N g [.ref (B + rb), .int (zI ((j : Nat) : Int)), .int (zI ((a : Nat) : Int)), .long (zJ w)] (fun g' => vRare cy B g' rb cb nb sw (rw + rk 0 sw (clL T V j 1) (R - a) w) (rt + rk 1 sw (clL T V j 1) (R - a) w) (lc + rk 2 sw (clL T V j 1) (R - a) w) rver ∧ (∀ q, (q < rb ∨ rb + 1 ≤ q) → g' q = g q)) := by
  refine WW_of (cc := cX4_walkFrom) (maxL := 7) (ret := none) (own := RX4) (by decide) rfl rfl (Nat.le_of_ble_eq_true rfl) rfl ?_
  intro pp ee ss mm bl me co hmn
  have hfr_0 : ∀ q, (q < rb ∨ rb + 1 ≤ q) → g q = g q := fun _ _ => rfl
  have hn5 : n ≤ 5 := hok.1
  have htR := hth.2.1
  have hq1 := hok.2 ((j : Nat) : Int) (by omega) (by omega)
  have ht3 : tf (((j : Nat) : Int) + 1) = ((tsum (clL T V (j + 1) 0) : Nat) : Int) := by
    have h9 := htf (j + 1) (by omega)
    rw [show n - (j + 1) = 0 by omega] at h9
    exact h9
  have htfr : ∀ i : Int, 0 ≤ i → i ≤ 5 → 0 ≤ tf i ∧ tf i ≤ 60 := fun i h1 h2 => by
    obtain ⟨k, rfl⟩ := Int.eq_ofNat_of_zero_le h1
    have h3 := htf k (by omega)
    by_cases hk : k ≤ n
    · have h4 := okT_ts hok (m := n - k) (j := k) (by omega)
      omega
    · rw [show n - k = 0 by omega] at h3
      rw [clL, tsum] at h3
      omega
  have hts := thr_ts hth hjm
  have hts2 : tsum (clL T V j 1) = (T ((j : Nat) : Int)).toNat + tsum (clL T V (j + 1) 0) := rfl
  refine w_aload_n dX4_walkFrom_0 rfl 0 rfl ?_
  refine w_get (i := 0) (T := TX4) (NF := 7) rb (by first | omega | with_reducible rfl) hw rfl (fun _ h => (List.mem_cons_of_mem _ (List.mem_append_left _ (List.mem_append_left _ (List.mem_append_right _ h))))) (by decide) (List.mem_of_getElem? (i := 1) rfl) rfl dX4_walkFrom_1 ?_
  refine w_iload_n dX4_walkFrom_4 rfl 1 rfl ?_
  refine w_calli (As := [.int (zI ((j : Nat) : Int))]) (rest := []) (n := 1) (c_X0_has hc (by first | omega | with_reducible rfl) (by first | omega | with_reducible rfl) (by first | omega | with_reducible rfl)) gX4_walkFrom_X0_has rfl rfl rfl (by decide +kernel) ⟨Nat.le_of_ble_eq_true rfl, Nat.le_of_ble_eq_true rfl⟩ rfl (by first | omega | with_reducible rfl) hc.1 rfl (Nat.le_of_ble_eq_true rfl) ⟨Nat.zero_le _, Nat.zero_le _⟩ dX4_walkFrom_5 rfl (fun g_1 hp_2 => ?_)
  subst g_1
  refine w_ifneB 12 dX4_walkFrom_8 (by decide) (fun c_8 => ?_) (fun c_8 => ?_)
  · refine w_aload_n dX4_walkFrom_12 rfl 0 rfl ?_
    refine w_get (i := 1) (T := TX4) (NF := 7) rb (by first | omega | with_reducible rfl) hw rfl (fun _ h => (List.mem_cons_of_mem _ (List.mem_append_left _ (List.mem_append_left _ (List.mem_append_right _ h))))) (by decide) (List.mem_of_getElem? (i := 2) rfl) rfl dX4_walkFrom_13 ?_
    refine w_iload_n dX4_walkFrom_16 rfl 1 rfl ?_
    refine w_iload_n dX4_walkFrom_17 rfl 2 rfl ?_
    refine w_calli (As := [.int (zI ((j : Nat) : Int)), .int (zI ((a : Nat) : Int))]) (rest := []) (n := 2) (c_X2_most hn hc (by first | omega | with_reducible rfl) (by first | omega | with_reducible rfl) hn5 (by omega) (by omega) (by first | omega | with_reducible rfl) (by first | omega | with_reducible rfl)) gX4_walkFrom_X2_most rfl rfl rfl (by decide +kernel) ⟨Nat.le_of_ble_eq_true rfl, Nat.le_of_ble_eq_true rfl⟩ rfl (by first | omega | with_reducible rfl) hn.1 rfl (Nat.le_of_ble_eq_true rfl) ⟨Nat.zero_le _, Nat.zero_le _⟩ dX4_walkFrom_18 rfl (fun g_3 hp_4 => ?_)
    subst g_3
    refine w_as (st' := [.int (zI ((min (T ((j : Nat) : Int)).toNat (R - a) : Nat) : Int))]) (sc_i (by first | omega | with_reducible rfl) rfl) ?_
    refine w_istore [(5, .int (zI ((min (T ((j : Nat) : Int)).toNat (R - a) : Nat) : Int))), (0, .ref (B + rb)), (1, .int (zI ((j : Nat) : Int))), (2, .int (zI ((a : Nat) : Int))), (3, .long (zJ w))] dX4_walkFrom_21 (by decide) rfl ?_
    refine w_aload_n dX4_walkFrom_23 rfl 1 rfl ?_
    refine w_get (i := 1) (T := TX4) (NF := 7) rb (by first | omega | with_reducible rfl) hw rfl (fun _ h => (List.mem_cons_of_mem _ (List.mem_append_left _ (List.mem_append_left _ (List.mem_append_right _ h))))) (by decide) (List.mem_of_getElem? (i := 2) rfl) rfl dX4_walkFrom_24 ?_
    refine w_iload_n dX4_walkFrom_27 rfl 2 rfl ?_
    refine w_iload_n dX4_walkFrom_28 rfl 3 rfl ?_
    refine w_calli (As := [.int (zI ((j : Nat) : Int)), .int (zI ((a : Nat) : Int))]) (rest := []) (n := 2) (c_X2_fewest hn (by first | omega | with_reducible rfl) (by omega) htfr (by first | omega | with_reducible rfl) (by first | omega | with_reducible rfl)) gX4_walkFrom_X2_fewest rfl rfl rfl (by decide +kernel) ⟨Nat.le_of_ble_eq_true rfl, Nat.le_of_ble_eq_true rfl⟩ rfl (by first | omega | with_reducible rfl) hn.1 rfl (Nat.le_of_ble_eq_true rfl) ⟨Nat.zero_le _, Nat.zero_le _⟩ dX4_walkFrom_29 rfl (fun g_5 hp_6 => ?_)
    subst g_5
    refine w_as (st' := [.int (zI (((lo (clL T V (j + 1) 0) (R - a)) : Nat) : Int))]) (sc_i (by rw [ht3]; unfold lo; omega) rfl) ?_
    refine w_istore [(6, .int (zI (((lo (clL T V (j + 1) 0) (R - a)) : Nat) : Int))), (5, .int (zI ((min (T ((j : Nat) : Int)).toNat (R - a) : Nat) : Int))), (0, .ref (B + rb)), (1, .int (zI ((j : Nat) : Int))), (2, .int (zI ((a : Nat) : Int))), (3, .long (zJ w))] dX4_walkFrom_32 (by decide) rfl ?_
    refine w_sub [(0, .ref (B + rb)), (1, .int (zI ((j : Nat) : Int))), (2, .int (zI ((a : Nat) : Int))), (3, .long (zJ w)), (5, .int (zI ((min (T ((j : Nat) : Int)).toNat (R - a) : Nat) : Int))), (6, .int (zI (((lo (clL T V (j + 1) 0) (R - a)) : Nat) : Int)))] [2, 3, 4, 5, 1, 0] rfl ?_
    refine w_lv (lv' := [(0, .ref (B + rb)), (1, .int (zI ((j : Nat) : Int))), (2, .int (zI ((a : Nat) : Int))), (3, .long (zJ w)), (5, .int (zI ((min (T ((j : Nat) : Int)).toNat (R - a) : Nat) : Int))), (6, .int (zI ((((lo (clL T V (j + 1) 0) (R - a)) + 0) : Nat) : Int)))]) (lc_s (lc_s (lc_s (lc_s (lc_s (lc_i (by first | omega | with_reducible rfl) rfl)))))) ?_
    refine w_loop2 (fun (k : Nat) (gl_7 : (Nat → va_E)) => vRare cy B gl_7 rb cb nb sw (rw + (srN (rf 0 sw ((T ((j : Nat) : Int)).toNat, (V ((j : Nat) : Int)).toNat) (clL T V (j + 1) 0) (R - a) w) (lo (clL T V (j + 1) 0) (R - a)) k)) (rt + (srN (rf 1 sw ((T ((j : Nat) : Int)).toNat, (V ((j : Nat) : Int)).toNat) (clL T V (j + 1) 0) (R - a) w) (lo (clL T V (j + 1) 0) (R - a)) k)) (lc + (srN (rf 2 sw ((T ((j : Nat) : Int)).toNat, (V ((j : Nat) : Int)).toNat) (clL T V (j + 1) 0) (R - a) w) (lo (clL T V (j + 1) 0) (R - a)) k)) rver ∧ vNet cy B gl_7 nb cb tf ((R : Nat) : Int) nver G ∧ vCol cy B gl_7 cb sets n cver T X V Wy ∧ (∀ q, (q < rb ∨ rb + 1 ≤ q) → gl_7 q = g q) ∧ k ≤ nn ((T ((j : Nat) : Int)).toNat, (V ((j : Nat) : Int)).toNat) (clL T V (j + 1) 0) (R - a)) (fun (k : Nat) (gl_7 : (Nat → va_E)) => nn ((T ((j : Nat) : Int)).toNat, (V ((j : Nat) : Int)).toNat) (clL T V (j + 1) 0) (R - a) - k) (fun (k : Nat) (gl_7 : (Nat → va_E)) => gl_7) (fun (k : Nat) (gl_7 : (Nat → va_E)) => [(0, .ref (B + rb)), (1, .int (zI ((j : Nat) : Int))), (2, .int (zI ((a : Nat) : Int))), (3, .long (zJ w)), (5, .int (zI ((min (T ((j : Nat) : Int)).toNat (R - a) : Nat) : Int))), (6, .int (zI ((((lo (clL T V (j + 1) 0) (R - a)) + k) : Nat) : Int)))]) ?_ 0 g ⟨(by have h9 := hw; simp only [srN, Int.add_zero]; exact h9), hn, hc, hfr_0, (Nat.zero_le _)⟩
    rintro k gl_7 ⟨hw_8, hn_9, hc_10, hfr_11, hk⟩ ih_34
    have hlo : lo (clL T V (j + 1) 0) (R - a) ≤ R - a ∧ nn ((T ((j : Nat) : Int)).toNat, (V ((j : Nat) : Int)).toNat) (clL T V (j + 1) 0) (R - a) ≤ 13 := by unfold lo nn; omega
    refine w_iload dX4_walkFrom_34 5 rfl ?_
    refine w_iload dX4_walkFrom_36 4 rfl ?_
    refine w_icmp_gt 70 dX4_walkFrom_38 (by decide) (by first | omega | with_reducible rfl) (by first | omega | with_reducible rfl) (fun c_38 => ?_) (fun c_38 => ?_)
    · have hk9 : k = nn ((T ((j : Nat) : Int)).toNat, (V ((j : Nat) : Int)).toNat) (clL T V (j + 1) 0) (R - a) := by unfold lo nn at *; omega
      exact w_vret dX4_walkFrom_70 rfl ⟨(by have h9 := hw_8; rw [hk9] at h9; exact h9), hfr_11⟩
    · have hx : lo (clL T V (j + 1) 0) (R - a) + k ≤ (T ((j : Nat) : Int)).toNat := by omega
      refine w_aload_n dX4_walkFrom_41 rfl 0 rfl ?_
      refine w_iload_n dX4_walkFrom_42 rfl 1 rfl ?_
      refine w_iconst dX4_walkFrom_43 ?_
      refine w_iadd dX4_walkFrom_44 ?_
      refine w_iload_n dX4_walkFrom_45 rfl 2 rfl ?_
      refine w_iload dX4_walkFrom_46 5 rfl ?_
      refine w_iadd dX4_walkFrom_48 ?_
      refine w_lload_n dX4_walkFrom_49 rfl 3 rfl ?_
      refine w_aload_n dX4_walkFrom_50 rfl 0 rfl ?_
      refine w_get (i := 0) (T := TX4) (NF := 7) rb (by first | omega | with_reducible rfl) hw_8 rfl (fun _ h => (List.mem_cons_of_mem _ (List.mem_append_left _ (List.mem_append_left _ (List.mem_append_right _ h))))) (by decide) (List.mem_of_getElem? (i := 1) rfl) rfl dX4_walkFrom_51 ?_
      refine w_iload_n dX4_walkFrom_54 rfl 1 rfl ?_
      refine w_iload dX4_walkFrom_55 5 rfl ?_
      refine w_calll (As := [.int (zI ((j : Nat) : Int)), .int (zI ((((lo (clL T V (j + 1) 0) (R - a)) + k) : Nat) : Int))]) (rest := [.long (zJ w), .int (zI (((a : Nat) : Int) + ((((lo (clL T V (j + 1) 0) (R - a)) + k) : Nat) : Int))), .int (zI (((j : Nat) : Int) + 1)), .ref (B + rb)]) (n := 2) (c_X0_waysOf hc_10 (by first | omega | with_reducible rfl) (by first | omega | with_reducible rfl) (by first | omega | with_reducible rfl) (by first | omega | with_reducible rfl)) gX4_walkFrom_X0_waysOf rfl rfl rfl (by decide +kernel) ⟨Nat.le_of_ble_eq_true rfl, Nat.le_of_ble_eq_true rfl⟩ rfl (by first | omega | with_reducible rfl) hc_10.1 rfl (Nat.le_of_ble_eq_true rfl) ⟨Nat.zero_le _, Nat.zero_le _⟩ dX4_walkFrom_57 rfl (fun g_12 hp_13 => ?_)
      subst g_12
      refine w_as (st' := [.long (zJ ((ch (T ((j : Nat) : Int)).toNat (lo (clL T V (j + 1) 0) (R - a) + k) : Nat) : Int)), .long (zJ w), .int (zI (((a : Nat) : Int) + ((((lo (clL T V (j + 1) 0) (R - a)) + k) : Nat) : Int))), .int (zI (((j : Nat) : Int) + 1)), .ref (B + rb)]) (sc_l (by rw [wyA_in (by omega), Int.toNat_natCast]; exact hWy _ (by omega) _ (by omega)) rfl) ?_
      refine w_lmul dX4_walkFrom_60 ?_
      refine w_as (st' := [.long (zJ (w * ((ch (T ((j : Nat) : Int)).toNat (lo (clL T V (j + 1) 0) (R - a) + k) : Nat) : Int))), .int (zI (((a + (lo (clL T V (j + 1) 0) (R - a) + k)) : Nat) : Int)), .int (zI (((j + 1) : Nat) : Int)), .ref (B + rb)]) (lc_s (sc_i (by first | omega | with_reducible rfl) (sc_i (by first | omega | with_reducible rfl) rfl))) ?_
      refine w_callv (As := [.int (zI (((j + 1) : Nat) : Int)), .int (zI (((a + (lo (clL T V (j + 1) 0) (R - a) + k)) : Nat) : Int)), .long (zJ (w * ((ch (T ((j : Nat) : Int)).toNat (lo (clL T V (j + 1) 0) (R - a) + k) : Nat) : Int)))]) (rest := []) (n := 3) (c_X4_lookAt_0 (j := (j + 1)) (a := (a + (lo (clL T V (j + 1) 0) (R - a) + k))) hw_8 hn_9 hc_10 (by first | omega | with_reducible rfl) (by first | omega | with_reducible rfl) (by first | omega | with_reducible rfl) (by first | omega | with_reducible rfl) (by first | omega | with_reducible rfl) hok (by first | omega | with_reducible rfl) hNF htf hWy (by first | omega | with_reducible rfl) (by first | omega | with_reducible rfl) (thr_next hth hjm (by omega) hx (by omega)) (wok_c (c := ((T ((j : Nat) : Int)).toNat, (V ((j : Nat) : Int)).toNat)) (cs := (clL T V (j + 1) 0)) hwk _)) gX4_walkFrom_X4_lookAt rfl rfl rfl (by decide +kernel) ⟨Nat.le_of_ble_eq_true rfl, Nat.le_of_ble_eq_true rfl⟩ rfl (by first | omega | with_reducible rfl) hw_8 rfl (Nat.le_of_ble_eq_true rfl) ⟨Nat.zero_le _, Nat.zero_le _⟩ dX4_walkFrom_61 rfl (fun g_14 hp_15 => ?_)
      obtain ⟨hw_16, hf_17⟩ := hp_15
      have hn_18 : vNet cy B g_14 nb cb tf ((R : Nat) : Int) nver G := vNet_fr hn_9 (fun q h1 h2 => hf_17 q (by omega))
      have hc_19 : vCol cy B g_14 cb sets n cver T X V Wy := vCol_fr hc_10 (fun q h1 h2 => hf_17 q (by omega))
      have hfr_20 : ∀ q, (q < rb ∨ rb + 1 ≤ q) → g_14 q = g q := fun q hq => (hf_17 q (by omega)).trans (hfr_11 q hq)
      refine w_iinc 5 [(6, .int (zI (((((lo (clL T V (j + 1) 0) (R - a)) + k) : Nat) : Int) + 1))), (0, .ref (B + rb)), (1, .int (zI ((j : Nat) : Int))), (2, .int (zI ((a : Nat) : Int))), (3, .long (zJ w)), (5, .int (zI ((min (T ((j : Nat) : Int)).toNat (R - a) : Nat) : Int)))] dX4_walkFrom_64 rfl (by decide) rfl ?_
      refine w_goto 34 dX4_walkFrom_67 (by decide) ?_
      refine w_sub [(0, .ref (B + rb)), (1, .int (zI ((j : Nat) : Int))), (2, .int (zI ((a : Nat) : Int))), (3, .long (zJ w)), (5, .int (zI ((min (T ((j : Nat) : Int)).toNat (R - a) : Nat) : Int))), (6, .int (zI (((((lo (clL T V (j + 1) 0) (R - a)) + k) : Nat) : Int) + 1)))] [1, 2, 3, 4, 5, 0] rfl ?_
      refine w_lv (lv' := [(0, .ref (B + rb)), (1, .int (zI ((j : Nat) : Int))), (2, .int (zI ((a : Nat) : Int))), (3, .long (zJ w)), (5, .int (zI ((min (T ((j : Nat) : Int)).toNat (R - a) : Nat) : Int))), (6, .int (zI ((((lo (clL T V (j + 1) 0) (R - a)) + (k + 1)) : Nat) : Int)))]) (lc_s (lc_s (lc_s (lc_s (lc_s (lc_i (by first | omega | with_reducible rfl) rfl)))))) ?_
      exact ih_34 (k + 1) g_14 ⟨(by have h9 := hw_16; rw [st_rf, st_rf, st_rf] at h9; exact h9), hn_18, hc_19, hfr_20, (by unfold lo nn at *; omega)⟩ (by unfold lo nn at *; omega)
  · exfalso; omega
set_option maxHeartbeats 4000000 in
set_option maxRecDepth 100000 in
theorem c_X4_lookAt_1 {l : Launch} {D : va_G} {cy : Nat → ClassId} {B N : Nat} {g : Nat → va_E} {rb : Nat} {sw rw rt lc rver : Int} {nb cb : Nat} {tf : Int → Int} {nver : Int} {G : Nat → Int → Int} {sets n R : Nat} {cver : Int} {T X V : Int → Int} {Wy : Nat → Int → Int} {j a : Nat} {w : Int} (hw : vRare cy B g rb cb nb sw rw rt lc rver) (hn : vNet cy B g nb cb tf ((R : Nat) : Int) nver G) (hc : vCol cy B g cb sets n cver T X V Wy) (hRB : rb + 1 ≤ N) (hd1 : rb + 1 ≤ nb ∨ nb + 11 ≤ rb) (hd2 : rb + 1 ≤ cb ∨ cb + 10 ≤ rb) (hNB : nb + 11 ≤ N) (hCB : cb + 10 ≤ N) (hok : okT T V n) (hR : R ≤ 60) (hNF : NF T V n R G) (htf : ∀ j : Nat, j ≤ 5 → tf ((j : Nat) : Int) = ((tsum (clL T V j (n - j)) : Nat) : Int)) (hWy : ∀ j : Nat, j < n → ∀ x : Nat, x ≤ 12 → Wy j ((x : Nat) : Int) = ((ch (T ((j : Nat) : Int)).toNat x : Nat) : Int)) (hsw : 0 ≤ sw ∧ sw ≤ 1152921504606846976) (hjm : j + 1 = n) (hth : thr T V n R j a) (hwk : wok w (clL T V j 1)) : CTv l yX4_lookAt wsX4_lookAt (rmo 3 88) D cy B N g [.ref (B + rb), .int (zI ((j : Nat) : Int)), .int (zI ((a : Nat) : Int)), .long (zJ w)] (fun g' => vRare cy B g' rb cb nb sw (rw + la 0 sw (clL T V j 1) (R - a) w) (rt + la 1 sw (clL T V j 1) (R - a) w) (lc + la 2 sw (clL T V j 1) (R - a) w) rver ∧ (∀ q, (q < rb ∨ rb + 1 ≤ q) → g' q = g q)) := by
  refine WW_of (cc := cX4_lookAt) (maxL := 5) (ret := none) (own := RX4) (by decide) rfl rfl (Nat.le_of_ble_eq_true rfl) rfl ?_
  intro pp ee ss mm bl me co hmn
  have hfr_0 : ∀ q, (q < rb ∨ rb + 1 ≤ q) → g q = g q := fun _ _ => rfl
  have hn5 : n ≤ 5 := hok.1
  have htR := hth.2.1
  have hwl := wok_lg hwk (R - a)
  have hws := wok_sh hwk (thr_ts hth hjm)
  have htc := tc_rg (r := R - a) hok (show j + 1 ≤ n by omega)
  refine w_aload_n dX4_lookAt_0 rfl 0 rfl ?_
  refine w_dup dX4_lookAt_1 rfl ?_
  refine w_get (i := 5) (T := TX4) (NF := 7) rb (by first | omega | with_reducible rfl) hw rfl (fun _ h => (List.mem_cons_of_mem _ (List.mem_append_left _ (List.mem_append_left _ (List.mem_append_right _ h))))) (by decide) (List.mem_of_getElem? (i := 1) rfl) rfl dX4_lookAt_2 ?_
  refine w_iconst dX4_lookAt_5 ?_
  refine w_iadd dX4_lookAt_6 ?_
  refine w_put (i := 5) (T := TX4) (NF := 7) rb (by first | omega | with_reducible rfl) hw rfl (fun _ h => (List.mem_cons_of_mem _ (List.mem_append_left _ (List.mem_append_left _ (List.mem_append_right _ h))))) tyX4 tyX4_ok nmX4 (by decide) (List.mem_of_getElem? (i := 1) rfl) rfl rfl rfl (Nat.le_of_ble_eq_true rfl) dX4_lookAt_7 (fun g_1 he_2 hn_3 => ?_)
  have hw_4 : vRare cy B g_1 rb cb nb sw rw rt (lc + 1) rver := he_2
  have hn_5 : vNet cy B g_1 nb cb tf ((R : Nat) : Int) nver G := vNet_fr hn (fun q h1 h2 => hn_3 q (by omega))
  have hc_6 : vCol cy B g_1 cb sets n cver T X V Wy := vCol_fr hc (fun q h1 h2 => hn_3 q (by omega))
  have hfr_7 : ∀ q, (q < rb ∨ rb + 1 ≤ q) → g_1 q = g q := fun q hq => (hn_3 q (by omega)).trans (hfr_0 q hq)
  refine w_lload_n dX4_lookAt_10 rfl 3 rfl ?_
  refine w_aload_n dX4_lookAt_11 rfl 0 rfl ?_
  refine w_get (i := 1) (T := TX4) (NF := 7) rb (by first | omega | with_reducible rfl) hw_4 rfl (fun _ h => (List.mem_cons_of_mem _ (List.mem_append_left _ (List.mem_append_left _ (List.mem_append_right _ h))))) (by decide) (List.mem_of_getElem? (i := 2) rfl) rfl dX4_lookAt_12 ?_
  refine w_iconst dX4_lookAt_15 ?_
  refine w_iload_n dX4_lookAt_16 rfl 1 rfl ?_
  refine w_iload_n dX4_lookAt_17 rfl 2 rfl ?_
  refine w_calll (As := [.int (zI 2), .int (zI ((j : Nat) : Int)), .int (zI ((a : Nat) : Int))]) (rest := [.long (zJ w)]) (n := 3) (c_X2_at hn_5 (by first | omega | with_reducible rfl) (by first | omega | with_reducible rfl) (by first | omega | with_reducible rfl) (by first | omega | with_reducible rfl)) gX4_lookAt_X2_at rfl rfl rfl (by decide +kernel) ⟨Nat.le_of_ble_eq_true rfl, Nat.le_of_ble_eq_true rfl⟩ rfl (by first | omega | with_reducible rfl) hn_5.1 rfl (Nat.le_of_ble_eq_true rfl) ⟨Nat.zero_le _, Nat.zero_le _⟩ dX4_lookAt_18 rfl (fun g_8 hp_9 => ?_)
  subst g_8
  refine w_as (st' := [.long (zJ (lg (clL T V j 1) (R - a))), .long (zJ w)]) (sc_l (NF_at (kd := 2) hNF hth hjm (by omega) hR (by omega) (by omega) rfl) rfl) ?_
  refine w_lmul dX4_lookAt_21 ?_
  refine w_aload_n dX4_lookAt_22 rfl 0 rfl ?_
  refine w_get (i := 2) (T := TX4) (NF := 7) rb (by first | omega | with_reducible rfl) hw_4 rfl (fun _ h => (List.mem_cons_of_mem _ (List.mem_append_left _ (List.mem_append_left _ (List.mem_append_right _ h))))) (by decide) (List.mem_of_getElem? (i := 3) rfl) rfl dX4_lookAt_23 ?_
  refine w_lcmp_gt 74 dX4_lookAt_26 dX4_lookAt_27 (by decide) (by first | omega | with_reducible rfl) (by first | omega | with_reducible rfl) (fun c_26 => ?_) (fun c_26 => ?_)
  · refine w_lload_n dX4_lookAt_74 rfl 3 rfl ?_
    refine w_aload_n dX4_lookAt_75 rfl 0 rfl ?_
    refine w_get (i := 1) (T := TX4) (NF := 7) rb (by first | omega | with_reducible rfl) hw_4 rfl (fun _ h => (List.mem_cons_of_mem _ (List.mem_append_left _ (List.mem_append_left _ (List.mem_append_right _ h))))) (by decide) (List.mem_of_getElem? (i := 2) rfl) rfl dX4_lookAt_76 ?_
    refine w_iconst dX4_lookAt_79 ?_
    refine w_iload_n dX4_lookAt_80 rfl 1 rfl ?_
    refine w_iload_n dX4_lookAt_81 rfl 2 rfl ?_
    refine w_calll (As := [.int (zI 3), .int (zI ((j : Nat) : Int)), .int (zI ((a : Nat) : Int))]) (rest := [.long (zJ w)]) (n := 3) (c_X2_at hn_5 (by first | omega | with_reducible rfl) (by first | omega | with_reducible rfl) (by first | omega | with_reducible rfl) (by first | omega | with_reducible rfl)) gX4_lookAt_X2_at rfl rfl rfl (by decide +kernel) ⟨Nat.le_of_ble_eq_true rfl, Nat.le_of_ble_eq_true rfl⟩ rfl (by first | omega | with_reducible rfl) hn_5.1 rfl (Nat.le_of_ble_eq_true rfl) ⟨Nat.zero_le _, Nat.zero_le _⟩ dX4_lookAt_82 rfl (fun g_10 hp_11 => ?_)
    subst g_10
    refine w_as (st' := [.long (zJ (sh (clL T V j 1) (R - a))), .long (zJ w)]) (sc_l (NF_at (kd := 3) hNF hth hjm (by omega) hR (by omega) (by omega) rfl) rfl) ?_
    refine w_lmul dX4_lookAt_85 ?_
    refine w_aload_n dX4_lookAt_86 rfl 0 rfl ?_
    refine w_get (i := 2) (T := TX4) (NF := 7) rb (by first | omega | with_reducible rfl) hw_4 rfl (fun _ h => (List.mem_cons_of_mem _ (List.mem_append_left _ (List.mem_append_left _ (List.mem_append_right _ h))))) (by decide) (List.mem_of_getElem? (i := 3) rfl) rfl dX4_lookAt_87 ?_
    refine w_lcmp_gt 101 dX4_lookAt_90 dX4_lookAt_91 (by decide) (by first | omega | with_reducible rfl) (by first | omega | with_reducible rfl) (fun c_90 => ?_) (fun c_90 => ?_)
    · exact w_vret dX4_lookAt_101 rfl ⟨(by have h9 := hw_4; first | (obtain ⟨e0, e1, e2⟩ := la_yes (s := sw) (cs := (clL T V j 1)) (r := R - a) (w := w) (by omega); rw [e0, e1, e2]; exact h9) | (obtain ⟨e0, e1, e2⟩ := la_walk (s := sw) (cs := (clL T V j 1)) (r := R - a) (w := w) (by omega) (by omega); rw [e0, e1, e2, ← Int.add_assoc]; exact h9) | (obtain ⟨e0, e1, e2⟩ := la_no (s := sw) (cs := (clL T V j 1)) (r := R - a) (w := w) (by omega) (by omega); rw [e0, e1, e2, Int.add_zero, Int.add_zero]; exact h9)), hfr_7⟩
    · refine w_aload_n dX4_lookAt_94 rfl 0 rfl ?_
      refine w_iload_n dX4_lookAt_95 rfl 1 rfl ?_
      refine w_iload_n dX4_lookAt_96 rfl 2 rfl ?_
      refine w_lload_n dX4_lookAt_97 rfl 3 rfl ?_
      refine w_callv (As := [.int (zI ((j : Nat) : Int)), .int (zI ((a : Nat) : Int)), .long (zJ w)]) (rest := []) (n := 3) (c_X4_walkFrom_1 (j := j) (a := a) hw_4 hn_5 hc_6 (by first | omega | with_reducible rfl) (by first | omega | with_reducible rfl) (by first | omega | with_reducible rfl) (by first | omega | with_reducible rfl) (by first | omega | with_reducible rfl) hok (by first | omega | with_reducible rfl) hNF htf hWy (by first | omega | with_reducible rfl) (by first | omega | with_reducible rfl) hth hwk) gX4_lookAt_X4_walkFrom rfl rfl rfl (by decide +kernel) ⟨Nat.le_of_ble_eq_true rfl, Nat.le_of_ble_eq_true rfl⟩ rfl (by first | omega | with_reducible rfl) hw_4 rfl (Nat.le_of_ble_eq_true rfl) ⟨Nat.zero_le _, Nat.zero_le _⟩ dX4_lookAt_98 rfl (fun g_12 hp_13 => ?_)
      obtain ⟨hw_14, hf_15⟩ := hp_13
      have hn_16 : vNet cy B g_12 nb cb tf ((R : Nat) : Int) nver G := vNet_fr hn_5 (fun q h1 h2 => hf_15 q (by omega))
      have hc_17 : vCol cy B g_12 cb sets n cver T X V Wy := vCol_fr hc_6 (fun q h1 h2 => hf_15 q (by omega))
      have hfr_18 : ∀ q, (q < rb ∨ rb + 1 ≤ q) → g_12 q = g q := fun q hq => (hf_15 q (by omega)).trans (hfr_7 q hq)
      exact w_vret dX4_lookAt_101 rfl ⟨(by have h9 := hw_14; first | (obtain ⟨e0, e1, e2⟩ := la_yes (s := sw) (cs := (clL T V j 1)) (r := R - a) (w := w) (by omega); rw [e0, e1, e2]; exact h9) | (obtain ⟨e0, e1, e2⟩ := la_walk (s := sw) (cs := (clL T V j 1)) (r := R - a) (w := w) (by omega) (by omega); rw [e0, e1, e2, ← Int.add_assoc]; exact h9) | (obtain ⟨e0, e1, e2⟩ := la_no (s := sw) (cs := (clL T V j 1)) (r := R - a) (w := w) (by omega) (by omega); rw [e0, e1, e2, Int.add_zero, Int.add_zero]; exact h9)), hfr_18⟩
  · refine w_aload_n dX4_lookAt_30 rfl 0 rfl ?_
    refine w_dup dX4_lookAt_31 rfl ?_
    refine w_get (i := 3) (T := TX4) (NF := 7) rb (by first | omega | with_reducible rfl) hw_4 rfl (fun _ h => (List.mem_cons_of_mem _ (List.mem_append_left _ (List.mem_append_left _ (List.mem_append_right _ h))))) (by decide) (List.mem_of_getElem? (i := 4) rfl) rfl dX4_lookAt_32 ?_
    refine w_lload_n dX4_lookAt_35 rfl 3 rfl ?_
    refine w_aload_n dX4_lookAt_36 rfl 0 rfl ?_
    refine w_get (i := 1) (T := TX4) (NF := 7) rb (by first | omega | with_reducible rfl) hw_4 rfl (fun _ h => (List.mem_cons_of_mem _ (List.mem_append_left _ (List.mem_append_left _ (List.mem_append_right _ h))))) (by decide) (List.mem_of_getElem? (i := 2) rfl) rfl dX4_lookAt_37 ?_
    refine w_iconst dX4_lookAt_40 ?_
    refine w_iload_n dX4_lookAt_41 rfl 1 rfl ?_
    refine w_iload_n dX4_lookAt_42 rfl 2 rfl ?_
    refine w_calll (As := [.int (zI 1), .int (zI ((j : Nat) : Int)), .int (zI ((a : Nat) : Int))]) (rest := [.long (zJ w), .long (zJ rw), .ref (B + rb)]) (n := 3) (c_X2_at hn_5 (by first | omega | with_reducible rfl) (by first | omega | with_reducible rfl) (by first | omega | with_reducible rfl) (by first | omega | with_reducible rfl)) gX4_lookAt_X2_at rfl rfl rfl (by decide +kernel) ⟨Nat.le_of_ble_eq_true rfl, Nat.le_of_ble_eq_true rfl⟩ rfl (by first | omega | with_reducible rfl) hn_5.1 rfl (Nat.le_of_ble_eq_true rfl) ⟨Nat.zero_le _, Nat.zero_le _⟩ dX4_lookAt_43 rfl (fun g_19 hp_20 => ?_)
    subst g_19
    refine w_as (st' := [.long (zJ (bh (clL T V j 1) (R - a))), .long (zJ w), .long (zJ rw), .ref (B + rb)]) (sc_l (NF_at (kd := 1) hNF hth hjm (by omega) hR (by omega) (by omega) rfl) rfl) ?_
    refine w_lmul dX4_lookAt_46 ?_
    refine w_ladd dX4_lookAt_47 ?_
    refine w_put (i := 3) (T := TX4) (NF := 7) rb (by first | omega | with_reducible rfl) hw_4 rfl (fun _ h => (List.mem_cons_of_mem _ (List.mem_append_left _ (List.mem_append_left _ (List.mem_append_right _ h))))) tyX4 tyX4_ok nmX4 (by decide) (List.mem_of_getElem? (i := 4) rfl) rfl rfl rfl (Nat.le_of_ble_eq_true rfl) dX4_lookAt_48 (fun g_21 he_22 hn_23 => ?_)
    have hw_24 : vRare cy B g_21 rb cb nb sw (rw + (w * (bh (clL T V j 1) (R - a)))) rt (lc + 1) rver := he_22
    have hn_25 : vNet cy B g_21 nb cb tf ((R : Nat) : Int) nver G := vNet_fr hn_5 (fun q h1 h2 => hn_23 q (by omega))
    have hc_26 : vCol cy B g_21 cb sets n cver T X V Wy := vCol_fr hc_6 (fun q h1 h2 => hn_23 q (by omega))
    have hfr_27 : ∀ q, (q < rb ∨ rb + 1 ≤ q) → g_21 q = g q := fun q hq => (hn_23 q (by omega)).trans (hfr_7 q hq)
    refine w_aload_n dX4_lookAt_51 rfl 0 rfl ?_
    refine w_dup dX4_lookAt_52 rfl ?_
    refine w_get (i := 4) (T := TX4) (NF := 7) rb (by first | omega | with_reducible rfl) hw_24 rfl (fun _ h => (List.mem_cons_of_mem _ (List.mem_append_left _ (List.mem_append_left _ (List.mem_append_right _ h))))) (by decide) (List.mem_of_getElem? (i := 5) rfl) rfl dX4_lookAt_53 ?_
    refine w_aload_n dX4_lookAt_56 rfl 0 rfl ?_
    refine w_get (i := 1) (T := TX4) (NF := 7) rb (by first | omega | with_reducible rfl) hw_24 rfl (fun _ h => (List.mem_cons_of_mem _ (List.mem_append_left _ (List.mem_append_left _ (List.mem_append_right _ h))))) (by decide) (List.mem_of_getElem? (i := 2) rfl) rfl dX4_lookAt_57 ?_
    refine w_iconst dX4_lookAt_60 ?_
    refine w_iload_n dX4_lookAt_61 rfl 1 rfl ?_
    refine w_iload_n dX4_lookAt_62 rfl 2 rfl ?_
    refine w_calll (As := [.int (zI 4), .int (zI ((j : Nat) : Int)), .int (zI ((a : Nat) : Int))]) (rest := [.int (zI rt), .ref (B + rb)]) (n := 3) (c_X2_at hn_25 (by first | omega | with_reducible rfl) (by first | omega | with_reducible rfl) (by first | omega | with_reducible rfl) (by first | omega | with_reducible rfl)) gX4_lookAt_X2_at rfl rfl rfl (by decide +kernel) ⟨Nat.le_of_ble_eq_true rfl, Nat.le_of_ble_eq_true rfl⟩ rfl (by first | omega | with_reducible rfl) hn_25.1 rfl (Nat.le_of_ble_eq_true rfl) ⟨Nat.zero_le _, Nat.zero_le _⟩ dX4_lookAt_63 rfl (fun g_28 hp_29 => ?_)
    subst g_28
    refine w_as (st' := [.long (zJ (tc (clL T V j 1) (R - a))), .int (zI rt), .ref (B + rb)]) (sc_l (NF_at (kd := 4) hNF hth hjm (by omega) hR (by omega) (by omega) rfl) rfl) ?_
    refine w_l2i dX4_lookAt_66 (by first | omega | with_reducible rfl) ?_
    refine w_iadd dX4_lookAt_67 ?_
    refine w_put (i := 4) (T := TX4) (NF := 7) rb (by first | omega | with_reducible rfl) hw_24 rfl (fun _ h => (List.mem_cons_of_mem _ (List.mem_append_left _ (List.mem_append_left _ (List.mem_append_right _ h))))) tyX4 tyX4_ok nmX4 (by decide) (List.mem_of_getElem? (i := 5) rfl) rfl rfl rfl (Nat.le_of_ble_eq_true rfl) dX4_lookAt_68 (fun g_30 he_31 hn_32 => ?_)
    have hw_33 : vRare cy B g_30 rb cb nb sw (rw + (w * (bh (clL T V j 1) (R - a)))) (rt + (tc (clL T V j 1) (R - a))) (lc + 1) rver := he_31
    have hn_34 : vNet cy B g_30 nb cb tf ((R : Nat) : Int) nver G := vNet_fr hn_25 (fun q h1 h2 => hn_32 q (by omega))
    have hc_35 : vCol cy B g_30 cb sets n cver T X V Wy := vCol_fr hc_26 (fun q h1 h2 => hn_32 q (by omega))
    have hfr_36 : ∀ q, (q < rb ∨ rb + 1 ≤ q) → g_30 q = g q := fun q hq => (hn_32 q (by omega)).trans (hfr_27 q hq)
    refine w_goto 101 dX4_lookAt_71 (by decide) ?_
    exact w_vret dX4_lookAt_101 rfl ⟨(by have h9 := hw_33; first | (obtain ⟨e0, e1, e2⟩ := la_yes (s := sw) (cs := (clL T V j 1)) (r := R - a) (w := w) (by omega); rw [e0, e1, e2]; exact h9) | (obtain ⟨e0, e1, e2⟩ := la_walk (s := sw) (cs := (clL T V j 1)) (r := R - a) (w := w) (by omega) (by omega); rw [e0, e1, e2, ← Int.add_assoc]; exact h9) | (obtain ⟨e0, e1, e2⟩ := la_no (s := sw) (cs := (clL T V j 1)) (r := R - a) (w := w) (by omega) (by omega); rw [e0, e1, e2, Int.add_zero, Int.add_zero]; exact h9)), hfr_36⟩
set_option maxHeartbeats 4000000 in
set_option maxRecDepth 100000 in
theorem c_X4_walkFrom_2 {l : Launch} {D : va_G} {cy : Nat → ClassId} {B N : Nat} {g : Nat → va_E} {rb : Nat} {sw rw rt lc rver : Int} {nb cb : Nat} {tf : Int → Int} {nver : Int} {G : Nat → Int → Int} {sets n R : Nat} {cver : Int} {T X V : Int → Int} {Wy : Nat → Int → Int} {j a : Nat} {w : Int} (hw : vRare cy B g rb cb nb sw rw rt lc rver) (hn : vNet cy B g nb cb tf ((R : Nat) : Int) nver G) (hc : vCol cy B g cb sets n cver T X V Wy) (hRB : rb + 1 ≤ N) (hd1 : rb + 1 ≤ nb ∨ nb + 11 ≤ rb) (hd2 : rb + 1 ≤ cb ∨ cb + 10 ≤ rb) (hNB : nb + 11 ≤ N) (hCB : cb + 10 ≤ N) (hok : okT T V n) (hR : R ≤ 60) (hNF : NF T V n R G) (htf : ∀ j : Nat, j ≤ 5 → tf ((j : Nat) : Int) = ((tsum (clL T V j (n - j)) : Nat) : Int)) (hWy : ∀ j : Nat, j < n → ∀ x : Nat, x ≤ 12 → Wy j ((x : Nat) : Int) = ((ch (T ((j : Nat) : Int)).toNat x : Nat) : Int)) (hsw : 0 ≤ sw ∧ sw ≤ 1152921504606846976) (hjm : j + 2 = n) (hth : thr T V n R j a) (hwk : wok w (clL T V j 2)) : CTv l yX4_walkFrom wsX4_walkFrom (rmo 4 112) D cy B N g [.ref (B + rb), .int (zI ((j : Nat) : Int)), .int (zI ((a : Nat) : Int)), .long (zJ w)] (fun g' => vRare cy B g' rb cb nb sw (rw + rk 0 sw (clL T V j 2) (R - a) w) (rt + rk 1 sw (clL T V j 2) (R - a) w) (lc + rk 2 sw (clL T V j 2) (R - a) w) rver ∧ (∀ q, (q < rb ∨ rb + 1 ≤ q) → g' q = g q)) := by
  refine WW_of (cc := cX4_walkFrom) (maxL := 7) (ret := none) (own := RX4) (by decide) rfl rfl (Nat.le_of_ble_eq_true rfl) rfl ?_
  intro pp ee ss mm bl me co hmn
  have hfr_0 : ∀ q, (q < rb ∨ rb + 1 ≤ q) → g q = g q := fun _ _ => rfl
  have hn5 : n ≤ 5 := hok.1
  have htR := hth.2.1
  have hq1 := hok.2 ((j : Nat) : Int) (by omega) (by omega)
  have ht3 : tf (((j : Nat) : Int) + 1) = ((tsum (clL T V (j + 1) 1) : Nat) : Int) := by
    have h9 := htf (j + 1) (by omega)
    rw [show n - (j + 1) = 1 by omega] at h9
    exact h9
  have htfr : ∀ i : Int, 0 ≤ i → i ≤ 5 → 0 ≤ tf i ∧ tf i ≤ 60 := fun i h1 h2 => by
    obtain ⟨k, rfl⟩ := Int.eq_ofNat_of_zero_le h1
    have h3 := htf k (by omega)
    by_cases hk : k ≤ n
    · have h4 := okT_ts hok (m := n - k) (j := k) (by omega)
      omega
    · rw [show n - k = 0 by omega] at h3
      rw [clL, tsum] at h3
      omega
  have hts := thr_ts hth hjm
  have hts2 : tsum (clL T V j 2) = (T ((j : Nat) : Int)).toNat + tsum (clL T V (j + 1) 1) := rfl
  refine w_aload_n dX4_walkFrom_0 rfl 0 rfl ?_
  refine w_get (i := 0) (T := TX4) (NF := 7) rb (by first | omega | with_reducible rfl) hw rfl (fun _ h => (List.mem_cons_of_mem _ (List.mem_append_left _ (List.mem_append_left _ (List.mem_append_right _ h))))) (by decide) (List.mem_of_getElem? (i := 1) rfl) rfl dX4_walkFrom_1 ?_
  refine w_iload_n dX4_walkFrom_4 rfl 1 rfl ?_
  refine w_calli (As := [.int (zI ((j : Nat) : Int))]) (rest := []) (n := 1) (c_X0_has hc (by first | omega | with_reducible rfl) (by first | omega | with_reducible rfl) (by first | omega | with_reducible rfl)) gX4_walkFrom_X0_has rfl rfl rfl (by decide +kernel) ⟨Nat.le_of_ble_eq_true rfl, Nat.le_of_ble_eq_true rfl⟩ rfl (by first | omega | with_reducible rfl) hc.1 rfl (Nat.le_of_ble_eq_true rfl) ⟨Nat.zero_le _, Nat.zero_le _⟩ dX4_walkFrom_5 rfl (fun g_1 hp_2 => ?_)
  subst g_1
  refine w_ifneB 12 dX4_walkFrom_8 (by decide) (fun c_8 => ?_) (fun c_8 => ?_)
  · refine w_aload_n dX4_walkFrom_12 rfl 0 rfl ?_
    refine w_get (i := 1) (T := TX4) (NF := 7) rb (by first | omega | with_reducible rfl) hw rfl (fun _ h => (List.mem_cons_of_mem _ (List.mem_append_left _ (List.mem_append_left _ (List.mem_append_right _ h))))) (by decide) (List.mem_of_getElem? (i := 2) rfl) rfl dX4_walkFrom_13 ?_
    refine w_iload_n dX4_walkFrom_16 rfl 1 rfl ?_
    refine w_iload_n dX4_walkFrom_17 rfl 2 rfl ?_
    refine w_calli (As := [.int (zI ((j : Nat) : Int)), .int (zI ((a : Nat) : Int))]) (rest := []) (n := 2) (c_X2_most hn hc (by first | omega | with_reducible rfl) (by first | omega | with_reducible rfl) hn5 (by omega) (by omega) (by first | omega | with_reducible rfl) (by first | omega | with_reducible rfl)) gX4_walkFrom_X2_most rfl rfl rfl (by decide +kernel) ⟨Nat.le_of_ble_eq_true rfl, Nat.le_of_ble_eq_true rfl⟩ rfl (by first | omega | with_reducible rfl) hn.1 rfl (Nat.le_of_ble_eq_true rfl) ⟨Nat.zero_le _, Nat.zero_le _⟩ dX4_walkFrom_18 rfl (fun g_3 hp_4 => ?_)
    subst g_3
    refine w_as (st' := [.int (zI ((min (T ((j : Nat) : Int)).toNat (R - a) : Nat) : Int))]) (sc_i (by first | omega | with_reducible rfl) rfl) ?_
    refine w_istore [(5, .int (zI ((min (T ((j : Nat) : Int)).toNat (R - a) : Nat) : Int))), (0, .ref (B + rb)), (1, .int (zI ((j : Nat) : Int))), (2, .int (zI ((a : Nat) : Int))), (3, .long (zJ w))] dX4_walkFrom_21 (by decide) rfl ?_
    refine w_aload_n dX4_walkFrom_23 rfl 1 rfl ?_
    refine w_get (i := 1) (T := TX4) (NF := 7) rb (by first | omega | with_reducible rfl) hw rfl (fun _ h => (List.mem_cons_of_mem _ (List.mem_append_left _ (List.mem_append_left _ (List.mem_append_right _ h))))) (by decide) (List.mem_of_getElem? (i := 2) rfl) rfl dX4_walkFrom_24 ?_
    refine w_iload_n dX4_walkFrom_27 rfl 2 rfl ?_
    refine w_iload_n dX4_walkFrom_28 rfl 3 rfl ?_
    refine w_calli (As := [.int (zI ((j : Nat) : Int)), .int (zI ((a : Nat) : Int))]) (rest := []) (n := 2) (c_X2_fewest hn (by first | omega | with_reducible rfl) (by omega) htfr (by first | omega | with_reducible rfl) (by first | omega | with_reducible rfl)) gX4_walkFrom_X2_fewest rfl rfl rfl (by decide +kernel) ⟨Nat.le_of_ble_eq_true rfl, Nat.le_of_ble_eq_true rfl⟩ rfl (by first | omega | with_reducible rfl) hn.1 rfl (Nat.le_of_ble_eq_true rfl) ⟨Nat.zero_le _, Nat.zero_le _⟩ dX4_walkFrom_29 rfl (fun g_5 hp_6 => ?_)
    subst g_5
    refine w_as (st' := [.int (zI (((lo (clL T V (j + 1) 1) (R - a)) : Nat) : Int))]) (sc_i (by rw [ht3]; unfold lo; omega) rfl) ?_
    refine w_istore [(6, .int (zI (((lo (clL T V (j + 1) 1) (R - a)) : Nat) : Int))), (5, .int (zI ((min (T ((j : Nat) : Int)).toNat (R - a) : Nat) : Int))), (0, .ref (B + rb)), (1, .int (zI ((j : Nat) : Int))), (2, .int (zI ((a : Nat) : Int))), (3, .long (zJ w))] dX4_walkFrom_32 (by decide) rfl ?_
    refine w_sub [(0, .ref (B + rb)), (1, .int (zI ((j : Nat) : Int))), (2, .int (zI ((a : Nat) : Int))), (3, .long (zJ w)), (5, .int (zI ((min (T ((j : Nat) : Int)).toNat (R - a) : Nat) : Int))), (6, .int (zI (((lo (clL T V (j + 1) 1) (R - a)) : Nat) : Int)))] [2, 3, 4, 5, 1, 0] rfl ?_
    refine w_lv (lv' := [(0, .ref (B + rb)), (1, .int (zI ((j : Nat) : Int))), (2, .int (zI ((a : Nat) : Int))), (3, .long (zJ w)), (5, .int (zI ((min (T ((j : Nat) : Int)).toNat (R - a) : Nat) : Int))), (6, .int (zI ((((lo (clL T V (j + 1) 1) (R - a)) + 0) : Nat) : Int)))]) (lc_s (lc_s (lc_s (lc_s (lc_s (lc_i (by first | omega | with_reducible rfl) rfl)))))) ?_
    refine w_loop2 (fun (k : Nat) (gl_7 : (Nat → va_E)) => vRare cy B gl_7 rb cb nb sw (rw + (srN (rf 0 sw ((T ((j : Nat) : Int)).toNat, (V ((j : Nat) : Int)).toNat) (clL T V (j + 1) 1) (R - a) w) (lo (clL T V (j + 1) 1) (R - a)) k)) (rt + (srN (rf 1 sw ((T ((j : Nat) : Int)).toNat, (V ((j : Nat) : Int)).toNat) (clL T V (j + 1) 1) (R - a) w) (lo (clL T V (j + 1) 1) (R - a)) k)) (lc + (srN (rf 2 sw ((T ((j : Nat) : Int)).toNat, (V ((j : Nat) : Int)).toNat) (clL T V (j + 1) 1) (R - a) w) (lo (clL T V (j + 1) 1) (R - a)) k)) rver ∧ vNet cy B gl_7 nb cb tf ((R : Nat) : Int) nver G ∧ vCol cy B gl_7 cb sets n cver T X V Wy ∧ (∀ q, (q < rb ∨ rb + 1 ≤ q) → gl_7 q = g q) ∧ k ≤ nn ((T ((j : Nat) : Int)).toNat, (V ((j : Nat) : Int)).toNat) (clL T V (j + 1) 1) (R - a)) (fun (k : Nat) (gl_7 : (Nat → va_E)) => nn ((T ((j : Nat) : Int)).toNat, (V ((j : Nat) : Int)).toNat) (clL T V (j + 1) 1) (R - a) - k) (fun (k : Nat) (gl_7 : (Nat → va_E)) => gl_7) (fun (k : Nat) (gl_7 : (Nat → va_E)) => [(0, .ref (B + rb)), (1, .int (zI ((j : Nat) : Int))), (2, .int (zI ((a : Nat) : Int))), (3, .long (zJ w)), (5, .int (zI ((min (T ((j : Nat) : Int)).toNat (R - a) : Nat) : Int))), (6, .int (zI ((((lo (clL T V (j + 1) 1) (R - a)) + k) : Nat) : Int)))]) ?_ 0 g ⟨(by have h9 := hw; simp only [srN, Int.add_zero]; exact h9), hn, hc, hfr_0, (Nat.zero_le _)⟩
    rintro k gl_7 ⟨hw_8, hn_9, hc_10, hfr_11, hk⟩ ih_34
    have hlo : lo (clL T V (j + 1) 1) (R - a) ≤ R - a ∧ nn ((T ((j : Nat) : Int)).toNat, (V ((j : Nat) : Int)).toNat) (clL T V (j + 1) 1) (R - a) ≤ 13 := by unfold lo nn; omega
    refine w_iload dX4_walkFrom_34 5 rfl ?_
    refine w_iload dX4_walkFrom_36 4 rfl ?_
    refine w_icmp_gt 70 dX4_walkFrom_38 (by decide) (by first | omega | with_reducible rfl) (by first | omega | with_reducible rfl) (fun c_38 => ?_) (fun c_38 => ?_)
    · have hk9 : k = nn ((T ((j : Nat) : Int)).toNat, (V ((j : Nat) : Int)).toNat) (clL T V (j + 1) 1) (R - a) := by unfold lo nn at *; omega
      exact w_vret dX4_walkFrom_70 rfl ⟨(by have h9 := hw_8; rw [hk9] at h9; exact h9), hfr_11⟩
    · have hx : lo (clL T V (j + 1) 1) (R - a) + k ≤ (T ((j : Nat) : Int)).toNat := by omega
      refine w_aload_n dX4_walkFrom_41 rfl 0 rfl ?_
      refine w_iload_n dX4_walkFrom_42 rfl 1 rfl ?_
      refine w_iconst dX4_walkFrom_43 ?_
      refine w_iadd dX4_walkFrom_44 ?_
      refine w_iload_n dX4_walkFrom_45 rfl 2 rfl ?_
      refine w_iload dX4_walkFrom_46 5 rfl ?_
      refine w_iadd dX4_walkFrom_48 ?_
      refine w_lload_n dX4_walkFrom_49 rfl 3 rfl ?_
      refine w_aload_n dX4_walkFrom_50 rfl 0 rfl ?_
      refine w_get (i := 0) (T := TX4) (NF := 7) rb (by first | omega | with_reducible rfl) hw_8 rfl (fun _ h => (List.mem_cons_of_mem _ (List.mem_append_left _ (List.mem_append_left _ (List.mem_append_right _ h))))) (by decide) (List.mem_of_getElem? (i := 1) rfl) rfl dX4_walkFrom_51 ?_
      refine w_iload_n dX4_walkFrom_54 rfl 1 rfl ?_
      refine w_iload dX4_walkFrom_55 5 rfl ?_
      refine w_calll (As := [.int (zI ((j : Nat) : Int)), .int (zI ((((lo (clL T V (j + 1) 1) (R - a)) + k) : Nat) : Int))]) (rest := [.long (zJ w), .int (zI (((a : Nat) : Int) + ((((lo (clL T V (j + 1) 1) (R - a)) + k) : Nat) : Int))), .int (zI (((j : Nat) : Int) + 1)), .ref (B + rb)]) (n := 2) (c_X0_waysOf hc_10 (by first | omega | with_reducible rfl) (by first | omega | with_reducible rfl) (by first | omega | with_reducible rfl) (by first | omega | with_reducible rfl)) gX4_walkFrom_X0_waysOf rfl rfl rfl (by decide +kernel) ⟨Nat.le_of_ble_eq_true rfl, Nat.le_of_ble_eq_true rfl⟩ rfl (by first | omega | with_reducible rfl) hc_10.1 rfl (Nat.le_of_ble_eq_true rfl) ⟨Nat.zero_le _, Nat.zero_le _⟩ dX4_walkFrom_57 rfl (fun g_12 hp_13 => ?_)
      subst g_12
      refine w_as (st' := [.long (zJ ((ch (T ((j : Nat) : Int)).toNat (lo (clL T V (j + 1) 1) (R - a) + k) : Nat) : Int)), .long (zJ w), .int (zI (((a : Nat) : Int) + ((((lo (clL T V (j + 1) 1) (R - a)) + k) : Nat) : Int))), .int (zI (((j : Nat) : Int) + 1)), .ref (B + rb)]) (sc_l (by rw [wyA_in (by omega), Int.toNat_natCast]; exact hWy _ (by omega) _ (by omega)) rfl) ?_
      refine w_lmul dX4_walkFrom_60 ?_
      refine w_as (st' := [.long (zJ (w * ((ch (T ((j : Nat) : Int)).toNat (lo (clL T V (j + 1) 1) (R - a) + k) : Nat) : Int))), .int (zI (((a + (lo (clL T V (j + 1) 1) (R - a) + k)) : Nat) : Int)), .int (zI (((j + 1) : Nat) : Int)), .ref (B + rb)]) (lc_s (sc_i (by first | omega | with_reducible rfl) (sc_i (by first | omega | with_reducible rfl) rfl))) ?_
      refine w_callv (As := [.int (zI (((j + 1) : Nat) : Int)), .int (zI (((a + (lo (clL T V (j + 1) 1) (R - a) + k)) : Nat) : Int)), .long (zJ (w * ((ch (T ((j : Nat) : Int)).toNat (lo (clL T V (j + 1) 1) (R - a) + k) : Nat) : Int)))]) (rest := []) (n := 3) (c_X4_lookAt_1 (j := (j + 1)) (a := (a + (lo (clL T V (j + 1) 1) (R - a) + k))) hw_8 hn_9 hc_10 (by first | omega | with_reducible rfl) (by first | omega | with_reducible rfl) (by first | omega | with_reducible rfl) (by first | omega | with_reducible rfl) (by first | omega | with_reducible rfl) hok (by first | omega | with_reducible rfl) hNF htf hWy (by first | omega | with_reducible rfl) (by first | omega | with_reducible rfl) (thr_next hth hjm (by omega) hx (by omega)) (wok_c (c := ((T ((j : Nat) : Int)).toNat, (V ((j : Nat) : Int)).toNat)) (cs := (clL T V (j + 1) 1)) hwk _)) gX4_walkFrom_X4_lookAt rfl rfl rfl (by decide +kernel) ⟨Nat.le_of_ble_eq_true rfl, Nat.le_of_ble_eq_true rfl⟩ rfl (by first | omega | with_reducible rfl) hw_8 rfl (Nat.le_of_ble_eq_true rfl) ⟨Nat.zero_le _, Nat.zero_le _⟩ dX4_walkFrom_61 rfl (fun g_14 hp_15 => ?_)
      obtain ⟨hw_16, hf_17⟩ := hp_15
      have hn_18 : vNet cy B g_14 nb cb tf ((R : Nat) : Int) nver G := vNet_fr hn_9 (fun q h1 h2 => hf_17 q (by omega))
      have hc_19 : vCol cy B g_14 cb sets n cver T X V Wy := vCol_fr hc_10 (fun q h1 h2 => hf_17 q (by omega))
      have hfr_20 : ∀ q, (q < rb ∨ rb + 1 ≤ q) → g_14 q = g q := fun q hq => (hf_17 q (by omega)).trans (hfr_11 q hq)
      refine w_iinc 5 [(6, .int (zI (((((lo (clL T V (j + 1) 1) (R - a)) + k) : Nat) : Int) + 1))), (0, .ref (B + rb)), (1, .int (zI ((j : Nat) : Int))), (2, .int (zI ((a : Nat) : Int))), (3, .long (zJ w)), (5, .int (zI ((min (T ((j : Nat) : Int)).toNat (R - a) : Nat) : Int)))] dX4_walkFrom_64 rfl (by decide) rfl ?_
      refine w_goto 34 dX4_walkFrom_67 (by decide) ?_
      refine w_sub [(0, .ref (B + rb)), (1, .int (zI ((j : Nat) : Int))), (2, .int (zI ((a : Nat) : Int))), (3, .long (zJ w)), (5, .int (zI ((min (T ((j : Nat) : Int)).toNat (R - a) : Nat) : Int))), (6, .int (zI (((((lo (clL T V (j + 1) 1) (R - a)) + k) : Nat) : Int) + 1)))] [1, 2, 3, 4, 5, 0] rfl ?_
      refine w_lv (lv' := [(0, .ref (B + rb)), (1, .int (zI ((j : Nat) : Int))), (2, .int (zI ((a : Nat) : Int))), (3, .long (zJ w)), (5, .int (zI ((min (T ((j : Nat) : Int)).toNat (R - a) : Nat) : Int))), (6, .int (zI ((((lo (clL T V (j + 1) 1) (R - a)) + (k + 1)) : Nat) : Int)))]) (lc_s (lc_s (lc_s (lc_s (lc_s (lc_i (by first | omega | with_reducible rfl) rfl)))))) ?_
      exact ih_34 (k + 1) g_14 ⟨(by have h9 := hw_16; rw [st_rf, st_rf, st_rf] at h9; exact h9), hn_18, hc_19, hfr_20, (by unfold lo nn at *; omega)⟩ (by unfold lo nn at *; omega)
  · exfalso; omega
set_option maxHeartbeats 4000000 in
set_option maxRecDepth 100000 in
theorem c_X4_lookAt_2 {l : Launch} {D : va_G} {cy : Nat → ClassId} {B N : Nat} {g : Nat → va_E} {rb : Nat} {sw rw rt lc rver : Int} {nb cb : Nat} {tf : Int → Int} {nver : Int} {G : Nat → Int → Int} {sets n R : Nat} {cver : Int} {T X V : Int → Int} {Wy : Nat → Int → Int} {j a : Nat} {w : Int} (hw : vRare cy B g rb cb nb sw rw rt lc rver) (hn : vNet cy B g nb cb tf ((R : Nat) : Int) nver G) (hc : vCol cy B g cb sets n cver T X V Wy) (hRB : rb + 1 ≤ N) (hd1 : rb + 1 ≤ nb ∨ nb + 11 ≤ rb) (hd2 : rb + 1 ≤ cb ∨ cb + 10 ≤ rb) (hNB : nb + 11 ≤ N) (hCB : cb + 10 ≤ N) (hok : okT T V n) (hR : R ≤ 60) (hNF : NF T V n R G) (htf : ∀ j : Nat, j ≤ 5 → tf ((j : Nat) : Int) = ((tsum (clL T V j (n - j)) : Nat) : Int)) (hWy : ∀ j : Nat, j < n → ∀ x : Nat, x ≤ 12 → Wy j ((x : Nat) : Int) = ((ch (T ((j : Nat) : Int)).toNat x : Nat) : Int)) (hsw : 0 ≤ sw ∧ sw ≤ 1152921504606846976) (hjm : j + 2 = n) (hth : thr T V n R j a) (hwk : wok w (clL T V j 2)) : CTv l yX4_lookAt wsX4_lookAt (rmo 5 138) D cy B N g [.ref (B + rb), .int (zI ((j : Nat) : Int)), .int (zI ((a : Nat) : Int)), .long (zJ w)] (fun g' => vRare cy B g' rb cb nb sw (rw + la 0 sw (clL T V j 2) (R - a) w) (rt + la 1 sw (clL T V j 2) (R - a) w) (lc + la 2 sw (clL T V j 2) (R - a) w) rver ∧ (∀ q, (q < rb ∨ rb + 1 ≤ q) → g' q = g q)) := by
  refine WW_of (cc := cX4_lookAt) (maxL := 5) (ret := none) (own := RX4) (by decide) rfl rfl (Nat.le_of_ble_eq_true rfl) rfl ?_
  intro pp ee ss mm bl me co hmn
  have hfr_0 : ∀ q, (q < rb ∨ rb + 1 ≤ q) → g q = g q := fun _ _ => rfl
  have hn5 : n ≤ 5 := hok.1
  have htR := hth.2.1
  have hwl := wok_lg hwk (R - a)
  have hws := wok_sh hwk (thr_ts hth hjm)
  have htc := tc_rg (r := R - a) hok (show j + 2 ≤ n by omega)
  refine w_aload_n dX4_lookAt_0 rfl 0 rfl ?_
  refine w_dup dX4_lookAt_1 rfl ?_
  refine w_get (i := 5) (T := TX4) (NF := 7) rb (by first | omega | with_reducible rfl) hw rfl (fun _ h => (List.mem_cons_of_mem _ (List.mem_append_left _ (List.mem_append_left _ (List.mem_append_right _ h))))) (by decide) (List.mem_of_getElem? (i := 1) rfl) rfl dX4_lookAt_2 ?_
  refine w_iconst dX4_lookAt_5 ?_
  refine w_iadd dX4_lookAt_6 ?_
  refine w_put (i := 5) (T := TX4) (NF := 7) rb (by first | omega | with_reducible rfl) hw rfl (fun _ h => (List.mem_cons_of_mem _ (List.mem_append_left _ (List.mem_append_left _ (List.mem_append_right _ h))))) tyX4 tyX4_ok nmX4 (by decide) (List.mem_of_getElem? (i := 1) rfl) rfl rfl rfl (Nat.le_of_ble_eq_true rfl) dX4_lookAt_7 (fun g_1 he_2 hn_3 => ?_)
  have hw_4 : vRare cy B g_1 rb cb nb sw rw rt (lc + 1) rver := he_2
  have hn_5 : vNet cy B g_1 nb cb tf ((R : Nat) : Int) nver G := vNet_fr hn (fun q h1 h2 => hn_3 q (by omega))
  have hc_6 : vCol cy B g_1 cb sets n cver T X V Wy := vCol_fr hc (fun q h1 h2 => hn_3 q (by omega))
  have hfr_7 : ∀ q, (q < rb ∨ rb + 1 ≤ q) → g_1 q = g q := fun q hq => (hn_3 q (by omega)).trans (hfr_0 q hq)
  refine w_lload_n dX4_lookAt_10 rfl 3 rfl ?_
  refine w_aload_n dX4_lookAt_11 rfl 0 rfl ?_
  refine w_get (i := 1) (T := TX4) (NF := 7) rb (by first | omega | with_reducible rfl) hw_4 rfl (fun _ h => (List.mem_cons_of_mem _ (List.mem_append_left _ (List.mem_append_left _ (List.mem_append_right _ h))))) (by decide) (List.mem_of_getElem? (i := 2) rfl) rfl dX4_lookAt_12 ?_
  refine w_iconst dX4_lookAt_15 ?_
  refine w_iload_n dX4_lookAt_16 rfl 1 rfl ?_
  refine w_iload_n dX4_lookAt_17 rfl 2 rfl ?_
  refine w_calll (As := [.int (zI 2), .int (zI ((j : Nat) : Int)), .int (zI ((a : Nat) : Int))]) (rest := [.long (zJ w)]) (n := 3) (c_X2_at hn_5 (by first | omega | with_reducible rfl) (by first | omega | with_reducible rfl) (by first | omega | with_reducible rfl) (by first | omega | with_reducible rfl)) gX4_lookAt_X2_at rfl rfl rfl (by decide +kernel) ⟨Nat.le_of_ble_eq_true rfl, Nat.le_of_ble_eq_true rfl⟩ rfl (by first | omega | with_reducible rfl) hn_5.1 rfl (Nat.le_of_ble_eq_true rfl) ⟨Nat.zero_le _, Nat.zero_le _⟩ dX4_lookAt_18 rfl (fun g_8 hp_9 => ?_)
  subst g_8
  refine w_as (st' := [.long (zJ (lg (clL T V j 2) (R - a))), .long (zJ w)]) (sc_l (NF_at (kd := 2) hNF hth hjm (by omega) hR (by omega) (by omega) rfl) rfl) ?_
  refine w_lmul dX4_lookAt_21 ?_
  refine w_aload_n dX4_lookAt_22 rfl 0 rfl ?_
  refine w_get (i := 2) (T := TX4) (NF := 7) rb (by first | omega | with_reducible rfl) hw_4 rfl (fun _ h => (List.mem_cons_of_mem _ (List.mem_append_left _ (List.mem_append_left _ (List.mem_append_right _ h))))) (by decide) (List.mem_of_getElem? (i := 3) rfl) rfl dX4_lookAt_23 ?_
  refine w_lcmp_gt 74 dX4_lookAt_26 dX4_lookAt_27 (by decide) (by first | omega | with_reducible rfl) (by first | omega | with_reducible rfl) (fun c_26 => ?_) (fun c_26 => ?_)
  · refine w_lload_n dX4_lookAt_74 rfl 3 rfl ?_
    refine w_aload_n dX4_lookAt_75 rfl 0 rfl ?_
    refine w_get (i := 1) (T := TX4) (NF := 7) rb (by first | omega | with_reducible rfl) hw_4 rfl (fun _ h => (List.mem_cons_of_mem _ (List.mem_append_left _ (List.mem_append_left _ (List.mem_append_right _ h))))) (by decide) (List.mem_of_getElem? (i := 2) rfl) rfl dX4_lookAt_76 ?_
    refine w_iconst dX4_lookAt_79 ?_
    refine w_iload_n dX4_lookAt_80 rfl 1 rfl ?_
    refine w_iload_n dX4_lookAt_81 rfl 2 rfl ?_
    refine w_calll (As := [.int (zI 3), .int (zI ((j : Nat) : Int)), .int (zI ((a : Nat) : Int))]) (rest := [.long (zJ w)]) (n := 3) (c_X2_at hn_5 (by first | omega | with_reducible rfl) (by first | omega | with_reducible rfl) (by first | omega | with_reducible rfl) (by first | omega | with_reducible rfl)) gX4_lookAt_X2_at rfl rfl rfl (by decide +kernel) ⟨Nat.le_of_ble_eq_true rfl, Nat.le_of_ble_eq_true rfl⟩ rfl (by first | omega | with_reducible rfl) hn_5.1 rfl (Nat.le_of_ble_eq_true rfl) ⟨Nat.zero_le _, Nat.zero_le _⟩ dX4_lookAt_82 rfl (fun g_10 hp_11 => ?_)
    subst g_10
    refine w_as (st' := [.long (zJ (sh (clL T V j 2) (R - a))), .long (zJ w)]) (sc_l (NF_at (kd := 3) hNF hth hjm (by omega) hR (by omega) (by omega) rfl) rfl) ?_
    refine w_lmul dX4_lookAt_85 ?_
    refine w_aload_n dX4_lookAt_86 rfl 0 rfl ?_
    refine w_get (i := 2) (T := TX4) (NF := 7) rb (by first | omega | with_reducible rfl) hw_4 rfl (fun _ h => (List.mem_cons_of_mem _ (List.mem_append_left _ (List.mem_append_left _ (List.mem_append_right _ h))))) (by decide) (List.mem_of_getElem? (i := 3) rfl) rfl dX4_lookAt_87 ?_
    refine w_lcmp_gt 101 dX4_lookAt_90 dX4_lookAt_91 (by decide) (by first | omega | with_reducible rfl) (by first | omega | with_reducible rfl) (fun c_90 => ?_) (fun c_90 => ?_)
    · exact w_vret dX4_lookAt_101 rfl ⟨(by have h9 := hw_4; first | (obtain ⟨e0, e1, e2⟩ := la_yes (s := sw) (cs := (clL T V j 2)) (r := R - a) (w := w) (by omega); rw [e0, e1, e2]; exact h9) | (obtain ⟨e0, e1, e2⟩ := la_walk (s := sw) (cs := (clL T V j 2)) (r := R - a) (w := w) (by omega) (by omega); rw [e0, e1, e2, ← Int.add_assoc]; exact h9) | (obtain ⟨e0, e1, e2⟩ := la_no (s := sw) (cs := (clL T V j 2)) (r := R - a) (w := w) (by omega) (by omega); rw [e0, e1, e2, Int.add_zero, Int.add_zero]; exact h9)), hfr_7⟩
    · refine w_aload_n dX4_lookAt_94 rfl 0 rfl ?_
      refine w_iload_n dX4_lookAt_95 rfl 1 rfl ?_
      refine w_iload_n dX4_lookAt_96 rfl 2 rfl ?_
      refine w_lload_n dX4_lookAt_97 rfl 3 rfl ?_
      refine w_callv (As := [.int (zI ((j : Nat) : Int)), .int (zI ((a : Nat) : Int)), .long (zJ w)]) (rest := []) (n := 3) (c_X4_walkFrom_2 (j := j) (a := a) hw_4 hn_5 hc_6 (by first | omega | with_reducible rfl) (by first | omega | with_reducible rfl) (by first | omega | with_reducible rfl) (by first | omega | with_reducible rfl) (by first | omega | with_reducible rfl) hok (by first | omega | with_reducible rfl) hNF htf hWy (by first | omega | with_reducible rfl) (by first | omega | with_reducible rfl) hth hwk) gX4_lookAt_X4_walkFrom rfl rfl rfl (by decide +kernel) ⟨Nat.le_of_ble_eq_true rfl, Nat.le_of_ble_eq_true rfl⟩ rfl (by first | omega | with_reducible rfl) hw_4 rfl (Nat.le_of_ble_eq_true rfl) ⟨Nat.zero_le _, Nat.zero_le _⟩ dX4_lookAt_98 rfl (fun g_12 hp_13 => ?_)
      obtain ⟨hw_14, hf_15⟩ := hp_13
      have hn_16 : vNet cy B g_12 nb cb tf ((R : Nat) : Int) nver G := vNet_fr hn_5 (fun q h1 h2 => hf_15 q (by omega))
      have hc_17 : vCol cy B g_12 cb sets n cver T X V Wy := vCol_fr hc_6 (fun q h1 h2 => hf_15 q (by omega))
      have hfr_18 : ∀ q, (q < rb ∨ rb + 1 ≤ q) → g_12 q = g q := fun q hq => (hf_15 q (by omega)).trans (hfr_7 q hq)
      exact w_vret dX4_lookAt_101 rfl ⟨(by have h9 := hw_14; first | (obtain ⟨e0, e1, e2⟩ := la_yes (s := sw) (cs := (clL T V j 2)) (r := R - a) (w := w) (by omega); rw [e0, e1, e2]; exact h9) | (obtain ⟨e0, e1, e2⟩ := la_walk (s := sw) (cs := (clL T V j 2)) (r := R - a) (w := w) (by omega) (by omega); rw [e0, e1, e2, ← Int.add_assoc]; exact h9) | (obtain ⟨e0, e1, e2⟩ := la_no (s := sw) (cs := (clL T V j 2)) (r := R - a) (w := w) (by omega) (by omega); rw [e0, e1, e2, Int.add_zero, Int.add_zero]; exact h9)), hfr_18⟩
  · refine w_aload_n dX4_lookAt_30 rfl 0 rfl ?_
    refine w_dup dX4_lookAt_31 rfl ?_
    refine w_get (i := 3) (T := TX4) (NF := 7) rb (by first | omega | with_reducible rfl) hw_4 rfl (fun _ h => (List.mem_cons_of_mem _ (List.mem_append_left _ (List.mem_append_left _ (List.mem_append_right _ h))))) (by decide) (List.mem_of_getElem? (i := 4) rfl) rfl dX4_lookAt_32 ?_
    refine w_lload_n dX4_lookAt_35 rfl 3 rfl ?_
    refine w_aload_n dX4_lookAt_36 rfl 0 rfl ?_
    refine w_get (i := 1) (T := TX4) (NF := 7) rb (by first | omega | with_reducible rfl) hw_4 rfl (fun _ h => (List.mem_cons_of_mem _ (List.mem_append_left _ (List.mem_append_left _ (List.mem_append_right _ h))))) (by decide) (List.mem_of_getElem? (i := 2) rfl) rfl dX4_lookAt_37 ?_
    refine w_iconst dX4_lookAt_40 ?_
    refine w_iload_n dX4_lookAt_41 rfl 1 rfl ?_
    refine w_iload_n dX4_lookAt_42 rfl 2 rfl ?_
    refine w_calll (As := [.int (zI 1), .int (zI ((j : Nat) : Int)), .int (zI ((a : Nat) : Int))]) (rest := [.long (zJ w), .long (zJ rw), .ref (B + rb)]) (n := 3) (c_X2_at hn_5 (by first | omega | with_reducible rfl) (by first | omega | with_reducible rfl) (by first | omega | with_reducible rfl) (by first | omega | with_reducible rfl)) gX4_lookAt_X2_at rfl rfl rfl (by decide +kernel) ⟨Nat.le_of_ble_eq_true rfl, Nat.le_of_ble_eq_true rfl⟩ rfl (by first | omega | with_reducible rfl) hn_5.1 rfl (Nat.le_of_ble_eq_true rfl) ⟨Nat.zero_le _, Nat.zero_le _⟩ dX4_lookAt_43 rfl (fun g_19 hp_20 => ?_)
    subst g_19
    refine w_as (st' := [.long (zJ (bh (clL T V j 2) (R - a))), .long (zJ w), .long (zJ rw), .ref (B + rb)]) (sc_l (NF_at (kd := 1) hNF hth hjm (by omega) hR (by omega) (by omega) rfl) rfl) ?_
    refine w_lmul dX4_lookAt_46 ?_
    refine w_ladd dX4_lookAt_47 ?_
    refine w_put (i := 3) (T := TX4) (NF := 7) rb (by first | omega | with_reducible rfl) hw_4 rfl (fun _ h => (List.mem_cons_of_mem _ (List.mem_append_left _ (List.mem_append_left _ (List.mem_append_right _ h))))) tyX4 tyX4_ok nmX4 (by decide) (List.mem_of_getElem? (i := 4) rfl) rfl rfl rfl (Nat.le_of_ble_eq_true rfl) dX4_lookAt_48 (fun g_21 he_22 hn_23 => ?_)
    have hw_24 : vRare cy B g_21 rb cb nb sw (rw + (w * (bh (clL T V j 2) (R - a)))) rt (lc + 1) rver := he_22
    have hn_25 : vNet cy B g_21 nb cb tf ((R : Nat) : Int) nver G := vNet_fr hn_5 (fun q h1 h2 => hn_23 q (by omega))
    have hc_26 : vCol cy B g_21 cb sets n cver T X V Wy := vCol_fr hc_6 (fun q h1 h2 => hn_23 q (by omega))
    have hfr_27 : ∀ q, (q < rb ∨ rb + 1 ≤ q) → g_21 q = g q := fun q hq => (hn_23 q (by omega)).trans (hfr_7 q hq)
    refine w_aload_n dX4_lookAt_51 rfl 0 rfl ?_
    refine w_dup dX4_lookAt_52 rfl ?_
    refine w_get (i := 4) (T := TX4) (NF := 7) rb (by first | omega | with_reducible rfl) hw_24 rfl (fun _ h => (List.mem_cons_of_mem _ (List.mem_append_left _ (List.mem_append_left _ (List.mem_append_right _ h))))) (by decide) (List.mem_of_getElem? (i := 5) rfl) rfl dX4_lookAt_53 ?_
    refine w_aload_n dX4_lookAt_56 rfl 0 rfl ?_
    refine w_get (i := 1) (T := TX4) (NF := 7) rb (by first | omega | with_reducible rfl) hw_24 rfl (fun _ h => (List.mem_cons_of_mem _ (List.mem_append_left _ (List.mem_append_left _ (List.mem_append_right _ h))))) (by decide) (List.mem_of_getElem? (i := 2) rfl) rfl dX4_lookAt_57 ?_
    refine w_iconst dX4_lookAt_60 ?_
    refine w_iload_n dX4_lookAt_61 rfl 1 rfl ?_
    refine w_iload_n dX4_lookAt_62 rfl 2 rfl ?_
    refine w_calll (As := [.int (zI 4), .int (zI ((j : Nat) : Int)), .int (zI ((a : Nat) : Int))]) (rest := [.int (zI rt), .ref (B + rb)]) (n := 3) (c_X2_at hn_25 (by first | omega | with_reducible rfl) (by first | omega | with_reducible rfl) (by first | omega | with_reducible rfl) (by first | omega | with_reducible rfl)) gX4_lookAt_X2_at rfl rfl rfl (by decide +kernel) ⟨Nat.le_of_ble_eq_true rfl, Nat.le_of_ble_eq_true rfl⟩ rfl (by first | omega | with_reducible rfl) hn_25.1 rfl (Nat.le_of_ble_eq_true rfl) ⟨Nat.zero_le _, Nat.zero_le _⟩ dX4_lookAt_63 rfl (fun g_28 hp_29 => ?_)
    subst g_28
    refine w_as (st' := [.long (zJ (tc (clL T V j 2) (R - a))), .int (zI rt), .ref (B + rb)]) (sc_l (NF_at (kd := 4) hNF hth hjm (by omega) hR (by omega) (by omega) rfl) rfl) ?_
    refine w_l2i dX4_lookAt_66 (by first | omega | with_reducible rfl) ?_
    refine w_iadd dX4_lookAt_67 ?_
    refine w_put (i := 4) (T := TX4) (NF := 7) rb (by first | omega | with_reducible rfl) hw_24 rfl (fun _ h => (List.mem_cons_of_mem _ (List.mem_append_left _ (List.mem_append_left _ (List.mem_append_right _ h))))) tyX4 tyX4_ok nmX4 (by decide) (List.mem_of_getElem? (i := 5) rfl) rfl rfl rfl (Nat.le_of_ble_eq_true rfl) dX4_lookAt_68 (fun g_30 he_31 hn_32 => ?_)
    have hw_33 : vRare cy B g_30 rb cb nb sw (rw + (w * (bh (clL T V j 2) (R - a)))) (rt + (tc (clL T V j 2) (R - a))) (lc + 1) rver := he_31
    have hn_34 : vNet cy B g_30 nb cb tf ((R : Nat) : Int) nver G := vNet_fr hn_25 (fun q h1 h2 => hn_32 q (by omega))
    have hc_35 : vCol cy B g_30 cb sets n cver T X V Wy := vCol_fr hc_26 (fun q h1 h2 => hn_32 q (by omega))
    have hfr_36 : ∀ q, (q < rb ∨ rb + 1 ≤ q) → g_30 q = g q := fun q hq => (hn_32 q (by omega)).trans (hfr_27 q hq)
    refine w_goto 101 dX4_lookAt_71 (by decide) ?_
    exact w_vret dX4_lookAt_101 rfl ⟨(by have h9 := hw_33; first | (obtain ⟨e0, e1, e2⟩ := la_yes (s := sw) (cs := (clL T V j 2)) (r := R - a) (w := w) (by omega); rw [e0, e1, e2]; exact h9) | (obtain ⟨e0, e1, e2⟩ := la_walk (s := sw) (cs := (clL T V j 2)) (r := R - a) (w := w) (by omega) (by omega); rw [e0, e1, e2, ← Int.add_assoc]; exact h9) | (obtain ⟨e0, e1, e2⟩ := la_no (s := sw) (cs := (clL T V j 2)) (r := R - a) (w := w) (by omega) (by omega); rw [e0, e1, e2, Int.add_zero, Int.add_zero]; exact h9)), hfr_36⟩
set_option maxHeartbeats 4000000 in
set_option maxRecDepth 100000 in
theorem c_X4_walkFrom_3 {l : Launch} {D : va_G} {cy : Nat → ClassId} {B N : Nat} {g : Nat → va_E} {rb : Nat} {sw rw rt lc rver : Int} {nb cb : Nat} {tf : Int → Int} {nver : Int} {G : Nat → Int → Int} {sets n R : Nat} {cver : Int} {T X V : Int → Int} {Wy : Nat → Int → Int} {j a : Nat} {w : Int} (hw : vRare cy B g rb cb nb sw rw rt lc rver) (hn : vNet cy B g nb cb tf ((R : Nat) : Int) nver G) (hc : vCol cy B g cb sets n cver T X V Wy) (hRB : rb + 1 ≤ N) (hd1 : rb + 1 ≤ nb ∨ nb + 11 ≤ rb) (hd2 : rb + 1 ≤ cb ∨ cb + 10 ≤ rb) (hNB : nb + 11 ≤ N) (hCB : cb + 10 ≤ N) (hok : okT T V n) (hR : R ≤ 60) (hNF : NF T V n R G) (htf : ∀ j : Nat, j ≤ 5 → tf ((j : Nat) : Int) = ((tsum (clL T V j (n - j)) : Nat) : Int)) (hWy : ∀ j : Nat, j < n → ∀ x : Nat, x ≤ 12 → Wy j ((x : Nat) : Int) = ((ch (T ((j : Nat) : Int)).toNat x : Nat) : Int)) (hsw : 0 ≤ sw ∧ sw ≤ 1152921504606846976) (hjm : j + 3 = n) (hth : thr T V n R j a) (hwk : wok w (clL T V j 3)) : CTv l yX4_walkFrom wsX4_walkFrom (rmo 6 162) D cy B N g [.ref (B + rb), .int (zI ((j : Nat) : Int)), .int (zI ((a : Nat) : Int)), .long (zJ w)] (fun g' => vRare cy B g' rb cb nb sw (rw + rk 0 sw (clL T V j 3) (R - a) w) (rt + rk 1 sw (clL T V j 3) (R - a) w) (lc + rk 2 sw (clL T V j 3) (R - a) w) rver ∧ (∀ q, (q < rb ∨ rb + 1 ≤ q) → g' q = g q)) := by
  refine WW_of (cc := cX4_walkFrom) (maxL := 7) (ret := none) (own := RX4) (by decide) rfl rfl (Nat.le_of_ble_eq_true rfl) rfl ?_
  intro pp ee ss mm bl me co hmn
  have hfr_0 : ∀ q, (q < rb ∨ rb + 1 ≤ q) → g q = g q := fun _ _ => rfl
  have hn5 : n ≤ 5 := hok.1
  have htR := hth.2.1
  have hq1 := hok.2 ((j : Nat) : Int) (by omega) (by omega)
  have ht3 : tf (((j : Nat) : Int) + 1) = ((tsum (clL T V (j + 1) 2) : Nat) : Int) := by
    have h9 := htf (j + 1) (by omega)
    rw [show n - (j + 1) = 2 by omega] at h9
    exact h9
  have htfr : ∀ i : Int, 0 ≤ i → i ≤ 5 → 0 ≤ tf i ∧ tf i ≤ 60 := fun i h1 h2 => by
    obtain ⟨k, rfl⟩ := Int.eq_ofNat_of_zero_le h1
    have h3 := htf k (by omega)
    by_cases hk : k ≤ n
    · have h4 := okT_ts hok (m := n - k) (j := k) (by omega)
      omega
    · rw [show n - k = 0 by omega] at h3
      rw [clL, tsum] at h3
      omega
  have hts := thr_ts hth hjm
  have hts2 : tsum (clL T V j 3) = (T ((j : Nat) : Int)).toNat + tsum (clL T V (j + 1) 2) := rfl
  refine w_aload_n dX4_walkFrom_0 rfl 0 rfl ?_
  refine w_get (i := 0) (T := TX4) (NF := 7) rb (by first | omega | with_reducible rfl) hw rfl (fun _ h => (List.mem_cons_of_mem _ (List.mem_append_left _ (List.mem_append_left _ (List.mem_append_right _ h))))) (by decide) (List.mem_of_getElem? (i := 1) rfl) rfl dX4_walkFrom_1 ?_
  refine w_iload_n dX4_walkFrom_4 rfl 1 rfl ?_
  refine w_calli (As := [.int (zI ((j : Nat) : Int))]) (rest := []) (n := 1) (c_X0_has hc (by first | omega | with_reducible rfl) (by first | omega | with_reducible rfl) (by first | omega | with_reducible rfl)) gX4_walkFrom_X0_has rfl rfl rfl (by decide +kernel) ⟨Nat.le_of_ble_eq_true rfl, Nat.le_of_ble_eq_true rfl⟩ rfl (by first | omega | with_reducible rfl) hc.1 rfl (Nat.le_of_ble_eq_true rfl) ⟨Nat.zero_le _, Nat.zero_le _⟩ dX4_walkFrom_5 rfl (fun g_1 hp_2 => ?_)
  subst g_1
  refine w_ifneB 12 dX4_walkFrom_8 (by decide) (fun c_8 => ?_) (fun c_8 => ?_)
  · refine w_aload_n dX4_walkFrom_12 rfl 0 rfl ?_
    refine w_get (i := 1) (T := TX4) (NF := 7) rb (by first | omega | with_reducible rfl) hw rfl (fun _ h => (List.mem_cons_of_mem _ (List.mem_append_left _ (List.mem_append_left _ (List.mem_append_right _ h))))) (by decide) (List.mem_of_getElem? (i := 2) rfl) rfl dX4_walkFrom_13 ?_
    refine w_iload_n dX4_walkFrom_16 rfl 1 rfl ?_
    refine w_iload_n dX4_walkFrom_17 rfl 2 rfl ?_
    refine w_calli (As := [.int (zI ((j : Nat) : Int)), .int (zI ((a : Nat) : Int))]) (rest := []) (n := 2) (c_X2_most hn hc (by first | omega | with_reducible rfl) (by first | omega | with_reducible rfl) hn5 (by omega) (by omega) (by first | omega | with_reducible rfl) (by first | omega | with_reducible rfl)) gX4_walkFrom_X2_most rfl rfl rfl (by decide +kernel) ⟨Nat.le_of_ble_eq_true rfl, Nat.le_of_ble_eq_true rfl⟩ rfl (by first | omega | with_reducible rfl) hn.1 rfl (Nat.le_of_ble_eq_true rfl) ⟨Nat.zero_le _, Nat.zero_le _⟩ dX4_walkFrom_18 rfl (fun g_3 hp_4 => ?_)
    subst g_3
    refine w_as (st' := [.int (zI ((min (T ((j : Nat) : Int)).toNat (R - a) : Nat) : Int))]) (sc_i (by first | omega | with_reducible rfl) rfl) ?_
    refine w_istore [(5, .int (zI ((min (T ((j : Nat) : Int)).toNat (R - a) : Nat) : Int))), (0, .ref (B + rb)), (1, .int (zI ((j : Nat) : Int))), (2, .int (zI ((a : Nat) : Int))), (3, .long (zJ w))] dX4_walkFrom_21 (by decide) rfl ?_
    refine w_aload_n dX4_walkFrom_23 rfl 1 rfl ?_
    refine w_get (i := 1) (T := TX4) (NF := 7) rb (by first | omega | with_reducible rfl) hw rfl (fun _ h => (List.mem_cons_of_mem _ (List.mem_append_left _ (List.mem_append_left _ (List.mem_append_right _ h))))) (by decide) (List.mem_of_getElem? (i := 2) rfl) rfl dX4_walkFrom_24 ?_
    refine w_iload_n dX4_walkFrom_27 rfl 2 rfl ?_
    refine w_iload_n dX4_walkFrom_28 rfl 3 rfl ?_
    refine w_calli (As := [.int (zI ((j : Nat) : Int)), .int (zI ((a : Nat) : Int))]) (rest := []) (n := 2) (c_X2_fewest hn (by first | omega | with_reducible rfl) (by omega) htfr (by first | omega | with_reducible rfl) (by first | omega | with_reducible rfl)) gX4_walkFrom_X2_fewest rfl rfl rfl (by decide +kernel) ⟨Nat.le_of_ble_eq_true rfl, Nat.le_of_ble_eq_true rfl⟩ rfl (by first | omega | with_reducible rfl) hn.1 rfl (Nat.le_of_ble_eq_true rfl) ⟨Nat.zero_le _, Nat.zero_le _⟩ dX4_walkFrom_29 rfl (fun g_5 hp_6 => ?_)
    subst g_5
    refine w_as (st' := [.int (zI (((lo (clL T V (j + 1) 2) (R - a)) : Nat) : Int))]) (sc_i (by rw [ht3]; unfold lo; omega) rfl) ?_
    refine w_istore [(6, .int (zI (((lo (clL T V (j + 1) 2) (R - a)) : Nat) : Int))), (5, .int (zI ((min (T ((j : Nat) : Int)).toNat (R - a) : Nat) : Int))), (0, .ref (B + rb)), (1, .int (zI ((j : Nat) : Int))), (2, .int (zI ((a : Nat) : Int))), (3, .long (zJ w))] dX4_walkFrom_32 (by decide) rfl ?_
    refine w_sub [(0, .ref (B + rb)), (1, .int (zI ((j : Nat) : Int))), (2, .int (zI ((a : Nat) : Int))), (3, .long (zJ w)), (5, .int (zI ((min (T ((j : Nat) : Int)).toNat (R - a) : Nat) : Int))), (6, .int (zI (((lo (clL T V (j + 1) 2) (R - a)) : Nat) : Int)))] [2, 3, 4, 5, 1, 0] rfl ?_
    refine w_lv (lv' := [(0, .ref (B + rb)), (1, .int (zI ((j : Nat) : Int))), (2, .int (zI ((a : Nat) : Int))), (3, .long (zJ w)), (5, .int (zI ((min (T ((j : Nat) : Int)).toNat (R - a) : Nat) : Int))), (6, .int (zI ((((lo (clL T V (j + 1) 2) (R - a)) + 0) : Nat) : Int)))]) (lc_s (lc_s (lc_s (lc_s (lc_s (lc_i (by first | omega | with_reducible rfl) rfl)))))) ?_
    refine w_loop2 (fun (k : Nat) (gl_7 : (Nat → va_E)) => vRare cy B gl_7 rb cb nb sw (rw + (srN (rf 0 sw ((T ((j : Nat) : Int)).toNat, (V ((j : Nat) : Int)).toNat) (clL T V (j + 1) 2) (R - a) w) (lo (clL T V (j + 1) 2) (R - a)) k)) (rt + (srN (rf 1 sw ((T ((j : Nat) : Int)).toNat, (V ((j : Nat) : Int)).toNat) (clL T V (j + 1) 2) (R - a) w) (lo (clL T V (j + 1) 2) (R - a)) k)) (lc + (srN (rf 2 sw ((T ((j : Nat) : Int)).toNat, (V ((j : Nat) : Int)).toNat) (clL T V (j + 1) 2) (R - a) w) (lo (clL T V (j + 1) 2) (R - a)) k)) rver ∧ vNet cy B gl_7 nb cb tf ((R : Nat) : Int) nver G ∧ vCol cy B gl_7 cb sets n cver T X V Wy ∧ (∀ q, (q < rb ∨ rb + 1 ≤ q) → gl_7 q = g q) ∧ k ≤ nn ((T ((j : Nat) : Int)).toNat, (V ((j : Nat) : Int)).toNat) (clL T V (j + 1) 2) (R - a)) (fun (k : Nat) (gl_7 : (Nat → va_E)) => nn ((T ((j : Nat) : Int)).toNat, (V ((j : Nat) : Int)).toNat) (clL T V (j + 1) 2) (R - a) - k) (fun (k : Nat) (gl_7 : (Nat → va_E)) => gl_7) (fun (k : Nat) (gl_7 : (Nat → va_E)) => [(0, .ref (B + rb)), (1, .int (zI ((j : Nat) : Int))), (2, .int (zI ((a : Nat) : Int))), (3, .long (zJ w)), (5, .int (zI ((min (T ((j : Nat) : Int)).toNat (R - a) : Nat) : Int))), (6, .int (zI ((((lo (clL T V (j + 1) 2) (R - a)) + k) : Nat) : Int)))]) ?_ 0 g ⟨(by have h9 := hw; simp only [srN, Int.add_zero]; exact h9), hn, hc, hfr_0, (Nat.zero_le _)⟩
    rintro k gl_7 ⟨hw_8, hn_9, hc_10, hfr_11, hk⟩ ih_34
    have hlo : lo (clL T V (j + 1) 2) (R - a) ≤ R - a ∧ nn ((T ((j : Nat) : Int)).toNat, (V ((j : Nat) : Int)).toNat) (clL T V (j + 1) 2) (R - a) ≤ 13 := by unfold lo nn; omega
    refine w_iload dX4_walkFrom_34 5 rfl ?_
    refine w_iload dX4_walkFrom_36 4 rfl ?_
    refine w_icmp_gt 70 dX4_walkFrom_38 (by decide) (by first | omega | with_reducible rfl) (by first | omega | with_reducible rfl) (fun c_38 => ?_) (fun c_38 => ?_)
    · have hk9 : k = nn ((T ((j : Nat) : Int)).toNat, (V ((j : Nat) : Int)).toNat) (clL T V (j + 1) 2) (R - a) := by unfold lo nn at *; omega
      exact w_vret dX4_walkFrom_70 rfl ⟨(by have h9 := hw_8; rw [hk9] at h9; exact h9), hfr_11⟩
    · have hx : lo (clL T V (j + 1) 2) (R - a) + k ≤ (T ((j : Nat) : Int)).toNat := by omega
      refine w_aload_n dX4_walkFrom_41 rfl 0 rfl ?_
      refine w_iload_n dX4_walkFrom_42 rfl 1 rfl ?_
      refine w_iconst dX4_walkFrom_43 ?_
      refine w_iadd dX4_walkFrom_44 ?_
      refine w_iload_n dX4_walkFrom_45 rfl 2 rfl ?_
      refine w_iload dX4_walkFrom_46 5 rfl ?_
      refine w_iadd dX4_walkFrom_48 ?_
      refine w_lload_n dX4_walkFrom_49 rfl 3 rfl ?_
      refine w_aload_n dX4_walkFrom_50 rfl 0 rfl ?_
      refine w_get (i := 0) (T := TX4) (NF := 7) rb (by first | omega | with_reducible rfl) hw_8 rfl (fun _ h => (List.mem_cons_of_mem _ (List.mem_append_left _ (List.mem_append_left _ (List.mem_append_right _ h))))) (by decide) (List.mem_of_getElem? (i := 1) rfl) rfl dX4_walkFrom_51 ?_
      refine w_iload_n dX4_walkFrom_54 rfl 1 rfl ?_
      refine w_iload dX4_walkFrom_55 5 rfl ?_
      refine w_calll (As := [.int (zI ((j : Nat) : Int)), .int (zI ((((lo (clL T V (j + 1) 2) (R - a)) + k) : Nat) : Int))]) (rest := [.long (zJ w), .int (zI (((a : Nat) : Int) + ((((lo (clL T V (j + 1) 2) (R - a)) + k) : Nat) : Int))), .int (zI (((j : Nat) : Int) + 1)), .ref (B + rb)]) (n := 2) (c_X0_waysOf hc_10 (by first | omega | with_reducible rfl) (by first | omega | with_reducible rfl) (by first | omega | with_reducible rfl) (by first | omega | with_reducible rfl)) gX4_walkFrom_X0_waysOf rfl rfl rfl (by decide +kernel) ⟨Nat.le_of_ble_eq_true rfl, Nat.le_of_ble_eq_true rfl⟩ rfl (by first | omega | with_reducible rfl) hc_10.1 rfl (Nat.le_of_ble_eq_true rfl) ⟨Nat.zero_le _, Nat.zero_le _⟩ dX4_walkFrom_57 rfl (fun g_12 hp_13 => ?_)
      subst g_12
      refine w_as (st' := [.long (zJ ((ch (T ((j : Nat) : Int)).toNat (lo (clL T V (j + 1) 2) (R - a) + k) : Nat) : Int)), .long (zJ w), .int (zI (((a : Nat) : Int) + ((((lo (clL T V (j + 1) 2) (R - a)) + k) : Nat) : Int))), .int (zI (((j : Nat) : Int) + 1)), .ref (B + rb)]) (sc_l (by rw [wyA_in (by omega), Int.toNat_natCast]; exact hWy _ (by omega) _ (by omega)) rfl) ?_
      refine w_lmul dX4_walkFrom_60 ?_
      refine w_as (st' := [.long (zJ (w * ((ch (T ((j : Nat) : Int)).toNat (lo (clL T V (j + 1) 2) (R - a) + k) : Nat) : Int))), .int (zI (((a + (lo (clL T V (j + 1) 2) (R - a) + k)) : Nat) : Int)), .int (zI (((j + 1) : Nat) : Int)), .ref (B + rb)]) (lc_s (sc_i (by first | omega | with_reducible rfl) (sc_i (by first | omega | with_reducible rfl) rfl))) ?_
      refine w_callv (As := [.int (zI (((j + 1) : Nat) : Int)), .int (zI (((a + (lo (clL T V (j + 1) 2) (R - a) + k)) : Nat) : Int)), .long (zJ (w * ((ch (T ((j : Nat) : Int)).toNat (lo (clL T V (j + 1) 2) (R - a) + k) : Nat) : Int)))]) (rest := []) (n := 3) (c_X4_lookAt_2 (j := (j + 1)) (a := (a + (lo (clL T V (j + 1) 2) (R - a) + k))) hw_8 hn_9 hc_10 (by first | omega | with_reducible rfl) (by first | omega | with_reducible rfl) (by first | omega | with_reducible rfl) (by first | omega | with_reducible rfl) (by first | omega | with_reducible rfl) hok (by first | omega | with_reducible rfl) hNF htf hWy (by first | omega | with_reducible rfl) (by first | omega | with_reducible rfl) (thr_next hth hjm (by omega) hx (by omega)) (wok_c (c := ((T ((j : Nat) : Int)).toNat, (V ((j : Nat) : Int)).toNat)) (cs := (clL T V (j + 1) 2)) hwk _)) gX4_walkFrom_X4_lookAt rfl rfl rfl (by decide +kernel) ⟨Nat.le_of_ble_eq_true rfl, Nat.le_of_ble_eq_true rfl⟩ rfl (by first | omega | with_reducible rfl) hw_8 rfl (Nat.le_of_ble_eq_true rfl) ⟨Nat.zero_le _, Nat.zero_le _⟩ dX4_walkFrom_61 rfl (fun g_14 hp_15 => ?_)
      obtain ⟨hw_16, hf_17⟩ := hp_15
      have hn_18 : vNet cy B g_14 nb cb tf ((R : Nat) : Int) nver G := vNet_fr hn_9 (fun q h1 h2 => hf_17 q (by omega))
      have hc_19 : vCol cy B g_14 cb sets n cver T X V Wy := vCol_fr hc_10 (fun q h1 h2 => hf_17 q (by omega))
      have hfr_20 : ∀ q, (q < rb ∨ rb + 1 ≤ q) → g_14 q = g q := fun q hq => (hf_17 q (by omega)).trans (hfr_11 q hq)
      refine w_iinc 5 [(6, .int (zI (((((lo (clL T V (j + 1) 2) (R - a)) + k) : Nat) : Int) + 1))), (0, .ref (B + rb)), (1, .int (zI ((j : Nat) : Int))), (2, .int (zI ((a : Nat) : Int))), (3, .long (zJ w)), (5, .int (zI ((min (T ((j : Nat) : Int)).toNat (R - a) : Nat) : Int)))] dX4_walkFrom_64 rfl (by decide) rfl ?_
      refine w_goto 34 dX4_walkFrom_67 (by decide) ?_
      refine w_sub [(0, .ref (B + rb)), (1, .int (zI ((j : Nat) : Int))), (2, .int (zI ((a : Nat) : Int))), (3, .long (zJ w)), (5, .int (zI ((min (T ((j : Nat) : Int)).toNat (R - a) : Nat) : Int))), (6, .int (zI (((((lo (clL T V (j + 1) 2) (R - a)) + k) : Nat) : Int) + 1)))] [1, 2, 3, 4, 5, 0] rfl ?_
      refine w_lv (lv' := [(0, .ref (B + rb)), (1, .int (zI ((j : Nat) : Int))), (2, .int (zI ((a : Nat) : Int))), (3, .long (zJ w)), (5, .int (zI ((min (T ((j : Nat) : Int)).toNat (R - a) : Nat) : Int))), (6, .int (zI ((((lo (clL T V (j + 1) 2) (R - a)) + (k + 1)) : Nat) : Int)))]) (lc_s (lc_s (lc_s (lc_s (lc_s (lc_i (by first | omega | with_reducible rfl) rfl)))))) ?_
      exact ih_34 (k + 1) g_14 ⟨(by have h9 := hw_16; rw [st_rf, st_rf, st_rf] at h9; exact h9), hn_18, hc_19, hfr_20, (by unfold lo nn at *; omega)⟩ (by unfold lo nn at *; omega)
  · exfalso; omega
set_option maxHeartbeats 4000000 in
set_option maxRecDepth 100000 in
theorem c_X4_lookAt_3 {l : Launch} {D : va_G} {cy : Nat → ClassId} {B N : Nat} {g : Nat → va_E} {rb : Nat} {sw rw rt lc rver : Int} {nb cb : Nat} {tf : Int → Int} {nver : Int} {G : Nat → Int → Int} {sets n R : Nat} {cver : Int} {T X V : Int → Int} {Wy : Nat → Int → Int} {j a : Nat} {w : Int} (hw : vRare cy B g rb cb nb sw rw rt lc rver) (hn : vNet cy B g nb cb tf ((R : Nat) : Int) nver G) (hc : vCol cy B g cb sets n cver T X V Wy) (hRB : rb + 1 ≤ N) (hd1 : rb + 1 ≤ nb ∨ nb + 11 ≤ rb) (hd2 : rb + 1 ≤ cb ∨ cb + 10 ≤ rb) (hNB : nb + 11 ≤ N) (hCB : cb + 10 ≤ N) (hok : okT T V n) (hR : R ≤ 60) (hNF : NF T V n R G) (htf : ∀ j : Nat, j ≤ 5 → tf ((j : Nat) : Int) = ((tsum (clL T V j (n - j)) : Nat) : Int)) (hWy : ∀ j : Nat, j < n → ∀ x : Nat, x ≤ 12 → Wy j ((x : Nat) : Int) = ((ch (T ((j : Nat) : Int)).toNat x : Nat) : Int)) (hsw : 0 ≤ sw ∧ sw ≤ 1152921504606846976) (hjm : j + 3 = n) (hth : thr T V n R j a) (hwk : wok w (clL T V j 3)) : CTv l yX4_lookAt wsX4_lookAt (rmo 7 188) D cy B N g [.ref (B + rb), .int (zI ((j : Nat) : Int)), .int (zI ((a : Nat) : Int)), .long (zJ w)] (fun g' => vRare cy B g' rb cb nb sw (rw + la 0 sw (clL T V j 3) (R - a) w) (rt + la 1 sw (clL T V j 3) (R - a) w) (lc + la 2 sw (clL T V j 3) (R - a) w) rver ∧ (∀ q, (q < rb ∨ rb + 1 ≤ q) → g' q = g q)) := by
  refine WW_of (cc := cX4_lookAt) (maxL := 5) (ret := none) (own := RX4) (by decide) rfl rfl (Nat.le_of_ble_eq_true rfl) rfl ?_
  intro pp ee ss mm bl me co hmn
  have hfr_0 : ∀ q, (q < rb ∨ rb + 1 ≤ q) → g q = g q := fun _ _ => rfl
  have hn5 : n ≤ 5 := hok.1
  have htR := hth.2.1
  have hwl := wok_lg hwk (R - a)
  have hws := wok_sh hwk (thr_ts hth hjm)
  have htc := tc_rg (r := R - a) hok (show j + 3 ≤ n by omega)
  refine w_aload_n dX4_lookAt_0 rfl 0 rfl ?_
  refine w_dup dX4_lookAt_1 rfl ?_
  refine w_get (i := 5) (T := TX4) (NF := 7) rb (by first | omega | with_reducible rfl) hw rfl (fun _ h => (List.mem_cons_of_mem _ (List.mem_append_left _ (List.mem_append_left _ (List.mem_append_right _ h))))) (by decide) (List.mem_of_getElem? (i := 1) rfl) rfl dX4_lookAt_2 ?_
  refine w_iconst dX4_lookAt_5 ?_
  refine w_iadd dX4_lookAt_6 ?_
  refine w_put (i := 5) (T := TX4) (NF := 7) rb (by first | omega | with_reducible rfl) hw rfl (fun _ h => (List.mem_cons_of_mem _ (List.mem_append_left _ (List.mem_append_left _ (List.mem_append_right _ h))))) tyX4 tyX4_ok nmX4 (by decide) (List.mem_of_getElem? (i := 1) rfl) rfl rfl rfl (Nat.le_of_ble_eq_true rfl) dX4_lookAt_7 (fun g_1 he_2 hn_3 => ?_)
  have hw_4 : vRare cy B g_1 rb cb nb sw rw rt (lc + 1) rver := he_2
  have hn_5 : vNet cy B g_1 nb cb tf ((R : Nat) : Int) nver G := vNet_fr hn (fun q h1 h2 => hn_3 q (by omega))
  have hc_6 : vCol cy B g_1 cb sets n cver T X V Wy := vCol_fr hc (fun q h1 h2 => hn_3 q (by omega))
  have hfr_7 : ∀ q, (q < rb ∨ rb + 1 ≤ q) → g_1 q = g q := fun q hq => (hn_3 q (by omega)).trans (hfr_0 q hq)
  refine w_lload_n dX4_lookAt_10 rfl 3 rfl ?_
  refine w_aload_n dX4_lookAt_11 rfl 0 rfl ?_
  refine w_get (i := 1) (T := TX4) (NF := 7) rb (by first | omega | with_reducible rfl) hw_4 rfl (fun _ h => (List.mem_cons_of_mem _ (List.mem_append_left _ (List.mem_append_left _ (List.mem_append_right _ h))))) (by decide) (List.mem_of_getElem? (i := 2) rfl) rfl dX4_lookAt_12 ?_
  refine w_iconst dX4_lookAt_15 ?_
  refine w_iload_n dX4_lookAt_16 rfl 1 rfl ?_
  refine w_iload_n dX4_lookAt_17 rfl 2 rfl ?_
  refine w_calll (As := [.int (zI 2), .int (zI ((j : Nat) : Int)), .int (zI ((a : Nat) : Int))]) (rest := [.long (zJ w)]) (n := 3) (c_X2_at hn_5 (by first | omega | with_reducible rfl) (by first | omega | with_reducible rfl) (by first | omega | with_reducible rfl) (by first | omega | with_reducible rfl)) gX4_lookAt_X2_at rfl rfl rfl (by decide +kernel) ⟨Nat.le_of_ble_eq_true rfl, Nat.le_of_ble_eq_true rfl⟩ rfl (by first | omega | with_reducible rfl) hn_5.1 rfl (Nat.le_of_ble_eq_true rfl) ⟨Nat.zero_le _, Nat.zero_le _⟩ dX4_lookAt_18 rfl (fun g_8 hp_9 => ?_)
  subst g_8
  refine w_as (st' := [.long (zJ (lg (clL T V j 3) (R - a))), .long (zJ w)]) (sc_l (NF_at (kd := 2) hNF hth hjm (by omega) hR (by omega) (by omega) rfl) rfl) ?_
  refine w_lmul dX4_lookAt_21 ?_
  refine w_aload_n dX4_lookAt_22 rfl 0 rfl ?_
  refine w_get (i := 2) (T := TX4) (NF := 7) rb (by first | omega | with_reducible rfl) hw_4 rfl (fun _ h => (List.mem_cons_of_mem _ (List.mem_append_left _ (List.mem_append_left _ (List.mem_append_right _ h))))) (by decide) (List.mem_of_getElem? (i := 3) rfl) rfl dX4_lookAt_23 ?_
  refine w_lcmp_gt 74 dX4_lookAt_26 dX4_lookAt_27 (by decide) (by first | omega | with_reducible rfl) (by first | omega | with_reducible rfl) (fun c_26 => ?_) (fun c_26 => ?_)
  · refine w_lload_n dX4_lookAt_74 rfl 3 rfl ?_
    refine w_aload_n dX4_lookAt_75 rfl 0 rfl ?_
    refine w_get (i := 1) (T := TX4) (NF := 7) rb (by first | omega | with_reducible rfl) hw_4 rfl (fun _ h => (List.mem_cons_of_mem _ (List.mem_append_left _ (List.mem_append_left _ (List.mem_append_right _ h))))) (by decide) (List.mem_of_getElem? (i := 2) rfl) rfl dX4_lookAt_76 ?_
    refine w_iconst dX4_lookAt_79 ?_
    refine w_iload_n dX4_lookAt_80 rfl 1 rfl ?_
    refine w_iload_n dX4_lookAt_81 rfl 2 rfl ?_
    refine w_calll (As := [.int (zI 3), .int (zI ((j : Nat) : Int)), .int (zI ((a : Nat) : Int))]) (rest := [.long (zJ w)]) (n := 3) (c_X2_at hn_5 (by first | omega | with_reducible rfl) (by first | omega | with_reducible rfl) (by first | omega | with_reducible rfl) (by first | omega | with_reducible rfl)) gX4_lookAt_X2_at rfl rfl rfl (by decide +kernel) ⟨Nat.le_of_ble_eq_true rfl, Nat.le_of_ble_eq_true rfl⟩ rfl (by first | omega | with_reducible rfl) hn_5.1 rfl (Nat.le_of_ble_eq_true rfl) ⟨Nat.zero_le _, Nat.zero_le _⟩ dX4_lookAt_82 rfl (fun g_10 hp_11 => ?_)
    subst g_10
    refine w_as (st' := [.long (zJ (sh (clL T V j 3) (R - a))), .long (zJ w)]) (sc_l (NF_at (kd := 3) hNF hth hjm (by omega) hR (by omega) (by omega) rfl) rfl) ?_
    refine w_lmul dX4_lookAt_85 ?_
    refine w_aload_n dX4_lookAt_86 rfl 0 rfl ?_
    refine w_get (i := 2) (T := TX4) (NF := 7) rb (by first | omega | with_reducible rfl) hw_4 rfl (fun _ h => (List.mem_cons_of_mem _ (List.mem_append_left _ (List.mem_append_left _ (List.mem_append_right _ h))))) (by decide) (List.mem_of_getElem? (i := 3) rfl) rfl dX4_lookAt_87 ?_
    refine w_lcmp_gt 101 dX4_lookAt_90 dX4_lookAt_91 (by decide) (by first | omega | with_reducible rfl) (by first | omega | with_reducible rfl) (fun c_90 => ?_) (fun c_90 => ?_)
    · exact w_vret dX4_lookAt_101 rfl ⟨(by have h9 := hw_4; first | (obtain ⟨e0, e1, e2⟩ := la_yes (s := sw) (cs := (clL T V j 3)) (r := R - a) (w := w) (by omega); rw [e0, e1, e2]; exact h9) | (obtain ⟨e0, e1, e2⟩ := la_walk (s := sw) (cs := (clL T V j 3)) (r := R - a) (w := w) (by omega) (by omega); rw [e0, e1, e2, ← Int.add_assoc]; exact h9) | (obtain ⟨e0, e1, e2⟩ := la_no (s := sw) (cs := (clL T V j 3)) (r := R - a) (w := w) (by omega) (by omega); rw [e0, e1, e2, Int.add_zero, Int.add_zero]; exact h9)), hfr_7⟩
    · refine w_aload_n dX4_lookAt_94 rfl 0 rfl ?_
      refine w_iload_n dX4_lookAt_95 rfl 1 rfl ?_
      refine w_iload_n dX4_lookAt_96 rfl 2 rfl ?_
      refine w_lload_n dX4_lookAt_97 rfl 3 rfl ?_
      refine w_callv (As := [.int (zI ((j : Nat) : Int)), .int (zI ((a : Nat) : Int)), .long (zJ w)]) (rest := []) (n := 3) (c_X4_walkFrom_3 (j := j) (a := a) hw_4 hn_5 hc_6 (by first | omega | with_reducible rfl) (by first | omega | with_reducible rfl) (by first | omega | with_reducible rfl) (by first | omega | with_reducible rfl) (by first | omega | with_reducible rfl) hok (by first | omega | with_reducible rfl) hNF htf hWy (by first | omega | with_reducible rfl) (by first | omega | with_reducible rfl) hth hwk) gX4_lookAt_X4_walkFrom rfl rfl rfl (by decide +kernel) ⟨Nat.le_of_ble_eq_true rfl, Nat.le_of_ble_eq_true rfl⟩ rfl (by first | omega | with_reducible rfl) hw_4 rfl (Nat.le_of_ble_eq_true rfl) ⟨Nat.zero_le _, Nat.zero_le _⟩ dX4_lookAt_98 rfl (fun g_12 hp_13 => ?_)
      obtain ⟨hw_14, hf_15⟩ := hp_13
      have hn_16 : vNet cy B g_12 nb cb tf ((R : Nat) : Int) nver G := vNet_fr hn_5 (fun q h1 h2 => hf_15 q (by omega))
      have hc_17 : vCol cy B g_12 cb sets n cver T X V Wy := vCol_fr hc_6 (fun q h1 h2 => hf_15 q (by omega))
      have hfr_18 : ∀ q, (q < rb ∨ rb + 1 ≤ q) → g_12 q = g q := fun q hq => (hf_15 q (by omega)).trans (hfr_7 q hq)
      exact w_vret dX4_lookAt_101 rfl ⟨(by have h9 := hw_14; first | (obtain ⟨e0, e1, e2⟩ := la_yes (s := sw) (cs := (clL T V j 3)) (r := R - a) (w := w) (by omega); rw [e0, e1, e2]; exact h9) | (obtain ⟨e0, e1, e2⟩ := la_walk (s := sw) (cs := (clL T V j 3)) (r := R - a) (w := w) (by omega) (by omega); rw [e0, e1, e2, ← Int.add_assoc]; exact h9) | (obtain ⟨e0, e1, e2⟩ := la_no (s := sw) (cs := (clL T V j 3)) (r := R - a) (w := w) (by omega) (by omega); rw [e0, e1, e2, Int.add_zero, Int.add_zero]; exact h9)), hfr_18⟩
  · refine w_aload_n dX4_lookAt_30 rfl 0 rfl ?_
    refine w_dup dX4_lookAt_31 rfl ?_
    refine w_get (i := 3) (T := TX4) (NF := 7) rb (by first | omega | with_reducible rfl) hw_4 rfl (fun _ h => (List.mem_cons_of_mem _ (List.mem_append_left _ (List.mem_append_left _ (List.mem_append_right _ h))))) (by decide) (List.mem_of_getElem? (i := 4) rfl) rfl dX4_lookAt_32 ?_
    refine w_lload_n dX4_lookAt_35 rfl 3 rfl ?_
    refine w_aload_n dX4_lookAt_36 rfl 0 rfl ?_
    refine w_get (i := 1) (T := TX4) (NF := 7) rb (by first | omega | with_reducible rfl) hw_4 rfl (fun _ h => (List.mem_cons_of_mem _ (List.mem_append_left _ (List.mem_append_left _ (List.mem_append_right _ h))))) (by decide) (List.mem_of_getElem? (i := 2) rfl) rfl dX4_lookAt_37 ?_
    refine w_iconst dX4_lookAt_40 ?_
    refine w_iload_n dX4_lookAt_41 rfl 1 rfl ?_
    refine w_iload_n dX4_lookAt_42 rfl 2 rfl ?_
    refine w_calll (As := [.int (zI 1), .int (zI ((j : Nat) : Int)), .int (zI ((a : Nat) : Int))]) (rest := [.long (zJ w), .long (zJ rw), .ref (B + rb)]) (n := 3) (c_X2_at hn_5 (by first | omega | with_reducible rfl) (by first | omega | with_reducible rfl) (by first | omega | with_reducible rfl) (by first | omega | with_reducible rfl)) gX4_lookAt_X2_at rfl rfl rfl (by decide +kernel) ⟨Nat.le_of_ble_eq_true rfl, Nat.le_of_ble_eq_true rfl⟩ rfl (by first | omega | with_reducible rfl) hn_5.1 rfl (Nat.le_of_ble_eq_true rfl) ⟨Nat.zero_le _, Nat.zero_le _⟩ dX4_lookAt_43 rfl (fun g_19 hp_20 => ?_)
    subst g_19
    refine w_as (st' := [.long (zJ (bh (clL T V j 3) (R - a))), .long (zJ w), .long (zJ rw), .ref (B + rb)]) (sc_l (NF_at (kd := 1) hNF hth hjm (by omega) hR (by omega) (by omega) rfl) rfl) ?_
    refine w_lmul dX4_lookAt_46 ?_
    refine w_ladd dX4_lookAt_47 ?_
    refine w_put (i := 3) (T := TX4) (NF := 7) rb (by first | omega | with_reducible rfl) hw_4 rfl (fun _ h => (List.mem_cons_of_mem _ (List.mem_append_left _ (List.mem_append_left _ (List.mem_append_right _ h))))) tyX4 tyX4_ok nmX4 (by decide) (List.mem_of_getElem? (i := 4) rfl) rfl rfl rfl (Nat.le_of_ble_eq_true rfl) dX4_lookAt_48 (fun g_21 he_22 hn_23 => ?_)
    have hw_24 : vRare cy B g_21 rb cb nb sw (rw + (w * (bh (clL T V j 3) (R - a)))) rt (lc + 1) rver := he_22
    have hn_25 : vNet cy B g_21 nb cb tf ((R : Nat) : Int) nver G := vNet_fr hn_5 (fun q h1 h2 => hn_23 q (by omega))
    have hc_26 : vCol cy B g_21 cb sets n cver T X V Wy := vCol_fr hc_6 (fun q h1 h2 => hn_23 q (by omega))
    have hfr_27 : ∀ q, (q < rb ∨ rb + 1 ≤ q) → g_21 q = g q := fun q hq => (hn_23 q (by omega)).trans (hfr_7 q hq)
    refine w_aload_n dX4_lookAt_51 rfl 0 rfl ?_
    refine w_dup dX4_lookAt_52 rfl ?_
    refine w_get (i := 4) (T := TX4) (NF := 7) rb (by first | omega | with_reducible rfl) hw_24 rfl (fun _ h => (List.mem_cons_of_mem _ (List.mem_append_left _ (List.mem_append_left _ (List.mem_append_right _ h))))) (by decide) (List.mem_of_getElem? (i := 5) rfl) rfl dX4_lookAt_53 ?_
    refine w_aload_n dX4_lookAt_56 rfl 0 rfl ?_
    refine w_get (i := 1) (T := TX4) (NF := 7) rb (by first | omega | with_reducible rfl) hw_24 rfl (fun _ h => (List.mem_cons_of_mem _ (List.mem_append_left _ (List.mem_append_left _ (List.mem_append_right _ h))))) (by decide) (List.mem_of_getElem? (i := 2) rfl) rfl dX4_lookAt_57 ?_
    refine w_iconst dX4_lookAt_60 ?_
    refine w_iload_n dX4_lookAt_61 rfl 1 rfl ?_
    refine w_iload_n dX4_lookAt_62 rfl 2 rfl ?_
    refine w_calll (As := [.int (zI 4), .int (zI ((j : Nat) : Int)), .int (zI ((a : Nat) : Int))]) (rest := [.int (zI rt), .ref (B + rb)]) (n := 3) (c_X2_at hn_25 (by first | omega | with_reducible rfl) (by first | omega | with_reducible rfl) (by first | omega | with_reducible rfl) (by first | omega | with_reducible rfl)) gX4_lookAt_X2_at rfl rfl rfl (by decide +kernel) ⟨Nat.le_of_ble_eq_true rfl, Nat.le_of_ble_eq_true rfl⟩ rfl (by first | omega | with_reducible rfl) hn_25.1 rfl (Nat.le_of_ble_eq_true rfl) ⟨Nat.zero_le _, Nat.zero_le _⟩ dX4_lookAt_63 rfl (fun g_28 hp_29 => ?_)
    subst g_28
    refine w_as (st' := [.long (zJ (tc (clL T V j 3) (R - a))), .int (zI rt), .ref (B + rb)]) (sc_l (NF_at (kd := 4) hNF hth hjm (by omega) hR (by omega) (by omega) rfl) rfl) ?_
    refine w_l2i dX4_lookAt_66 (by first | omega | with_reducible rfl) ?_
    refine w_iadd dX4_lookAt_67 ?_
    refine w_put (i := 4) (T := TX4) (NF := 7) rb (by first | omega | with_reducible rfl) hw_24 rfl (fun _ h => (List.mem_cons_of_mem _ (List.mem_append_left _ (List.mem_append_left _ (List.mem_append_right _ h))))) tyX4 tyX4_ok nmX4 (by decide) (List.mem_of_getElem? (i := 5) rfl) rfl rfl rfl (Nat.le_of_ble_eq_true rfl) dX4_lookAt_68 (fun g_30 he_31 hn_32 => ?_)
    have hw_33 : vRare cy B g_30 rb cb nb sw (rw + (w * (bh (clL T V j 3) (R - a)))) (rt + (tc (clL T V j 3) (R - a))) (lc + 1) rver := he_31
    have hn_34 : vNet cy B g_30 nb cb tf ((R : Nat) : Int) nver G := vNet_fr hn_25 (fun q h1 h2 => hn_32 q (by omega))
    have hc_35 : vCol cy B g_30 cb sets n cver T X V Wy := vCol_fr hc_26 (fun q h1 h2 => hn_32 q (by omega))
    have hfr_36 : ∀ q, (q < rb ∨ rb + 1 ≤ q) → g_30 q = g q := fun q hq => (hn_32 q (by omega)).trans (hfr_27 q hq)
    refine w_goto 101 dX4_lookAt_71 (by decide) ?_
    exact w_vret dX4_lookAt_101 rfl ⟨(by have h9 := hw_33; first | (obtain ⟨e0, e1, e2⟩ := la_yes (s := sw) (cs := (clL T V j 3)) (r := R - a) (w := w) (by omega); rw [e0, e1, e2]; exact h9) | (obtain ⟨e0, e1, e2⟩ := la_walk (s := sw) (cs := (clL T V j 3)) (r := R - a) (w := w) (by omega) (by omega); rw [e0, e1, e2, ← Int.add_assoc]; exact h9) | (obtain ⟨e0, e1, e2⟩ := la_no (s := sw) (cs := (clL T V j 3)) (r := R - a) (w := w) (by omega) (by omega); rw [e0, e1, e2, Int.add_zero, Int.add_zero]; exact h9)), hfr_36⟩
set_option maxHeartbeats 4000000 in
set_option maxRecDepth 100000 in
theorem c_X4_walkFrom_4 {l : Launch} {D : va_G} {cy : Nat → ClassId} {B N : Nat} {g : Nat → va_E} {rb : Nat} {sw rw rt lc rver : Int} {nb cb : Nat} {tf : Int → Int} {nver : Int} {G : Nat → Int → Int} {sets n R : Nat} {cver : Int} {T X V : Int → Int} {Wy : Nat → Int → Int} {j a : Nat} {w : Int} (hw : vRare cy B g rb cb nb sw rw rt lc rver) (hn : vNet cy B g nb cb tf ((R : Nat) : Int) nver G) (hc : vCol cy B g cb sets n cver T X V Wy) (hRB : rb + 1 ≤ N) (hd1 : rb + 1 ≤ nb ∨ nb + 11 ≤ rb) (hd2 : rb + 1 ≤ cb ∨ cb + 10 ≤ rb) (hNB : nb + 11 ≤ N) (hCB : cb + 10 ≤ N) (hok : okT T V n) (hR : R ≤ 60) (hNF : NF T V n R G) (htf : ∀ j : Nat, j ≤ 5 → tf ((j : Nat) : Int) = ((tsum (clL T V j (n - j)) : Nat) : Int)) (hWy : ∀ j : Nat, j < n → ∀ x : Nat, x ≤ 12 → Wy j ((x : Nat) : Int) = ((ch (T ((j : Nat) : Int)).toNat x : Nat) : Int)) (hsw : 0 ≤ sw ∧ sw ≤ 1152921504606846976) (hjm : j + 4 = n) (hth : thr T V n R j a) (hwk : wok w (clL T V j 4)) : CTv l yX4_walkFrom wsX4_walkFrom (rmo 8 212) D cy B N g [.ref (B + rb), .int (zI ((j : Nat) : Int)), .int (zI ((a : Nat) : Int)), .long (zJ w)] (fun g' => vRare cy B g' rb cb nb sw (rw + rk 0 sw (clL T V j 4) (R - a) w) (rt + rk 1 sw (clL T V j 4) (R - a) w) (lc + rk 2 sw (clL T V j 4) (R - a) w) rver ∧ (∀ q, (q < rb ∨ rb + 1 ≤ q) → g' q = g q)) := by
  refine WW_of (cc := cX4_walkFrom) (maxL := 7) (ret := none) (own := RX4) (by decide) rfl rfl (Nat.le_of_ble_eq_true rfl) rfl ?_
  intro pp ee ss mm bl me co hmn
  have hfr_0 : ∀ q, (q < rb ∨ rb + 1 ≤ q) → g q = g q := fun _ _ => rfl
  have hn5 : n ≤ 5 := hok.1
  have htR := hth.2.1
  have hq1 := hok.2 ((j : Nat) : Int) (by omega) (by omega)
  have ht3 : tf (((j : Nat) : Int) + 1) = ((tsum (clL T V (j + 1) 3) : Nat) : Int) := by
    have h9 := htf (j + 1) (by omega)
    rw [show n - (j + 1) = 3 by omega] at h9
    exact h9
  have htfr : ∀ i : Int, 0 ≤ i → i ≤ 5 → 0 ≤ tf i ∧ tf i ≤ 60 := fun i h1 h2 => by
    obtain ⟨k, rfl⟩ := Int.eq_ofNat_of_zero_le h1
    have h3 := htf k (by omega)
    by_cases hk : k ≤ n
    · have h4 := okT_ts hok (m := n - k) (j := k) (by omega)
      omega
    · rw [show n - k = 0 by omega] at h3
      rw [clL, tsum] at h3
      omega
  have hts := thr_ts hth hjm
  have hts2 : tsum (clL T V j 4) = (T ((j : Nat) : Int)).toNat + tsum (clL T V (j + 1) 3) := rfl
  refine w_aload_n dX4_walkFrom_0 rfl 0 rfl ?_
  refine w_get (i := 0) (T := TX4) (NF := 7) rb (by first | omega | with_reducible rfl) hw rfl (fun _ h => (List.mem_cons_of_mem _ (List.mem_append_left _ (List.mem_append_left _ (List.mem_append_right _ h))))) (by decide) (List.mem_of_getElem? (i := 1) rfl) rfl dX4_walkFrom_1 ?_
  refine w_iload_n dX4_walkFrom_4 rfl 1 rfl ?_
  refine w_calli (As := [.int (zI ((j : Nat) : Int))]) (rest := []) (n := 1) (c_X0_has hc (by first | omega | with_reducible rfl) (by first | omega | with_reducible rfl) (by first | omega | with_reducible rfl)) gX4_walkFrom_X0_has rfl rfl rfl (by decide +kernel) ⟨Nat.le_of_ble_eq_true rfl, Nat.le_of_ble_eq_true rfl⟩ rfl (by first | omega | with_reducible rfl) hc.1 rfl (Nat.le_of_ble_eq_true rfl) ⟨Nat.zero_le _, Nat.zero_le _⟩ dX4_walkFrom_5 rfl (fun g_1 hp_2 => ?_)
  subst g_1
  refine w_ifneB 12 dX4_walkFrom_8 (by decide) (fun c_8 => ?_) (fun c_8 => ?_)
  · refine w_aload_n dX4_walkFrom_12 rfl 0 rfl ?_
    refine w_get (i := 1) (T := TX4) (NF := 7) rb (by first | omega | with_reducible rfl) hw rfl (fun _ h => (List.mem_cons_of_mem _ (List.mem_append_left _ (List.mem_append_left _ (List.mem_append_right _ h))))) (by decide) (List.mem_of_getElem? (i := 2) rfl) rfl dX4_walkFrom_13 ?_
    refine w_iload_n dX4_walkFrom_16 rfl 1 rfl ?_
    refine w_iload_n dX4_walkFrom_17 rfl 2 rfl ?_
    refine w_calli (As := [.int (zI ((j : Nat) : Int)), .int (zI ((a : Nat) : Int))]) (rest := []) (n := 2) (c_X2_most hn hc (by first | omega | with_reducible rfl) (by first | omega | with_reducible rfl) hn5 (by omega) (by omega) (by first | omega | with_reducible rfl) (by first | omega | with_reducible rfl)) gX4_walkFrom_X2_most rfl rfl rfl (by decide +kernel) ⟨Nat.le_of_ble_eq_true rfl, Nat.le_of_ble_eq_true rfl⟩ rfl (by first | omega | with_reducible rfl) hn.1 rfl (Nat.le_of_ble_eq_true rfl) ⟨Nat.zero_le _, Nat.zero_le _⟩ dX4_walkFrom_18 rfl (fun g_3 hp_4 => ?_)
    subst g_3
    refine w_as (st' := [.int (zI ((min (T ((j : Nat) : Int)).toNat (R - a) : Nat) : Int))]) (sc_i (by first | omega | with_reducible rfl) rfl) ?_
    refine w_istore [(5, .int (zI ((min (T ((j : Nat) : Int)).toNat (R - a) : Nat) : Int))), (0, .ref (B + rb)), (1, .int (zI ((j : Nat) : Int))), (2, .int (zI ((a : Nat) : Int))), (3, .long (zJ w))] dX4_walkFrom_21 (by decide) rfl ?_
    refine w_aload_n dX4_walkFrom_23 rfl 1 rfl ?_
    refine w_get (i := 1) (T := TX4) (NF := 7) rb (by first | omega | with_reducible rfl) hw rfl (fun _ h => (List.mem_cons_of_mem _ (List.mem_append_left _ (List.mem_append_left _ (List.mem_append_right _ h))))) (by decide) (List.mem_of_getElem? (i := 2) rfl) rfl dX4_walkFrom_24 ?_
    refine w_iload_n dX4_walkFrom_27 rfl 2 rfl ?_
    refine w_iload_n dX4_walkFrom_28 rfl 3 rfl ?_
    refine w_calli (As := [.int (zI ((j : Nat) : Int)), .int (zI ((a : Nat) : Int))]) (rest := []) (n := 2) (c_X2_fewest hn (by first | omega | with_reducible rfl) (by omega) htfr (by first | omega | with_reducible rfl) (by first | omega | with_reducible rfl)) gX4_walkFrom_X2_fewest rfl rfl rfl (by decide +kernel) ⟨Nat.le_of_ble_eq_true rfl, Nat.le_of_ble_eq_true rfl⟩ rfl (by first | omega | with_reducible rfl) hn.1 rfl (Nat.le_of_ble_eq_true rfl) ⟨Nat.zero_le _, Nat.zero_le _⟩ dX4_walkFrom_29 rfl (fun g_5 hp_6 => ?_)
    subst g_5
    refine w_as (st' := [.int (zI (((lo (clL T V (j + 1) 3) (R - a)) : Nat) : Int))]) (sc_i (by rw [ht3]; unfold lo; omega) rfl) ?_
    refine w_istore [(6, .int (zI (((lo (clL T V (j + 1) 3) (R - a)) : Nat) : Int))), (5, .int (zI ((min (T ((j : Nat) : Int)).toNat (R - a) : Nat) : Int))), (0, .ref (B + rb)), (1, .int (zI ((j : Nat) : Int))), (2, .int (zI ((a : Nat) : Int))), (3, .long (zJ w))] dX4_walkFrom_32 (by decide) rfl ?_
    refine w_sub [(0, .ref (B + rb)), (1, .int (zI ((j : Nat) : Int))), (2, .int (zI ((a : Nat) : Int))), (3, .long (zJ w)), (5, .int (zI ((min (T ((j : Nat) : Int)).toNat (R - a) : Nat) : Int))), (6, .int (zI (((lo (clL T V (j + 1) 3) (R - a)) : Nat) : Int)))] [2, 3, 4, 5, 1, 0] rfl ?_
    refine w_lv (lv' := [(0, .ref (B + rb)), (1, .int (zI ((j : Nat) : Int))), (2, .int (zI ((a : Nat) : Int))), (3, .long (zJ w)), (5, .int (zI ((min (T ((j : Nat) : Int)).toNat (R - a) : Nat) : Int))), (6, .int (zI ((((lo (clL T V (j + 1) 3) (R - a)) + 0) : Nat) : Int)))]) (lc_s (lc_s (lc_s (lc_s (lc_s (lc_i (by first | omega | with_reducible rfl) rfl)))))) ?_
    refine w_loop2 (fun (k : Nat) (gl_7 : (Nat → va_E)) => vRare cy B gl_7 rb cb nb sw (rw + (srN (rf 0 sw ((T ((j : Nat) : Int)).toNat, (V ((j : Nat) : Int)).toNat) (clL T V (j + 1) 3) (R - a) w) (lo (clL T V (j + 1) 3) (R - a)) k)) (rt + (srN (rf 1 sw ((T ((j : Nat) : Int)).toNat, (V ((j : Nat) : Int)).toNat) (clL T V (j + 1) 3) (R - a) w) (lo (clL T V (j + 1) 3) (R - a)) k)) (lc + (srN (rf 2 sw ((T ((j : Nat) : Int)).toNat, (V ((j : Nat) : Int)).toNat) (clL T V (j + 1) 3) (R - a) w) (lo (clL T V (j + 1) 3) (R - a)) k)) rver ∧ vNet cy B gl_7 nb cb tf ((R : Nat) : Int) nver G ∧ vCol cy B gl_7 cb sets n cver T X V Wy ∧ (∀ q, (q < rb ∨ rb + 1 ≤ q) → gl_7 q = g q) ∧ k ≤ nn ((T ((j : Nat) : Int)).toNat, (V ((j : Nat) : Int)).toNat) (clL T V (j + 1) 3) (R - a)) (fun (k : Nat) (gl_7 : (Nat → va_E)) => nn ((T ((j : Nat) : Int)).toNat, (V ((j : Nat) : Int)).toNat) (clL T V (j + 1) 3) (R - a) - k) (fun (k : Nat) (gl_7 : (Nat → va_E)) => gl_7) (fun (k : Nat) (gl_7 : (Nat → va_E)) => [(0, .ref (B + rb)), (1, .int (zI ((j : Nat) : Int))), (2, .int (zI ((a : Nat) : Int))), (3, .long (zJ w)), (5, .int (zI ((min (T ((j : Nat) : Int)).toNat (R - a) : Nat) : Int))), (6, .int (zI ((((lo (clL T V (j + 1) 3) (R - a)) + k) : Nat) : Int)))]) ?_ 0 g ⟨(by have h9 := hw; simp only [srN, Int.add_zero]; exact h9), hn, hc, hfr_0, (Nat.zero_le _)⟩
    rintro k gl_7 ⟨hw_8, hn_9, hc_10, hfr_11, hk⟩ ih_34
    have hlo : lo (clL T V (j + 1) 3) (R - a) ≤ R - a ∧ nn ((T ((j : Nat) : Int)).toNat, (V ((j : Nat) : Int)).toNat) (clL T V (j + 1) 3) (R - a) ≤ 13 := by unfold lo nn; omega
    refine w_iload dX4_walkFrom_34 5 rfl ?_
    refine w_iload dX4_walkFrom_36 4 rfl ?_
    refine w_icmp_gt 70 dX4_walkFrom_38 (by decide) (by first | omega | with_reducible rfl) (by first | omega | with_reducible rfl) (fun c_38 => ?_) (fun c_38 => ?_)
    · have hk9 : k = nn ((T ((j : Nat) : Int)).toNat, (V ((j : Nat) : Int)).toNat) (clL T V (j + 1) 3) (R - a) := by unfold lo nn at *; omega
      exact w_vret dX4_walkFrom_70 rfl ⟨(by have h9 := hw_8; rw [hk9] at h9; exact h9), hfr_11⟩
    · have hx : lo (clL T V (j + 1) 3) (R - a) + k ≤ (T ((j : Nat) : Int)).toNat := by omega
      refine w_aload_n dX4_walkFrom_41 rfl 0 rfl ?_
      refine w_iload_n dX4_walkFrom_42 rfl 1 rfl ?_
      refine w_iconst dX4_walkFrom_43 ?_
      refine w_iadd dX4_walkFrom_44 ?_
      refine w_iload_n dX4_walkFrom_45 rfl 2 rfl ?_
      refine w_iload dX4_walkFrom_46 5 rfl ?_
      refine w_iadd dX4_walkFrom_48 ?_
      refine w_lload_n dX4_walkFrom_49 rfl 3 rfl ?_
      refine w_aload_n dX4_walkFrom_50 rfl 0 rfl ?_
      refine w_get (i := 0) (T := TX4) (NF := 7) rb (by first | omega | with_reducible rfl) hw_8 rfl (fun _ h => (List.mem_cons_of_mem _ (List.mem_append_left _ (List.mem_append_left _ (List.mem_append_right _ h))))) (by decide) (List.mem_of_getElem? (i := 1) rfl) rfl dX4_walkFrom_51 ?_
      refine w_iload_n dX4_walkFrom_54 rfl 1 rfl ?_
      refine w_iload dX4_walkFrom_55 5 rfl ?_
      refine w_calll (As := [.int (zI ((j : Nat) : Int)), .int (zI ((((lo (clL T V (j + 1) 3) (R - a)) + k) : Nat) : Int))]) (rest := [.long (zJ w), .int (zI (((a : Nat) : Int) + ((((lo (clL T V (j + 1) 3) (R - a)) + k) : Nat) : Int))), .int (zI (((j : Nat) : Int) + 1)), .ref (B + rb)]) (n := 2) (c_X0_waysOf hc_10 (by first | omega | with_reducible rfl) (by first | omega | with_reducible rfl) (by first | omega | with_reducible rfl) (by first | omega | with_reducible rfl)) gX4_walkFrom_X0_waysOf rfl rfl rfl (by decide +kernel) ⟨Nat.le_of_ble_eq_true rfl, Nat.le_of_ble_eq_true rfl⟩ rfl (by first | omega | with_reducible rfl) hc_10.1 rfl (Nat.le_of_ble_eq_true rfl) ⟨Nat.zero_le _, Nat.zero_le _⟩ dX4_walkFrom_57 rfl (fun g_12 hp_13 => ?_)
      subst g_12
      refine w_as (st' := [.long (zJ ((ch (T ((j : Nat) : Int)).toNat (lo (clL T V (j + 1) 3) (R - a) + k) : Nat) : Int)), .long (zJ w), .int (zI (((a : Nat) : Int) + ((((lo (clL T V (j + 1) 3) (R - a)) + k) : Nat) : Int))), .int (zI (((j : Nat) : Int) + 1)), .ref (B + rb)]) (sc_l (by rw [wyA_in (by omega), Int.toNat_natCast]; exact hWy _ (by omega) _ (by omega)) rfl) ?_
      refine w_lmul dX4_walkFrom_60 ?_
      refine w_as (st' := [.long (zJ (w * ((ch (T ((j : Nat) : Int)).toNat (lo (clL T V (j + 1) 3) (R - a) + k) : Nat) : Int))), .int (zI (((a + (lo (clL T V (j + 1) 3) (R - a) + k)) : Nat) : Int)), .int (zI (((j + 1) : Nat) : Int)), .ref (B + rb)]) (lc_s (sc_i (by first | omega | with_reducible rfl) (sc_i (by first | omega | with_reducible rfl) rfl))) ?_
      refine w_callv (As := [.int (zI (((j + 1) : Nat) : Int)), .int (zI (((a + (lo (clL T V (j + 1) 3) (R - a) + k)) : Nat) : Int)), .long (zJ (w * ((ch (T ((j : Nat) : Int)).toNat (lo (clL T V (j + 1) 3) (R - a) + k) : Nat) : Int)))]) (rest := []) (n := 3) (c_X4_lookAt_3 (j := (j + 1)) (a := (a + (lo (clL T V (j + 1) 3) (R - a) + k))) hw_8 hn_9 hc_10 (by first | omega | with_reducible rfl) (by first | omega | with_reducible rfl) (by first | omega | with_reducible rfl) (by first | omega | with_reducible rfl) (by first | omega | with_reducible rfl) hok (by first | omega | with_reducible rfl) hNF htf hWy (by first | omega | with_reducible rfl) (by first | omega | with_reducible rfl) (thr_next hth hjm (by omega) hx (by omega)) (wok_c (c := ((T ((j : Nat) : Int)).toNat, (V ((j : Nat) : Int)).toNat)) (cs := (clL T V (j + 1) 3)) hwk _)) gX4_walkFrom_X4_lookAt rfl rfl rfl (by decide +kernel) ⟨Nat.le_of_ble_eq_true rfl, Nat.le_of_ble_eq_true rfl⟩ rfl (by first | omega | with_reducible rfl) hw_8 rfl (Nat.le_of_ble_eq_true rfl) ⟨Nat.zero_le _, Nat.zero_le _⟩ dX4_walkFrom_61 rfl (fun g_14 hp_15 => ?_)
      obtain ⟨hw_16, hf_17⟩ := hp_15
      have hn_18 : vNet cy B g_14 nb cb tf ((R : Nat) : Int) nver G := vNet_fr hn_9 (fun q h1 h2 => hf_17 q (by omega))
      have hc_19 : vCol cy B g_14 cb sets n cver T X V Wy := vCol_fr hc_10 (fun q h1 h2 => hf_17 q (by omega))
      have hfr_20 : ∀ q, (q < rb ∨ rb + 1 ≤ q) → g_14 q = g q := fun q hq => (hf_17 q (by omega)).trans (hfr_11 q hq)
      refine w_iinc 5 [(6, .int (zI (((((lo (clL T V (j + 1) 3) (R - a)) + k) : Nat) : Int) + 1))), (0, .ref (B + rb)), (1, .int (zI ((j : Nat) : Int))), (2, .int (zI ((a : Nat) : Int))), (3, .long (zJ w)), (5, .int (zI ((min (T ((j : Nat) : Int)).toNat (R - a) : Nat) : Int)))] dX4_walkFrom_64 rfl (by decide) rfl ?_
      refine w_goto 34 dX4_walkFrom_67 (by decide) ?_
      refine w_sub [(0, .ref (B + rb)), (1, .int (zI ((j : Nat) : Int))), (2, .int (zI ((a : Nat) : Int))), (3, .long (zJ w)), (5, .int (zI ((min (T ((j : Nat) : Int)).toNat (R - a) : Nat) : Int))), (6, .int (zI (((((lo (clL T V (j + 1) 3) (R - a)) + k) : Nat) : Int) + 1)))] [1, 2, 3, 4, 5, 0] rfl ?_
      refine w_lv (lv' := [(0, .ref (B + rb)), (1, .int (zI ((j : Nat) : Int))), (2, .int (zI ((a : Nat) : Int))), (3, .long (zJ w)), (5, .int (zI ((min (T ((j : Nat) : Int)).toNat (R - a) : Nat) : Int))), (6, .int (zI ((((lo (clL T V (j + 1) 3) (R - a)) + (k + 1)) : Nat) : Int)))]) (lc_s (lc_s (lc_s (lc_s (lc_s (lc_i (by first | omega | with_reducible rfl) rfl)))))) ?_
      exact ih_34 (k + 1) g_14 ⟨(by have h9 := hw_16; rw [st_rf, st_rf, st_rf] at h9; exact h9), hn_18, hc_19, hfr_20, (by unfold lo nn at *; omega)⟩ (by unfold lo nn at *; omega)
  · exfalso; omega
set_option maxHeartbeats 4000000 in
set_option maxRecDepth 100000 in
theorem c_X4_lookAt_4 {l : Launch} {D : va_G} {cy : Nat → ClassId} {B N : Nat} {g : Nat → va_E} {rb : Nat} {sw rw rt lc rver : Int} {nb cb : Nat} {tf : Int → Int} {nver : Int} {G : Nat → Int → Int} {sets n R : Nat} {cver : Int} {T X V : Int → Int} {Wy : Nat → Int → Int} {j a : Nat} {w : Int} (hw : vRare cy B g rb cb nb sw rw rt lc rver) (hn : vNet cy B g nb cb tf ((R : Nat) : Int) nver G) (hc : vCol cy B g cb sets n cver T X V Wy) (hRB : rb + 1 ≤ N) (hd1 : rb + 1 ≤ nb ∨ nb + 11 ≤ rb) (hd2 : rb + 1 ≤ cb ∨ cb + 10 ≤ rb) (hNB : nb + 11 ≤ N) (hCB : cb + 10 ≤ N) (hok : okT T V n) (hR : R ≤ 60) (hNF : NF T V n R G) (htf : ∀ j : Nat, j ≤ 5 → tf ((j : Nat) : Int) = ((tsum (clL T V j (n - j)) : Nat) : Int)) (hWy : ∀ j : Nat, j < n → ∀ x : Nat, x ≤ 12 → Wy j ((x : Nat) : Int) = ((ch (T ((j : Nat) : Int)).toNat x : Nat) : Int)) (hsw : 0 ≤ sw ∧ sw ≤ 1152921504606846976) (hjm : j + 4 = n) (hth : thr T V n R j a) (hwk : wok w (clL T V j 4)) : CTv l yX4_lookAt wsX4_lookAt (rmo 9 238) D cy B N g [.ref (B + rb), .int (zI ((j : Nat) : Int)), .int (zI ((a : Nat) : Int)), .long (zJ w)] (fun g' => vRare cy B g' rb cb nb sw (rw + la 0 sw (clL T V j 4) (R - a) w) (rt + la 1 sw (clL T V j 4) (R - a) w) (lc + la 2 sw (clL T V j 4) (R - a) w) rver ∧ (∀ q, (q < rb ∨ rb + 1 ≤ q) → g' q = g q)) := by
  refine WW_of (cc := cX4_lookAt) (maxL := 5) (ret := none) (own := RX4) (by decide) rfl rfl (Nat.le_of_ble_eq_true rfl) rfl ?_
  intro pp ee ss mm bl me co hmn
  have hfr_0 : ∀ q, (q < rb ∨ rb + 1 ≤ q) → g q = g q := fun _ _ => rfl
  have hn5 : n ≤ 5 := hok.1
  have htR := hth.2.1
  have hwl := wok_lg hwk (R - a)
  have hws := wok_sh hwk (thr_ts hth hjm)
  have htc := tc_rg (r := R - a) hok (show j + 4 ≤ n by omega)
  refine w_aload_n dX4_lookAt_0 rfl 0 rfl ?_
  refine w_dup dX4_lookAt_1 rfl ?_
  refine w_get (i := 5) (T := TX4) (NF := 7) rb (by first | omega | with_reducible rfl) hw rfl (fun _ h => (List.mem_cons_of_mem _ (List.mem_append_left _ (List.mem_append_left _ (List.mem_append_right _ h))))) (by decide) (List.mem_of_getElem? (i := 1) rfl) rfl dX4_lookAt_2 ?_
  refine w_iconst dX4_lookAt_5 ?_
  refine w_iadd dX4_lookAt_6 ?_
  refine w_put (i := 5) (T := TX4) (NF := 7) rb (by first | omega | with_reducible rfl) hw rfl (fun _ h => (List.mem_cons_of_mem _ (List.mem_append_left _ (List.mem_append_left _ (List.mem_append_right _ h))))) tyX4 tyX4_ok nmX4 (by decide) (List.mem_of_getElem? (i := 1) rfl) rfl rfl rfl (Nat.le_of_ble_eq_true rfl) dX4_lookAt_7 (fun g_1 he_2 hn_3 => ?_)
  have hw_4 : vRare cy B g_1 rb cb nb sw rw rt (lc + 1) rver := he_2
  have hn_5 : vNet cy B g_1 nb cb tf ((R : Nat) : Int) nver G := vNet_fr hn (fun q h1 h2 => hn_3 q (by omega))
  have hc_6 : vCol cy B g_1 cb sets n cver T X V Wy := vCol_fr hc (fun q h1 h2 => hn_3 q (by omega))
  have hfr_7 : ∀ q, (q < rb ∨ rb + 1 ≤ q) → g_1 q = g q := fun q hq => (hn_3 q (by omega)).trans (hfr_0 q hq)
  refine w_lload_n dX4_lookAt_10 rfl 3 rfl ?_
  refine w_aload_n dX4_lookAt_11 rfl 0 rfl ?_
  refine w_get (i := 1) (T := TX4) (NF := 7) rb (by first | omega | with_reducible rfl) hw_4 rfl (fun _ h => (List.mem_cons_of_mem _ (List.mem_append_left _ (List.mem_append_left _ (List.mem_append_right _ h))))) (by decide) (List.mem_of_getElem? (i := 2) rfl) rfl dX4_lookAt_12 ?_
  refine w_iconst dX4_lookAt_15 ?_
  refine w_iload_n dX4_lookAt_16 rfl 1 rfl ?_
  refine w_iload_n dX4_lookAt_17 rfl 2 rfl ?_
  refine w_calll (As := [.int (zI 2), .int (zI ((j : Nat) : Int)), .int (zI ((a : Nat) : Int))]) (rest := [.long (zJ w)]) (n := 3) (c_X2_at hn_5 (by first | omega | with_reducible rfl) (by first | omega | with_reducible rfl) (by first | omega | with_reducible rfl) (by first | omega | with_reducible rfl)) gX4_lookAt_X2_at rfl rfl rfl (by decide +kernel) ⟨Nat.le_of_ble_eq_true rfl, Nat.le_of_ble_eq_true rfl⟩ rfl (by first | omega | with_reducible rfl) hn_5.1 rfl (Nat.le_of_ble_eq_true rfl) ⟨Nat.zero_le _, Nat.zero_le _⟩ dX4_lookAt_18 rfl (fun g_8 hp_9 => ?_)
  subst g_8
  refine w_as (st' := [.long (zJ (lg (clL T V j 4) (R - a))), .long (zJ w)]) (sc_l (NF_at (kd := 2) hNF hth hjm (by omega) hR (by omega) (by omega) rfl) rfl) ?_
  refine w_lmul dX4_lookAt_21 ?_
  refine w_aload_n dX4_lookAt_22 rfl 0 rfl ?_
  refine w_get (i := 2) (T := TX4) (NF := 7) rb (by first | omega | with_reducible rfl) hw_4 rfl (fun _ h => (List.mem_cons_of_mem _ (List.mem_append_left _ (List.mem_append_left _ (List.mem_append_right _ h))))) (by decide) (List.mem_of_getElem? (i := 3) rfl) rfl dX4_lookAt_23 ?_
  refine w_lcmp_gt 74 dX4_lookAt_26 dX4_lookAt_27 (by decide) (by first | omega | with_reducible rfl) (by first | omega | with_reducible rfl) (fun c_26 => ?_) (fun c_26 => ?_)
  · refine w_lload_n dX4_lookAt_74 rfl 3 rfl ?_
    refine w_aload_n dX4_lookAt_75 rfl 0 rfl ?_
    refine w_get (i := 1) (T := TX4) (NF := 7) rb (by first | omega | with_reducible rfl) hw_4 rfl (fun _ h => (List.mem_cons_of_mem _ (List.mem_append_left _ (List.mem_append_left _ (List.mem_append_right _ h))))) (by decide) (List.mem_of_getElem? (i := 2) rfl) rfl dX4_lookAt_76 ?_
    refine w_iconst dX4_lookAt_79 ?_
    refine w_iload_n dX4_lookAt_80 rfl 1 rfl ?_
    refine w_iload_n dX4_lookAt_81 rfl 2 rfl ?_
    refine w_calll (As := [.int (zI 3), .int (zI ((j : Nat) : Int)), .int (zI ((a : Nat) : Int))]) (rest := [.long (zJ w)]) (n := 3) (c_X2_at hn_5 (by first | omega | with_reducible rfl) (by first | omega | with_reducible rfl) (by first | omega | with_reducible rfl) (by first | omega | with_reducible rfl)) gX4_lookAt_X2_at rfl rfl rfl (by decide +kernel) ⟨Nat.le_of_ble_eq_true rfl, Nat.le_of_ble_eq_true rfl⟩ rfl (by first | omega | with_reducible rfl) hn_5.1 rfl (Nat.le_of_ble_eq_true rfl) ⟨Nat.zero_le _, Nat.zero_le _⟩ dX4_lookAt_82 rfl (fun g_10 hp_11 => ?_)
    subst g_10
    refine w_as (st' := [.long (zJ (sh (clL T V j 4) (R - a))), .long (zJ w)]) (sc_l (NF_at (kd := 3) hNF hth hjm (by omega) hR (by omega) (by omega) rfl) rfl) ?_
    refine w_lmul dX4_lookAt_85 ?_
    refine w_aload_n dX4_lookAt_86 rfl 0 rfl ?_
    refine w_get (i := 2) (T := TX4) (NF := 7) rb (by first | omega | with_reducible rfl) hw_4 rfl (fun _ h => (List.mem_cons_of_mem _ (List.mem_append_left _ (List.mem_append_left _ (List.mem_append_right _ h))))) (by decide) (List.mem_of_getElem? (i := 3) rfl) rfl dX4_lookAt_87 ?_
    refine w_lcmp_gt 101 dX4_lookAt_90 dX4_lookAt_91 (by decide) (by first | omega | with_reducible rfl) (by first | omega | with_reducible rfl) (fun c_90 => ?_) (fun c_90 => ?_)
    · exact w_vret dX4_lookAt_101 rfl ⟨(by have h9 := hw_4; first | (obtain ⟨e0, e1, e2⟩ := la_yes (s := sw) (cs := (clL T V j 4)) (r := R - a) (w := w) (by omega); rw [e0, e1, e2]; exact h9) | (obtain ⟨e0, e1, e2⟩ := la_walk (s := sw) (cs := (clL T V j 4)) (r := R - a) (w := w) (by omega) (by omega); rw [e0, e1, e2, ← Int.add_assoc]; exact h9) | (obtain ⟨e0, e1, e2⟩ := la_no (s := sw) (cs := (clL T V j 4)) (r := R - a) (w := w) (by omega) (by omega); rw [e0, e1, e2, Int.add_zero, Int.add_zero]; exact h9)), hfr_7⟩
    · refine w_aload_n dX4_lookAt_94 rfl 0 rfl ?_
      refine w_iload_n dX4_lookAt_95 rfl 1 rfl ?_
      refine w_iload_n dX4_lookAt_96 rfl 2 rfl ?_
      refine w_lload_n dX4_lookAt_97 rfl 3 rfl ?_
      refine w_callv (As := [.int (zI ((j : Nat) : Int)), .int (zI ((a : Nat) : Int)), .long (zJ w)]) (rest := []) (n := 3) (c_X4_walkFrom_4 (j := j) (a := a) hw_4 hn_5 hc_6 (by first | omega | with_reducible rfl) (by first | omega | with_reducible rfl) (by first | omega | with_reducible rfl) (by first | omega | with_reducible rfl) (by first | omega | with_reducible rfl) hok (by first | omega | with_reducible rfl) hNF htf hWy (by first | omega | with_reducible rfl) (by first | omega | with_reducible rfl) hth hwk) gX4_lookAt_X4_walkFrom rfl rfl rfl (by decide +kernel) ⟨Nat.le_of_ble_eq_true rfl, Nat.le_of_ble_eq_true rfl⟩ rfl (by first | omega | with_reducible rfl) hw_4 rfl (Nat.le_of_ble_eq_true rfl) ⟨Nat.zero_le _, Nat.zero_le _⟩ dX4_lookAt_98 rfl (fun g_12 hp_13 => ?_)
      obtain ⟨hw_14, hf_15⟩ := hp_13
      have hn_16 : vNet cy B g_12 nb cb tf ((R : Nat) : Int) nver G := vNet_fr hn_5 (fun q h1 h2 => hf_15 q (by omega))
      have hc_17 : vCol cy B g_12 cb sets n cver T X V Wy := vCol_fr hc_6 (fun q h1 h2 => hf_15 q (by omega))
      have hfr_18 : ∀ q, (q < rb ∨ rb + 1 ≤ q) → g_12 q = g q := fun q hq => (hf_15 q (by omega)).trans (hfr_7 q hq)
      exact w_vret dX4_lookAt_101 rfl ⟨(by have h9 := hw_14; first | (obtain ⟨e0, e1, e2⟩ := la_yes (s := sw) (cs := (clL T V j 4)) (r := R - a) (w := w) (by omega); rw [e0, e1, e2]; exact h9) | (obtain ⟨e0, e1, e2⟩ := la_walk (s := sw) (cs := (clL T V j 4)) (r := R - a) (w := w) (by omega) (by omega); rw [e0, e1, e2, ← Int.add_assoc]; exact h9) | (obtain ⟨e0, e1, e2⟩ := la_no (s := sw) (cs := (clL T V j 4)) (r := R - a) (w := w) (by omega) (by omega); rw [e0, e1, e2, Int.add_zero, Int.add_zero]; exact h9)), hfr_18⟩
  · refine w_aload_n dX4_lookAt_30 rfl 0 rfl ?_
    refine w_dup dX4_lookAt_31 rfl ?_
    refine w_get (i := 3) (T := TX4) (NF := 7) rb (by first | omega | with_reducible rfl) hw_4 rfl (fun _ h => (List.mem_cons_of_mem _ (List.mem_append_left _ (List.mem_append_left _ (List.mem_append_right _ h))))) (by decide) (List.mem_of_getElem? (i := 4) rfl) rfl dX4_lookAt_32 ?_
    refine w_lload_n dX4_lookAt_35 rfl 3 rfl ?_
    refine w_aload_n dX4_lookAt_36 rfl 0 rfl ?_
    refine w_get (i := 1) (T := TX4) (NF := 7) rb (by first | omega | with_reducible rfl) hw_4 rfl (fun _ h => (List.mem_cons_of_mem _ (List.mem_append_left _ (List.mem_append_left _ (List.mem_append_right _ h))))) (by decide) (List.mem_of_getElem? (i := 2) rfl) rfl dX4_lookAt_37 ?_
    refine w_iconst dX4_lookAt_40 ?_
    refine w_iload_n dX4_lookAt_41 rfl 1 rfl ?_
    refine w_iload_n dX4_lookAt_42 rfl 2 rfl ?_
    refine w_calll (As := [.int (zI 1), .int (zI ((j : Nat) : Int)), .int (zI ((a : Nat) : Int))]) (rest := [.long (zJ w), .long (zJ rw), .ref (B + rb)]) (n := 3) (c_X2_at hn_5 (by first | omega | with_reducible rfl) (by first | omega | with_reducible rfl) (by first | omega | with_reducible rfl) (by first | omega | with_reducible rfl)) gX4_lookAt_X2_at rfl rfl rfl (by decide +kernel) ⟨Nat.le_of_ble_eq_true rfl, Nat.le_of_ble_eq_true rfl⟩ rfl (by first | omega | with_reducible rfl) hn_5.1 rfl (Nat.le_of_ble_eq_true rfl) ⟨Nat.zero_le _, Nat.zero_le _⟩ dX4_lookAt_43 rfl (fun g_19 hp_20 => ?_)
    subst g_19
    refine w_as (st' := [.long (zJ (bh (clL T V j 4) (R - a))), .long (zJ w), .long (zJ rw), .ref (B + rb)]) (sc_l (NF_at (kd := 1) hNF hth hjm (by omega) hR (by omega) (by omega) rfl) rfl) ?_
    refine w_lmul dX4_lookAt_46 ?_
    refine w_ladd dX4_lookAt_47 ?_
    refine w_put (i := 3) (T := TX4) (NF := 7) rb (by first | omega | with_reducible rfl) hw_4 rfl (fun _ h => (List.mem_cons_of_mem _ (List.mem_append_left _ (List.mem_append_left _ (List.mem_append_right _ h))))) tyX4 tyX4_ok nmX4 (by decide) (List.mem_of_getElem? (i := 4) rfl) rfl rfl rfl (Nat.le_of_ble_eq_true rfl) dX4_lookAt_48 (fun g_21 he_22 hn_23 => ?_)
    have hw_24 : vRare cy B g_21 rb cb nb sw (rw + (w * (bh (clL T V j 4) (R - a)))) rt (lc + 1) rver := he_22
    have hn_25 : vNet cy B g_21 nb cb tf ((R : Nat) : Int) nver G := vNet_fr hn_5 (fun q h1 h2 => hn_23 q (by omega))
    have hc_26 : vCol cy B g_21 cb sets n cver T X V Wy := vCol_fr hc_6 (fun q h1 h2 => hn_23 q (by omega))
    have hfr_27 : ∀ q, (q < rb ∨ rb + 1 ≤ q) → g_21 q = g q := fun q hq => (hn_23 q (by omega)).trans (hfr_7 q hq)
    refine w_aload_n dX4_lookAt_51 rfl 0 rfl ?_
    refine w_dup dX4_lookAt_52 rfl ?_
    refine w_get (i := 4) (T := TX4) (NF := 7) rb (by first | omega | with_reducible rfl) hw_24 rfl (fun _ h => (List.mem_cons_of_mem _ (List.mem_append_left _ (List.mem_append_left _ (List.mem_append_right _ h))))) (by decide) (List.mem_of_getElem? (i := 5) rfl) rfl dX4_lookAt_53 ?_
    refine w_aload_n dX4_lookAt_56 rfl 0 rfl ?_
    refine w_get (i := 1) (T := TX4) (NF := 7) rb (by first | omega | with_reducible rfl) hw_24 rfl (fun _ h => (List.mem_cons_of_mem _ (List.mem_append_left _ (List.mem_append_left _ (List.mem_append_right _ h))))) (by decide) (List.mem_of_getElem? (i := 2) rfl) rfl dX4_lookAt_57 ?_
    refine w_iconst dX4_lookAt_60 ?_
    refine w_iload_n dX4_lookAt_61 rfl 1 rfl ?_
    refine w_iload_n dX4_lookAt_62 rfl 2 rfl ?_
    refine w_calll (As := [.int (zI 4), .int (zI ((j : Nat) : Int)), .int (zI ((a : Nat) : Int))]) (rest := [.int (zI rt), .ref (B + rb)]) (n := 3) (c_X2_at hn_25 (by first | omega | with_reducible rfl) (by first | omega | with_reducible rfl) (by first | omega | with_reducible rfl) (by first | omega | with_reducible rfl)) gX4_lookAt_X2_at rfl rfl rfl (by decide +kernel) ⟨Nat.le_of_ble_eq_true rfl, Nat.le_of_ble_eq_true rfl⟩ rfl (by first | omega | with_reducible rfl) hn_25.1 rfl (Nat.le_of_ble_eq_true rfl) ⟨Nat.zero_le _, Nat.zero_le _⟩ dX4_lookAt_63 rfl (fun g_28 hp_29 => ?_)
    subst g_28
    refine w_as (st' := [.long (zJ (tc (clL T V j 4) (R - a))), .int (zI rt), .ref (B + rb)]) (sc_l (NF_at (kd := 4) hNF hth hjm (by omega) hR (by omega) (by omega) rfl) rfl) ?_
    refine w_l2i dX4_lookAt_66 (by first | omega | with_reducible rfl) ?_
    refine w_iadd dX4_lookAt_67 ?_
    refine w_put (i := 4) (T := TX4) (NF := 7) rb (by first | omega | with_reducible rfl) hw_24 rfl (fun _ h => (List.mem_cons_of_mem _ (List.mem_append_left _ (List.mem_append_left _ (List.mem_append_right _ h))))) tyX4 tyX4_ok nmX4 (by decide) (List.mem_of_getElem? (i := 5) rfl) rfl rfl rfl (Nat.le_of_ble_eq_true rfl) dX4_lookAt_68 (fun g_30 he_31 hn_32 => ?_)
    have hw_33 : vRare cy B g_30 rb cb nb sw (rw + (w * (bh (clL T V j 4) (R - a)))) (rt + (tc (clL T V j 4) (R - a))) (lc + 1) rver := he_31
    have hn_34 : vNet cy B g_30 nb cb tf ((R : Nat) : Int) nver G := vNet_fr hn_25 (fun q h1 h2 => hn_32 q (by omega))
    have hc_35 : vCol cy B g_30 cb sets n cver T X V Wy := vCol_fr hc_26 (fun q h1 h2 => hn_32 q (by omega))
    have hfr_36 : ∀ q, (q < rb ∨ rb + 1 ≤ q) → g_30 q = g q := fun q hq => (hn_32 q (by omega)).trans (hfr_27 q hq)
    refine w_goto 101 dX4_lookAt_71 (by decide) ?_
    exact w_vret dX4_lookAt_101 rfl ⟨(by have h9 := hw_33; first | (obtain ⟨e0, e1, e2⟩ := la_yes (s := sw) (cs := (clL T V j 4)) (r := R - a) (w := w) (by omega); rw [e0, e1, e2]; exact h9) | (obtain ⟨e0, e1, e2⟩ := la_walk (s := sw) (cs := (clL T V j 4)) (r := R - a) (w := w) (by omega) (by omega); rw [e0, e1, e2, ← Int.add_assoc]; exact h9) | (obtain ⟨e0, e1, e2⟩ := la_no (s := sw) (cs := (clL T V j 4)) (r := R - a) (w := w) (by omega) (by omega); rw [e0, e1, e2, Int.add_zero, Int.add_zero]; exact h9)), hfr_36⟩
set_option maxHeartbeats 4000000 in
set_option maxRecDepth 100000 in
theorem c_X4_walkFrom_5 {l : Launch} {D : va_G} {cy : Nat → ClassId} {B N : Nat} {g : Nat → va_E} {rb : Nat} {sw rw rt lc rver : Int} {nb cb : Nat} {tf : Int → Int} {nver : Int} {G : Nat → Int → Int} {sets n R : Nat} {cver : Int} {T X V : Int → Int} {Wy : Nat → Int → Int} {j a : Nat} {w : Int} (hw : vRare cy B g rb cb nb sw rw rt lc rver) (hn : vNet cy B g nb cb tf ((R : Nat) : Int) nver G) (hc : vCol cy B g cb sets n cver T X V Wy) (hRB : rb + 1 ≤ N) (hd1 : rb + 1 ≤ nb ∨ nb + 11 ≤ rb) (hd2 : rb + 1 ≤ cb ∨ cb + 10 ≤ rb) (hNB : nb + 11 ≤ N) (hCB : cb + 10 ≤ N) (hok : okT T V n) (hR : R ≤ 60) (hNF : NF T V n R G) (htf : ∀ j : Nat, j ≤ 5 → tf ((j : Nat) : Int) = ((tsum (clL T V j (n - j)) : Nat) : Int)) (hWy : ∀ j : Nat, j < n → ∀ x : Nat, x ≤ 12 → Wy j ((x : Nat) : Int) = ((ch (T ((j : Nat) : Int)).toNat x : Nat) : Int)) (hsw : 0 ≤ sw ∧ sw ≤ 1152921504606846976) (hjm : j + 5 = n) (hth : thr T V n R j a) (hwk : wok w (clL T V j 5)) : CTv l yX4_walkFrom wsX4_walkFrom (rmo 10 262) D cy B N g [.ref (B + rb), .int (zI ((j : Nat) : Int)), .int (zI ((a : Nat) : Int)), .long (zJ w)] (fun g' => vRare cy B g' rb cb nb sw (rw + rk 0 sw (clL T V j 5) (R - a) w) (rt + rk 1 sw (clL T V j 5) (R - a) w) (lc + rk 2 sw (clL T V j 5) (R - a) w) rver ∧ (∀ q, (q < rb ∨ rb + 1 ≤ q) → g' q = g q)) := by
  refine WW_of (cc := cX4_walkFrom) (maxL := 7) (ret := none) (own := RX4) (by decide) rfl rfl (Nat.le_of_ble_eq_true rfl) rfl ?_
  intro pp ee ss mm bl me co hmn
  have hfr_0 : ∀ q, (q < rb ∨ rb + 1 ≤ q) → g q = g q := fun _ _ => rfl
  have hn5 : n ≤ 5 := hok.1
  have htR := hth.2.1
  have hq1 := hok.2 ((j : Nat) : Int) (by omega) (by omega)
  have ht3 : tf (((j : Nat) : Int) + 1) = ((tsum (clL T V (j + 1) 4) : Nat) : Int) := by
    have h9 := htf (j + 1) (by omega)
    rw [show n - (j + 1) = 4 by omega] at h9
    exact h9
  have htfr : ∀ i : Int, 0 ≤ i → i ≤ 5 → 0 ≤ tf i ∧ tf i ≤ 60 := fun i h1 h2 => by
    obtain ⟨k, rfl⟩ := Int.eq_ofNat_of_zero_le h1
    have h3 := htf k (by omega)
    by_cases hk : k ≤ n
    · have h4 := okT_ts hok (m := n - k) (j := k) (by omega)
      omega
    · rw [show n - k = 0 by omega] at h3
      rw [clL, tsum] at h3
      omega
  have hts := thr_ts hth hjm
  have hts2 : tsum (clL T V j 5) = (T ((j : Nat) : Int)).toNat + tsum (clL T V (j + 1) 4) := rfl
  refine w_aload_n dX4_walkFrom_0 rfl 0 rfl ?_
  refine w_get (i := 0) (T := TX4) (NF := 7) rb (by first | omega | with_reducible rfl) hw rfl (fun _ h => (List.mem_cons_of_mem _ (List.mem_append_left _ (List.mem_append_left _ (List.mem_append_right _ h))))) (by decide) (List.mem_of_getElem? (i := 1) rfl) rfl dX4_walkFrom_1 ?_
  refine w_iload_n dX4_walkFrom_4 rfl 1 rfl ?_
  refine w_calli (As := [.int (zI ((j : Nat) : Int))]) (rest := []) (n := 1) (c_X0_has hc (by first | omega | with_reducible rfl) (by first | omega | with_reducible rfl) (by first | omega | with_reducible rfl)) gX4_walkFrom_X0_has rfl rfl rfl (by decide +kernel) ⟨Nat.le_of_ble_eq_true rfl, Nat.le_of_ble_eq_true rfl⟩ rfl (by first | omega | with_reducible rfl) hc.1 rfl (Nat.le_of_ble_eq_true rfl) ⟨Nat.zero_le _, Nat.zero_le _⟩ dX4_walkFrom_5 rfl (fun g_1 hp_2 => ?_)
  subst g_1
  refine w_ifneB 12 dX4_walkFrom_8 (by decide) (fun c_8 => ?_) (fun c_8 => ?_)
  · refine w_aload_n dX4_walkFrom_12 rfl 0 rfl ?_
    refine w_get (i := 1) (T := TX4) (NF := 7) rb (by first | omega | with_reducible rfl) hw rfl (fun _ h => (List.mem_cons_of_mem _ (List.mem_append_left _ (List.mem_append_left _ (List.mem_append_right _ h))))) (by decide) (List.mem_of_getElem? (i := 2) rfl) rfl dX4_walkFrom_13 ?_
    refine w_iload_n dX4_walkFrom_16 rfl 1 rfl ?_
    refine w_iload_n dX4_walkFrom_17 rfl 2 rfl ?_
    refine w_calli (As := [.int (zI ((j : Nat) : Int)), .int (zI ((a : Nat) : Int))]) (rest := []) (n := 2) (c_X2_most hn hc (by first | omega | with_reducible rfl) (by first | omega | with_reducible rfl) hn5 (by omega) (by omega) (by first | omega | with_reducible rfl) (by first | omega | with_reducible rfl)) gX4_walkFrom_X2_most rfl rfl rfl (by decide +kernel) ⟨Nat.le_of_ble_eq_true rfl, Nat.le_of_ble_eq_true rfl⟩ rfl (by first | omega | with_reducible rfl) hn.1 rfl (Nat.le_of_ble_eq_true rfl) ⟨Nat.zero_le _, Nat.zero_le _⟩ dX4_walkFrom_18 rfl (fun g_3 hp_4 => ?_)
    subst g_3
    refine w_as (st' := [.int (zI ((min (T ((j : Nat) : Int)).toNat (R - a) : Nat) : Int))]) (sc_i (by first | omega | with_reducible rfl) rfl) ?_
    refine w_istore [(5, .int (zI ((min (T ((j : Nat) : Int)).toNat (R - a) : Nat) : Int))), (0, .ref (B + rb)), (1, .int (zI ((j : Nat) : Int))), (2, .int (zI ((a : Nat) : Int))), (3, .long (zJ w))] dX4_walkFrom_21 (by decide) rfl ?_
    refine w_aload_n dX4_walkFrom_23 rfl 1 rfl ?_
    refine w_get (i := 1) (T := TX4) (NF := 7) rb (by first | omega | with_reducible rfl) hw rfl (fun _ h => (List.mem_cons_of_mem _ (List.mem_append_left _ (List.mem_append_left _ (List.mem_append_right _ h))))) (by decide) (List.mem_of_getElem? (i := 2) rfl) rfl dX4_walkFrom_24 ?_
    refine w_iload_n dX4_walkFrom_27 rfl 2 rfl ?_
    refine w_iload_n dX4_walkFrom_28 rfl 3 rfl ?_
    refine w_calli (As := [.int (zI ((j : Nat) : Int)), .int (zI ((a : Nat) : Int))]) (rest := []) (n := 2) (c_X2_fewest hn (by first | omega | with_reducible rfl) (by omega) htfr (by first | omega | with_reducible rfl) (by first | omega | with_reducible rfl)) gX4_walkFrom_X2_fewest rfl rfl rfl (by decide +kernel) ⟨Nat.le_of_ble_eq_true rfl, Nat.le_of_ble_eq_true rfl⟩ rfl (by first | omega | with_reducible rfl) hn.1 rfl (Nat.le_of_ble_eq_true rfl) ⟨Nat.zero_le _, Nat.zero_le _⟩ dX4_walkFrom_29 rfl (fun g_5 hp_6 => ?_)
    subst g_5
    refine w_as (st' := [.int (zI (((lo (clL T V (j + 1) 4) (R - a)) : Nat) : Int))]) (sc_i (by rw [ht3]; unfold lo; omega) rfl) ?_
    refine w_istore [(6, .int (zI (((lo (clL T V (j + 1) 4) (R - a)) : Nat) : Int))), (5, .int (zI ((min (T ((j : Nat) : Int)).toNat (R - a) : Nat) : Int))), (0, .ref (B + rb)), (1, .int (zI ((j : Nat) : Int))), (2, .int (zI ((a : Nat) : Int))), (3, .long (zJ w))] dX4_walkFrom_32 (by decide) rfl ?_
    refine w_sub [(0, .ref (B + rb)), (1, .int (zI ((j : Nat) : Int))), (2, .int (zI ((a : Nat) : Int))), (3, .long (zJ w)), (5, .int (zI ((min (T ((j : Nat) : Int)).toNat (R - a) : Nat) : Int))), (6, .int (zI (((lo (clL T V (j + 1) 4) (R - a)) : Nat) : Int)))] [2, 3, 4, 5, 1, 0] rfl ?_
    refine w_lv (lv' := [(0, .ref (B + rb)), (1, .int (zI ((j : Nat) : Int))), (2, .int (zI ((a : Nat) : Int))), (3, .long (zJ w)), (5, .int (zI ((min (T ((j : Nat) : Int)).toNat (R - a) : Nat) : Int))), (6, .int (zI ((((lo (clL T V (j + 1) 4) (R - a)) + 0) : Nat) : Int)))]) (lc_s (lc_s (lc_s (lc_s (lc_s (lc_i (by first | omega | with_reducible rfl) rfl)))))) ?_
    refine w_loop2 (fun (k : Nat) (gl_7 : (Nat → va_E)) => vRare cy B gl_7 rb cb nb sw (rw + (srN (rf 0 sw ((T ((j : Nat) : Int)).toNat, (V ((j : Nat) : Int)).toNat) (clL T V (j + 1) 4) (R - a) w) (lo (clL T V (j + 1) 4) (R - a)) k)) (rt + (srN (rf 1 sw ((T ((j : Nat) : Int)).toNat, (V ((j : Nat) : Int)).toNat) (clL T V (j + 1) 4) (R - a) w) (lo (clL T V (j + 1) 4) (R - a)) k)) (lc + (srN (rf 2 sw ((T ((j : Nat) : Int)).toNat, (V ((j : Nat) : Int)).toNat) (clL T V (j + 1) 4) (R - a) w) (lo (clL T V (j + 1) 4) (R - a)) k)) rver ∧ vNet cy B gl_7 nb cb tf ((R : Nat) : Int) nver G ∧ vCol cy B gl_7 cb sets n cver T X V Wy ∧ (∀ q, (q < rb ∨ rb + 1 ≤ q) → gl_7 q = g q) ∧ k ≤ nn ((T ((j : Nat) : Int)).toNat, (V ((j : Nat) : Int)).toNat) (clL T V (j + 1) 4) (R - a)) (fun (k : Nat) (gl_7 : (Nat → va_E)) => nn ((T ((j : Nat) : Int)).toNat, (V ((j : Nat) : Int)).toNat) (clL T V (j + 1) 4) (R - a) - k) (fun (k : Nat) (gl_7 : (Nat → va_E)) => gl_7) (fun (k : Nat) (gl_7 : (Nat → va_E)) => [(0, .ref (B + rb)), (1, .int (zI ((j : Nat) : Int))), (2, .int (zI ((a : Nat) : Int))), (3, .long (zJ w)), (5, .int (zI ((min (T ((j : Nat) : Int)).toNat (R - a) : Nat) : Int))), (6, .int (zI ((((lo (clL T V (j + 1) 4) (R - a)) + k) : Nat) : Int)))]) ?_ 0 g ⟨(by have h9 := hw; simp only [srN, Int.add_zero]; exact h9), hn, hc, hfr_0, (Nat.zero_le _)⟩
    rintro k gl_7 ⟨hw_8, hn_9, hc_10, hfr_11, hk⟩ ih_34
    have hlo : lo (clL T V (j + 1) 4) (R - a) ≤ R - a ∧ nn ((T ((j : Nat) : Int)).toNat, (V ((j : Nat) : Int)).toNat) (clL T V (j + 1) 4) (R - a) ≤ 13 := by unfold lo nn; omega
    refine w_iload dX4_walkFrom_34 5 rfl ?_
    refine w_iload dX4_walkFrom_36 4 rfl ?_
    refine w_icmp_gt 70 dX4_walkFrom_38 (by decide) (by first | omega | with_reducible rfl) (by first | omega | with_reducible rfl) (fun c_38 => ?_) (fun c_38 => ?_)
    · have hk9 : k = nn ((T ((j : Nat) : Int)).toNat, (V ((j : Nat) : Int)).toNat) (clL T V (j + 1) 4) (R - a) := by unfold lo nn at *; omega
      exact w_vret dX4_walkFrom_70 rfl ⟨(by have h9 := hw_8; rw [hk9] at h9; exact h9), hfr_11⟩
    · have hx : lo (clL T V (j + 1) 4) (R - a) + k ≤ (T ((j : Nat) : Int)).toNat := by omega
      refine w_aload_n dX4_walkFrom_41 rfl 0 rfl ?_
      refine w_iload_n dX4_walkFrom_42 rfl 1 rfl ?_
      refine w_iconst dX4_walkFrom_43 ?_
      refine w_iadd dX4_walkFrom_44 ?_
      refine w_iload_n dX4_walkFrom_45 rfl 2 rfl ?_
      refine w_iload dX4_walkFrom_46 5 rfl ?_
      refine w_iadd dX4_walkFrom_48 ?_
      refine w_lload_n dX4_walkFrom_49 rfl 3 rfl ?_
      refine w_aload_n dX4_walkFrom_50 rfl 0 rfl ?_
      refine w_get (i := 0) (T := TX4) (NF := 7) rb (by first | omega | with_reducible rfl) hw_8 rfl (fun _ h => (List.mem_cons_of_mem _ (List.mem_append_left _ (List.mem_append_left _ (List.mem_append_right _ h))))) (by decide) (List.mem_of_getElem? (i := 1) rfl) rfl dX4_walkFrom_51 ?_
      refine w_iload_n dX4_walkFrom_54 rfl 1 rfl ?_
      refine w_iload dX4_walkFrom_55 5 rfl ?_
      refine w_calll (As := [.int (zI ((j : Nat) : Int)), .int (zI ((((lo (clL T V (j + 1) 4) (R - a)) + k) : Nat) : Int))]) (rest := [.long (zJ w), .int (zI (((a : Nat) : Int) + ((((lo (clL T V (j + 1) 4) (R - a)) + k) : Nat) : Int))), .int (zI (((j : Nat) : Int) + 1)), .ref (B + rb)]) (n := 2) (c_X0_waysOf hc_10 (by first | omega | with_reducible rfl) (by first | omega | with_reducible rfl) (by first | omega | with_reducible rfl) (by first | omega | with_reducible rfl)) gX4_walkFrom_X0_waysOf rfl rfl rfl (by decide +kernel) ⟨Nat.le_of_ble_eq_true rfl, Nat.le_of_ble_eq_true rfl⟩ rfl (by first | omega | with_reducible rfl) hc_10.1 rfl (Nat.le_of_ble_eq_true rfl) ⟨Nat.zero_le _, Nat.zero_le _⟩ dX4_walkFrom_57 rfl (fun g_12 hp_13 => ?_)
      subst g_12
      refine w_as (st' := [.long (zJ ((ch (T ((j : Nat) : Int)).toNat (lo (clL T V (j + 1) 4) (R - a) + k) : Nat) : Int)), .long (zJ w), .int (zI (((a : Nat) : Int) + ((((lo (clL T V (j + 1) 4) (R - a)) + k) : Nat) : Int))), .int (zI (((j : Nat) : Int) + 1)), .ref (B + rb)]) (sc_l (by rw [wyA_in (by omega), Int.toNat_natCast]; exact hWy _ (by omega) _ (by omega)) rfl) ?_
      refine w_lmul dX4_walkFrom_60 ?_
      refine w_as (st' := [.long (zJ (w * ((ch (T ((j : Nat) : Int)).toNat (lo (clL T V (j + 1) 4) (R - a) + k) : Nat) : Int))), .int (zI (((a + (lo (clL T V (j + 1) 4) (R - a) + k)) : Nat) : Int)), .int (zI (((j + 1) : Nat) : Int)), .ref (B + rb)]) (lc_s (sc_i (by first | omega | with_reducible rfl) (sc_i (by first | omega | with_reducible rfl) rfl))) ?_
      refine w_callv (As := [.int (zI (((j + 1) : Nat) : Int)), .int (zI (((a + (lo (clL T V (j + 1) 4) (R - a) + k)) : Nat) : Int)), .long (zJ (w * ((ch (T ((j : Nat) : Int)).toNat (lo (clL T V (j + 1) 4) (R - a) + k) : Nat) : Int)))]) (rest := []) (n := 3) (c_X4_lookAt_4 (j := (j + 1)) (a := (a + (lo (clL T V (j + 1) 4) (R - a) + k))) hw_8 hn_9 hc_10 (by first | omega | with_reducible rfl) (by first | omega | with_reducible rfl) (by first | omega | with_reducible rfl) (by first | omega | with_reducible rfl) (by first | omega | with_reducible rfl) hok (by first | omega | with_reducible rfl) hNF htf hWy (by first | omega | with_reducible rfl) (by first | omega | with_reducible rfl) (thr_next hth hjm (by omega) hx (by omega)) (wok_c (c := ((T ((j : Nat) : Int)).toNat, (V ((j : Nat) : Int)).toNat)) (cs := (clL T V (j + 1) 4)) hwk _)) gX4_walkFrom_X4_lookAt rfl rfl rfl (by decide +kernel) ⟨Nat.le_of_ble_eq_true rfl, Nat.le_of_ble_eq_true rfl⟩ rfl (by first | omega | with_reducible rfl) hw_8 rfl (Nat.le_of_ble_eq_true rfl) ⟨Nat.zero_le _, Nat.zero_le _⟩ dX4_walkFrom_61 rfl (fun g_14 hp_15 => ?_)
      obtain ⟨hw_16, hf_17⟩ := hp_15
      have hn_18 : vNet cy B g_14 nb cb tf ((R : Nat) : Int) nver G := vNet_fr hn_9 (fun q h1 h2 => hf_17 q (by omega))
      have hc_19 : vCol cy B g_14 cb sets n cver T X V Wy := vCol_fr hc_10 (fun q h1 h2 => hf_17 q (by omega))
      have hfr_20 : ∀ q, (q < rb ∨ rb + 1 ≤ q) → g_14 q = g q := fun q hq => (hf_17 q (by omega)).trans (hfr_11 q hq)
      refine w_iinc 5 [(6, .int (zI (((((lo (clL T V (j + 1) 4) (R - a)) + k) : Nat) : Int) + 1))), (0, .ref (B + rb)), (1, .int (zI ((j : Nat) : Int))), (2, .int (zI ((a : Nat) : Int))), (3, .long (zJ w)), (5, .int (zI ((min (T ((j : Nat) : Int)).toNat (R - a) : Nat) : Int)))] dX4_walkFrom_64 rfl (by decide) rfl ?_
      refine w_goto 34 dX4_walkFrom_67 (by decide) ?_
      refine w_sub [(0, .ref (B + rb)), (1, .int (zI ((j : Nat) : Int))), (2, .int (zI ((a : Nat) : Int))), (3, .long (zJ w)), (5, .int (zI ((min (T ((j : Nat) : Int)).toNat (R - a) : Nat) : Int))), (6, .int (zI (((((lo (clL T V (j + 1) 4) (R - a)) + k) : Nat) : Int) + 1)))] [1, 2, 3, 4, 5, 0] rfl ?_
      refine w_lv (lv' := [(0, .ref (B + rb)), (1, .int (zI ((j : Nat) : Int))), (2, .int (zI ((a : Nat) : Int))), (3, .long (zJ w)), (5, .int (zI ((min (T ((j : Nat) : Int)).toNat (R - a) : Nat) : Int))), (6, .int (zI ((((lo (clL T V (j + 1) 4) (R - a)) + (k + 1)) : Nat) : Int)))]) (lc_s (lc_s (lc_s (lc_s (lc_s (lc_i (by first | omega | with_reducible rfl) rfl)))))) ?_
      exact ih_34 (k + 1) g_14 ⟨(by have h9 := hw_16; rw [st_rf, st_rf, st_rf] at h9; exact h9), hn_18, hc_19, hfr_20, (by unfold lo nn at *; omega)⟩ (by unfold lo nn at *; omega)
  · exfalso; omega
