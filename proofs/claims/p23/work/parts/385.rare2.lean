/-! ===== RareWalk.refresh ===== -/
set_option maxHeartbeats 4000000 in
set_option maxRecDepth 100000 in
theorem c_X4_walkFrom_t1 {l : Launch} {D : va_G} {cy : Nat → ClassId} {B N : Nat} {g : Nat → va_E} {rb : Nat} {sw rw rt lc rver : Int} {nb cb : Nat} {tf : Int → Int} {nver : Int} {G : Nat → Int → Int} {sets n R : Nat} {cver : Int} {T X V : Int → Int} {Wy : Nat → Int → Int} {j a : Nat} {w : Int} (hw : vRare cy B g rb cb nb sw rw rt lc rver) (hn : vNet cy B g nb cb tf ((R : Nat) : Int) nver G) (hc : vCol cy B g cb sets n cver T X V Wy) (hRB : rb + 1 ≤ N) (hd1 : rb + 1 ≤ nb ∨ nb + 11 ≤ rb) (hd2 : rb + 1 ≤ cb ∨ cb + 10 ≤ rb) (hNB : nb + 11 ≤ N) (hCB : cb + 10 ≤ N) (hok : okT T V n) (hR : R ≤ 60) (hNF : NF T V n R G) (htf : ∀ j : Nat, j ≤ 5 → tf ((j : Nat) : Int) = ((tsum (clL T V j (n - j)) : Nat) : Int)) (hWy : ∀ j : Nat, j < n → ∀ x : Nat, x ≤ 12 → Wy j ((x : Nat) : Int) = ((ch (T ((j : Nat) : Int)).toNat x : Nat) : Int)) (hsw : 0 ≤ sw ∧ sw ≤ 1152921504606846976) (hjm : j + 1 = n) (hth : thr T V n R j a) (hwk : wok w (clL T V j 1)) : CTv l yX4_walkFrom wsX4_walkFrom (rmo 10 262) D cy B N g [.ref (B + rb), .int (zI ((j : Nat) : Int)), .int (zI ((a : Nat) : Int)), .long (zJ w)] (fun g' => vRare cy B g' rb cb nb sw (rw + rk 0 sw (clL T V j 1) (R - a) w) (rt + rk 1 sw (clL T V j 1) (R - a) w) (lc + rk 2 sw (clL T V j 1) (R - a) w) rver ∧ (∀ q, (q < rb ∨ rb + 1 ≤ q) → g' q = g q)) := by
  refine WW_of (cc := cX4_walkFrom) (maxL := 7) (ret := none) (own := RX4) (by decide) rfl rfl (Nat.le_of_ble_eq_true rfl) rfl ?_
  intro pp ee ss mm bl me co hmn
  have hfr_0 : ∀ q, (q < rb ∨ rb + 1 ≤ q) → g q = g q := fun _ _ => rfl
  have hn5 : n ≤ 5 := hok.1
  have htR := hth.2.1
  have hq1 := hok.2 ((j : Nat) : Int) (by omega) (by omega)
  have ht3 : tf (((j : Nat) : Int) + 1) = ((tsum (clL T V (j + 1) 0) : Nat) : Int) := by
    have h9 := htf (j + 1) (by omega)
    rw [show n - (j + 1) = 0 by omega] at h9
    exact h9
  have htfr : ∀ i : Int, 0 ≤ i → i ≤ 5 → 0 ≤ tf i ∧ tf i ≤ 60 := fun i h1 h2 => by
    obtain ⟨k, rfl⟩ := Int.eq_ofNat_of_zero_le h1
    have h3 := htf k (by omega)
    by_cases hk : k ≤ n
    · have h4 := okT_ts hok (m := n - k) (j := k) (by omega)
      omega
    · rw [show n - k = 0 by omega] at h3
      rw [clL, tsum] at h3
      omega
  have hts := thr_ts hth hjm
  have hts2 : tsum (clL T V j 1) = (T ((j : Nat) : Int)).toNat + tsum (clL T V (j + 1) 0) := rfl
  refine w_aload_n dX4_walkFrom_0 rfl 0 rfl ?_
  refine w_get (i := 0) (T := TX4) (NF := 7) rb (by first | omega | with_reducible rfl) hw rfl (fun _ h => (List.mem_cons_of_mem _ (List.mem_append_left _ (List.mem_append_left _ (List.mem_append_right _ h))))) (by decide) (List.mem_of_getElem? (i := 1) rfl) rfl dX4_walkFrom_1 ?_
  refine w_iload_n dX4_walkFrom_4 rfl 1 rfl ?_
  refine w_calli (As := [.int (zI ((j : Nat) : Int))]) (rest := []) (n := 1) (c_X0_has hc (by first | omega | with_reducible rfl) (by first | omega | with_reducible rfl) (by first | omega | with_reducible rfl)) gX4_walkFrom_X0_has rfl rfl rfl (by decide +kernel) ⟨Nat.le_of_ble_eq_true rfl, Nat.le_of_ble_eq_true rfl⟩ rfl (by first | omega | with_reducible rfl) hc.1 rfl (Nat.le_of_ble_eq_true rfl) ⟨Nat.zero_le _, Nat.zero_le _⟩ dX4_walkFrom_5 rfl (fun g_1 hp_2 => ?_)
  subst g_1
  refine w_ifneB 12 dX4_walkFrom_8 (by decide) (fun c_8 => ?_) (fun c_8 => ?_)
  · refine w_aload_n dX4_walkFrom_12 rfl 0 rfl ?_
    refine w_get (i := 1) (T := TX4) (NF := 7) rb (by first | omega | with_reducible rfl) hw rfl (fun _ h => (List.mem_cons_of_mem _ (List.mem_append_left _ (List.mem_append_left _ (List.mem_append_right _ h))))) (by decide) (List.mem_of_getElem? (i := 2) rfl) rfl dX4_walkFrom_13 ?_
    refine w_iload_n dX4_walkFrom_16 rfl 1 rfl ?_
    refine w_iload_n dX4_walkFrom_17 rfl 2 rfl ?_
    refine w_calli (As := [.int (zI ((j : Nat) : Int)), .int (zI ((a : Nat) : Int))]) (rest := []) (n := 2) (c_X2_most hn hc (by first | omega | with_reducible rfl) (by first | omega | with_reducible rfl) hn5 (by omega) (by omega) (by first | omega | with_reducible rfl) (by first | omega | with_reducible rfl)) gX4_walkFrom_X2_most rfl rfl rfl (by decide +kernel) ⟨Nat.le_of_ble_eq_true rfl, Nat.le_of_ble_eq_true rfl⟩ rfl (by first | omega | with_reducible rfl) hn.1 rfl (Nat.le_of_ble_eq_true rfl) ⟨Nat.zero_le _, Nat.zero_le _⟩ dX4_walkFrom_18 rfl (fun g_3 hp_4 => ?_)
    subst g_3
    refine w_as (st' := [.int (zI ((min (T ((j : Nat) : Int)).toNat (R - a) : Nat) : Int))]) (sc_i (by first | omega | with_reducible rfl) rfl) ?_
    refine w_istore [(5, .int (zI ((min (T ((j : Nat) : Int)).toNat (R - a) : Nat) : Int))), (0, .ref (B + rb)), (1, .int (zI ((j : Nat) : Int))), (2, .int (zI ((a : Nat) : Int))), (3, .long (zJ w))] dX4_walkFrom_21 (by decide) rfl ?_
    refine w_aload_n dX4_walkFrom_23 rfl 1 rfl ?_
    refine w_get (i := 1) (T := TX4) (NF := 7) rb (by first | omega | with_reducible rfl) hw rfl (fun _ h => (List.mem_cons_of_mem _ (List.mem_append_left _ (List.mem_append_left _ (List.mem_append_right _ h))))) (by decide) (List.mem_of_getElem? (i := 2) rfl) rfl dX4_walkFrom_24 ?_
    refine w_iload_n dX4_walkFrom_27 rfl 2 rfl ?_
    refine w_iload_n dX4_walkFrom_28 rfl 3 rfl ?_
    refine w_calli (As := [.int (zI ((j : Nat) : Int)), .int (zI ((a : Nat) : Int))]) (rest := []) (n := 2) (c_X2_fewest hn (by first | omega | with_reducible rfl) (by omega) htfr (by first | omega | with_reducible rfl) (by first | omega | with_reducible rfl)) gX4_walkFrom_X2_fewest rfl rfl rfl (by decide +kernel) ⟨Nat.le_of_ble_eq_true rfl, Nat.le_of_ble_eq_true rfl⟩ rfl (by first | omega | with_reducible rfl) hn.1 rfl (Nat.le_of_ble_eq_true rfl) ⟨Nat.zero_le _, Nat.zero_le _⟩ dX4_walkFrom_29 rfl (fun g_5 hp_6 => ?_)
    subst g_5
    refine w_as (st' := [.int (zI (((lo (clL T V (j + 1) 0) (R - a)) : Nat) : Int))]) (sc_i (by rw [ht3]; unfold lo; omega) rfl) ?_
    refine w_istore [(6, .int (zI (((lo (clL T V (j + 1) 0) (R - a)) : Nat) : Int))), (5, .int (zI ((min (T ((j : Nat) : Int)).toNat (R - a) : Nat) : Int))), (0, .ref (B + rb)), (1, .int (zI ((j : Nat) : Int))), (2, .int (zI ((a : Nat) : Int))), (3, .long (zJ w))] dX4_walkFrom_32 (by decide) rfl ?_
    refine w_sub [(0, .ref (B + rb)), (1, .int (zI ((j : Nat) : Int))), (2, .int (zI ((a : Nat) : Int))), (3, .long (zJ w)), (5, .int (zI ((min (T ((j : Nat) : Int)).toNat (R - a) : Nat) : Int))), (6, .int (zI (((lo (clL T V (j + 1) 0) (R - a)) : Nat) : Int)))] [2, 3, 4, 5, 1, 0] rfl ?_
    refine w_lv (lv' := [(0, .ref (B + rb)), (1, .int (zI ((j : Nat) : Int))), (2, .int (zI ((a : Nat) : Int))), (3, .long (zJ w)), (5, .int (zI ((min (T ((j : Nat) : Int)).toNat (R - a) : Nat) : Int))), (6, .int (zI ((((lo (clL T V (j + 1) 0) (R - a)) + 0) : Nat) : Int)))]) (lc_s (lc_s (lc_s (lc_s (lc_s (lc_i (by first | omega | with_reducible rfl) rfl)))))) ?_
    refine w_loop2 (fun (k : Nat) (gl_7 : (Nat → va_E)) => vRare cy B gl_7 rb cb nb sw (rw + (srN (rf 0 sw ((T ((j : Nat) : Int)).toNat, (V ((j : Nat) : Int)).toNat) (clL T V (j + 1) 0) (R - a) w) (lo (clL T V (j + 1) 0) (R - a)) k)) (rt + (srN (rf 1 sw ((T ((j : Nat) : Int)).toNat, (V ((j : Nat) : Int)).toNat) (clL T V (j + 1) 0) (R - a) w) (lo (clL T V (j + 1) 0) (R - a)) k)) (lc + (srN (rf 2 sw ((T ((j : Nat) : Int)).toNat, (V ((j : Nat) : Int)).toNat) (clL T V (j + 1) 0) (R - a) w) (lo (clL T V (j + 1) 0) (R - a)) k)) rver ∧ vNet cy B gl_7 nb cb tf ((R : Nat) : Int) nver G ∧ vCol cy B gl_7 cb sets n cver T X V Wy ∧ (∀ q, (q < rb ∨ rb + 1 ≤ q) → gl_7 q = g q) ∧ k ≤ nn ((T ((j : Nat) : Int)).toNat, (V ((j : Nat) : Int)).toNat) (clL T V (j + 1) 0) (R - a)) (fun (k : Nat) (gl_7 : (Nat → va_E)) => nn ((T ((j : Nat) : Int)).toNat, (V ((j : Nat) : Int)).toNat) (clL T V (j + 1) 0) (R - a) - k) (fun (k : Nat) (gl_7 : (Nat → va_E)) => gl_7) (fun (k : Nat) (gl_7 : (Nat → va_E)) => [(0, .ref (B + rb)), (1, .int (zI ((j : Nat) : Int))), (2, .int (zI ((a : Nat) : Int))), (3, .long (zJ w)), (5, .int (zI ((min (T ((j : Nat) : Int)).toNat (R - a) : Nat) : Int))), (6, .int (zI ((((lo (clL T V (j + 1) 0) (R - a)) + k) : Nat) : Int)))]) ?_ 0 g ⟨(by have h9 := hw; simp only [srN, Int.add_zero]; exact h9), hn, hc, hfr_0, (Nat.zero_le _)⟩
    rintro k gl_7 ⟨hw_8, hn_9, hc_10, hfr_11, hk⟩ ih_34
    have hlo : lo (clL T V (j + 1) 0) (R - a) ≤ R - a ∧ nn ((T ((j : Nat) : Int)).toNat, (V ((j : Nat) : Int)).toNat) (clL T V (j + 1) 0) (R - a) ≤ 13 := by unfold lo nn; omega
    refine w_iload dX4_walkFrom_34 5 rfl ?_
    refine w_iload dX4_walkFrom_36 4 rfl ?_
    refine w_icmp_gt 70 dX4_walkFrom_38 (by decide) (by first | omega | with_reducible rfl) (by first | omega | with_reducible rfl) (fun c_38 => ?_) (fun c_38 => ?_)
    · have hk9 : k = nn ((T ((j : Nat) : Int)).toNat, (V ((j : Nat) : Int)).toNat) (clL T V (j + 1) 0) (R - a) := by unfold lo nn at *; omega
      exact w_vret dX4_walkFrom_70 rfl ⟨(by have h9 := hw_8; rw [hk9] at h9; exact h9), hfr_11⟩
    · have hx : lo (clL T V (j + 1) 0) (R - a) + k ≤ (T ((j : Nat) : Int)).toNat := by omega
      refine w_aload_n dX4_walkFrom_41 rfl 0 rfl ?_
      refine w_iload_n dX4_walkFrom_42 rfl 1 rfl ?_
      refine w_iconst dX4_walkFrom_43 ?_
      refine w_iadd dX4_walkFrom_44 ?_
      refine w_iload_n dX4_walkFrom_45 rfl 2 rfl ?_
      refine w_iload dX4_walkFrom_46 5 rfl ?_
      refine w_iadd dX4_walkFrom_48 ?_
      refine w_lload_n dX4_walkFrom_49 rfl 3 rfl ?_
      refine w_aload_n dX4_walkFrom_50 rfl 0 rfl ?_
      refine w_get (i := 0) (T := TX4) (NF := 7) rb (by first | omega | with_reducible rfl) hw_8 rfl (fun _ h => (List.mem_cons_of_mem _ (List.mem_append_left _ (List.mem_append_left _ (List.mem_append_right _ h))))) (by decide) (List.mem_of_getElem? (i := 1) rfl) rfl dX4_walkFrom_51 ?_
      refine w_iload_n dX4_walkFrom_54 rfl 1 rfl ?_
      refine w_iload dX4_walkFrom_55 5 rfl ?_
      refine w_calll (As := [.int (zI ((j : Nat) : Int)), .int (zI ((((lo (clL T V (j + 1) 0) (R - a)) + k) : Nat) : Int))]) (rest := [.long (zJ w), .int (zI (((a : Nat) : Int) + ((((lo (clL T V (j + 1) 0) (R - a)) + k) : Nat) : Int))), .int (zI (((j : Nat) : Int) + 1)), .ref (B + rb)]) (n := 2) (c_X0_waysOf hc_10 (by first | omega | with_reducible rfl) (by first | omega | with_reducible rfl) (by first | omega | with_reducible rfl) (by first | omega | with_reducible rfl)) gX4_walkFrom_X0_waysOf rfl rfl rfl (by decide +kernel) ⟨Nat.le_of_ble_eq_true rfl, Nat.le_of_ble_eq_true rfl⟩ rfl (by first | omega | with_reducible rfl) hc_10.1 rfl (Nat.le_of_ble_eq_true rfl) ⟨Nat.zero_le _, Nat.zero_le _⟩ dX4_walkFrom_57 rfl (fun g_12 hp_13 => ?_)
      subst g_12
      refine w_as (st' := [.long (zJ ((ch (T ((j : Nat) : Int)).toNat (lo (clL T V (j + 1) 0) (R - a) + k) : Nat) : Int)), .long (zJ w), .int (zI (((a : Nat) : Int) + ((((lo (clL T V (j + 1) 0) (R - a)) + k) : Nat) : Int))), .int (zI (((j : Nat) : Int) + 1)), .ref (B + rb)]) (sc_l (by rw [wyA_in (by omega), Int.toNat_natCast]; exact hWy _ (by omega) _ (by omega)) rfl) ?_
      refine w_lmul dX4_walkFrom_60 ?_
      refine w_as (st' := [.long (zJ (w * ((ch (T ((j : Nat) : Int)).toNat (lo (clL T V (j + 1) 0) (R - a) + k) : Nat) : Int))), .int (zI (((a + (lo (clL T V (j + 1) 0) (R - a) + k)) : Nat) : Int)), .int (zI (((j + 1) : Nat) : Int)), .ref (B + rb)]) (lc_s (sc_i (by first | omega | with_reducible rfl) (sc_i (by first | omega | with_reducible rfl) rfl))) ?_
      refine w_callv (As := [.int (zI (((j + 1) : Nat) : Int)), .int (zI (((a + (lo (clL T V (j + 1) 0) (R - a) + k)) : Nat) : Int)), .long (zJ (w * ((ch (T ((j : Nat) : Int)).toNat (lo (clL T V (j + 1) 0) (R - a) + k) : Nat) : Int)))]) (rest := []) (n := 3) (c_X4_lookAt_0 (j := (j + 1)) (a := (a + (lo (clL T V (j + 1) 0) (R - a) + k))) hw_8 hn_9 hc_10 (by first | omega | with_reducible rfl) (by first | omega | with_reducible rfl) (by first | omega | with_reducible rfl) (by first | omega | with_reducible rfl) (by first | omega | with_reducible rfl) hok (by first | omega | with_reducible rfl) hNF htf hWy (by first | omega | with_reducible rfl) (by first | omega | with_reducible rfl) (thr_next hth hjm (by omega) hx (by omega)) (wok_c (c := ((T ((j : Nat) : Int)).toNat, (V ((j : Nat) : Int)).toNat)) (cs := (clL T V (j + 1) 0)) hwk _)) gX4_walkFrom_X4_lookAt rfl rfl rfl (by decide +kernel) ⟨Nat.le_of_ble_eq_true rfl, Nat.le_of_ble_eq_true rfl⟩ rfl (by first | omega | with_reducible rfl) hw_8 rfl (Nat.le_of_ble_eq_true rfl) ⟨Nat.zero_le _, Nat.zero_le _⟩ dX4_walkFrom_61 rfl (fun g_14 hp_15 => ?_)
      obtain ⟨hw_16, hf_17⟩ := hp_15
      have hn_18 : vNet cy B g_14 nb cb tf ((R : Nat) : Int) nver G := vNet_fr hn_9 (fun q h1 h2 => hf_17 q (by omega))
      have hc_19 : vCol cy B g_14 cb sets n cver T X V Wy := vCol_fr hc_10 (fun q h1 h2 => hf_17 q (by omega))
      have hfr_20 : ∀ q, (q < rb ∨ rb + 1 ≤ q) → g_14 q = g q := fun q hq => (hf_17 q (by omega)).trans (hfr_11 q hq)
      refine w_iinc 5 [(6, .int (zI (((((lo (clL T V (j + 1) 0) (R - a)) + k) : Nat) : Int) + 1))), (0, .ref (B + rb)), (1, .int (zI ((j : Nat) : Int))), (2, .int (zI ((a : Nat) : Int))), (3, .long (zJ w)), (5, .int (zI ((min (T ((j : Nat) : Int)).toNat (R - a) : Nat) : Int)))] dX4_walkFrom_64 rfl (by decide) rfl ?_
      refine w_goto 34 dX4_walkFrom_67 (by decide) ?_
      refine w_sub [(0, .ref (B + rb)), (1, .int (zI ((j : Nat) : Int))), (2, .int (zI ((a : Nat) : Int))), (3, .long (zJ w)), (5, .int (zI ((min (T ((j : Nat) : Int)).toNat (R - a) : Nat) : Int))), (6, .int (zI (((((lo (clL T V (j + 1) 0) (R - a)) + k) : Nat) : Int) + 1)))] [1, 2, 3, 4, 5, 0] rfl ?_
      refine w_lv (lv' := [(0, .ref (B + rb)), (1, .int (zI ((j : Nat) : Int))), (2, .int (zI ((a : Nat) : Int))), (3, .long (zJ w)), (5, .int (zI ((min (T ((j : Nat) : Int)).toNat (R - a) : Nat) : Int))), (6, .int (zI ((((lo (clL T V (j + 1) 0) (R - a)) + (k + 1)) : Nat) : Int)))]) (lc_s (lc_s (lc_s (lc_s (lc_s (lc_i (by first | omega | with_reducible rfl) rfl)))))) ?_
      exact ih_34 (k + 1) g_14 ⟨(by have h9 := hw_16; rw [st_rf, st_rf, st_rf] at h9; exact h9), hn_18, hc_19, hfr_20, (by unfold lo nn at *; omega)⟩ (by unfold lo nn at *; omega)
  · exfalso; omega
set_option maxHeartbeats 4000000 in
set_option maxRecDepth 100000 in
theorem c_X4_walkFrom_t2 {l : Launch} {D : va_G} {cy : Nat → ClassId} {B N : Nat} {g : Nat → va_E} {rb : Nat} {sw rw rt lc rver : Int} {nb cb : Nat} {tf : Int → Int} {nver : Int} {G : Nat → Int → Int} {sets n R : Nat} {cver : Int} {T X V : Int → Int} {Wy : Nat → Int → Int} {j a : Nat} {w : Int} (hw : vRare cy B g rb cb nb sw rw rt lc rver) (hn : vNet cy B g nb cb tf ((R : Nat) : Int) nver G) (hc : vCol cy B g cb sets n cver T X V Wy) (hRB : rb + 1 ≤ N) (hd1 : rb + 1 ≤ nb ∨ nb + 11 ≤ rb) (hd2 : rb + 1 ≤ cb ∨ cb + 10 ≤ rb) (hNB : nb + 11 ≤ N) (hCB : cb + 10 ≤ N) (hok : okT T V n) (hR : R ≤ 60) (hNF : NF T V n R G) (htf : ∀ j : Nat, j ≤ 5 → tf ((j : Nat) : Int) = ((tsum (clL T V j (n - j)) : Nat) : Int)) (hWy : ∀ j : Nat, j < n → ∀ x : Nat, x ≤ 12 → Wy j ((x : Nat) : Int) = ((ch (T ((j : Nat) : Int)).toNat x : Nat) : Int)) (hsw : 0 ≤ sw ∧ sw ≤ 1152921504606846976) (hjm : j + 2 = n) (hth : thr T V n R j a) (hwk : wok w (clL T V j 2)) : CTv l yX4_walkFrom wsX4_walkFrom (rmo 10 262) D cy B N g [.ref (B + rb), .int (zI ((j : Nat) : Int)), .int (zI ((a : Nat) : Int)), .long (zJ w)] (fun g' => vRare cy B g' rb cb nb sw (rw + rk 0 sw (clL T V j 2) (R - a) w) (rt + rk 1 sw (clL T V j 2) (R - a) w) (lc + rk 2 sw (clL T V j 2) (R - a) w) rver ∧ (∀ q, (q < rb ∨ rb + 1 ≤ q) → g' q = g q)) := by
  refine WW_of (cc := cX4_walkFrom) (maxL := 7) (ret := none) (own := RX4) (by decide) rfl rfl (Nat.le_of_ble_eq_true rfl) rfl ?_
  intro pp ee ss mm bl me co hmn
  have hfr_0 : ∀ q, (q < rb ∨ rb + 1 ≤ q) → g q = g q := fun _ _ => rfl
  have hn5 : n ≤ 5 := hok.1
  have htR := hth.2.1
  have hq1 := hok.2 ((j : Nat) : Int) (by omega) (by omega)
  have ht3 : tf (((j : Nat) : Int) + 1) = ((tsum (clL T V (j + 1) 1) : Nat) : Int) := by
    have h9 := htf (j + 1) (by omega)
    rw [show n - (j + 1) = 1 by omega] at h9
    exact h9
  have htfr : ∀ i : Int, 0 ≤ i → i ≤ 5 → 0 ≤ tf i ∧ tf i ≤ 60 := fun i h1 h2 => by
    obtain ⟨k, rfl⟩ := Int.eq_ofNat_of_zero_le h1
    have h3 := htf k (by omega)
    by_cases hk : k ≤ n
    · have h4 := okT_ts hok (m := n - k) (j := k) (by omega)
      omega
    · rw [show n - k = 0 by omega] at h3
      rw [clL, tsum] at h3
      omega
  have hts := thr_ts hth hjm
  have hts2 : tsum (clL T V j 2) = (T ((j : Nat) : Int)).toNat + tsum (clL T V (j + 1) 1) := rfl
  refine w_aload_n dX4_walkFrom_0 rfl 0 rfl ?_
  refine w_get (i := 0) (T := TX4) (NF := 7) rb (by first | omega | with_reducible rfl) hw rfl (fun _ h => (List.mem_cons_of_mem _ (List.mem_append_left _ (List.mem_append_left _ (List.mem_append_right _ h))))) (by decide) (List.mem_of_getElem? (i := 1) rfl) rfl dX4_walkFrom_1 ?_
  refine w_iload_n dX4_walkFrom_4 rfl 1 rfl ?_
  refine w_calli (As := [.int (zI ((j : Nat) : Int))]) (rest := []) (n := 1) (c_X0_has hc (by first | omega | with_reducible rfl) (by first | omega | with_reducible rfl) (by first | omega | with_reducible rfl)) gX4_walkFrom_X0_has rfl rfl rfl (by decide +kernel) ⟨Nat.le_of_ble_eq_true rfl, Nat.le_of_ble_eq_true rfl⟩ rfl (by first | omega | with_reducible rfl) hc.1 rfl (Nat.le_of_ble_eq_true rfl) ⟨Nat.zero_le _, Nat.zero_le _⟩ dX4_walkFrom_5 rfl (fun g_1 hp_2 => ?_)
  subst g_1
  refine w_ifneB 12 dX4_walkFrom_8 (by decide) (fun c_8 => ?_) (fun c_8 => ?_)
  · refine w_aload_n dX4_walkFrom_12 rfl 0 rfl ?_
    refine w_get (i := 1) (T := TX4) (NF := 7) rb (by first | omega | with_reducible rfl) hw rfl (fun _ h => (List.mem_cons_of_mem _ (List.mem_append_left _ (List.mem_append_left _ (List.mem_append_right _ h))))) (by decide) (List.mem_of_getElem? (i := 2) rfl) rfl dX4_walkFrom_13 ?_
    refine w_iload_n dX4_walkFrom_16 rfl 1 rfl ?_
    refine w_iload_n dX4_walkFrom_17 rfl 2 rfl ?_
    refine w_calli (As := [.int (zI ((j : Nat) : Int)), .int (zI ((a : Nat) : Int))]) (rest := []) (n := 2) (c_X2_most hn hc (by first | omega | with_reducible rfl) (by first | omega | with_reducible rfl) hn5 (by omega) (by omega) (by first | omega | with_reducible rfl) (by first | omega | with_reducible rfl)) gX4_walkFrom_X2_most rfl rfl rfl (by decide +kernel) ⟨Nat.le_of_ble_eq_true rfl, Nat.le_of_ble_eq_true rfl⟩ rfl (by first | omega | with_reducible rfl) hn.1 rfl (Nat.le_of_ble_eq_true rfl) ⟨Nat.zero_le _, Nat.zero_le _⟩ dX4_walkFrom_18 rfl (fun g_3 hp_4 => ?_)
    subst g_3
    refine w_as (st' := [.int (zI ((min (T ((j : Nat) : Int)).toNat (R - a) : Nat) : Int))]) (sc_i (by first | omega | with_reducible rfl) rfl) ?_
    refine w_istore [(5, .int (zI ((min (T ((j : Nat) : Int)).toNat (R - a) : Nat) : Int))), (0, .ref (B + rb)), (1, .int (zI ((j : Nat) : Int))), (2, .int (zI ((a : Nat) : Int))), (3, .long (zJ w))] dX4_walkFrom_21 (by decide) rfl ?_
    refine w_aload_n dX4_walkFrom_23 rfl 1 rfl ?_
    refine w_get (i := 1) (T := TX4) (NF := 7) rb (by first | omega | with_reducible rfl) hw rfl (fun _ h => (List.mem_cons_of_mem _ (List.mem_append_left _ (List.mem_append_left _ (List.mem_append_right _ h))))) (by decide) (List.mem_of_getElem? (i := 2) rfl) rfl dX4_walkFrom_24 ?_
    refine w_iload_n dX4_walkFrom_27 rfl 2 rfl ?_
    refine w_iload_n dX4_walkFrom_28 rfl 3 rfl ?_
    refine w_calli (As := [.int (zI ((j : Nat) : Int)), .int (zI ((a : Nat) : Int))]) (rest := []) (n := 2) (c_X2_fewest hn (by first | omega | with_reducible rfl) (by omega) htfr (by first | omega | with_reducible rfl) (by first | omega | with_reducible rfl)) gX4_walkFrom_X2_fewest rfl rfl rfl (by decide +kernel) ⟨Nat.le_of_ble_eq_true rfl, Nat.le_of_ble_eq_true rfl⟩ rfl (by first | omega | with_reducible rfl) hn.1 rfl (Nat.le_of_ble_eq_true rfl) ⟨Nat.zero_le _, Nat.zero_le _⟩ dX4_walkFrom_29 rfl (fun g_5 hp_6 => ?_)
    subst g_5
    refine w_as (st' := [.int (zI (((lo (clL T V (j + 1) 1) (R - a)) : Nat) : Int))]) (sc_i (by rw [ht3]; unfold lo; omega) rfl) ?_
    refine w_istore [(6, .int (zI (((lo (clL T V (j + 1) 1) (R - a)) : Nat) : Int))), (5, .int (zI ((min (T ((j : Nat) : Int)).toNat (R - a) : Nat) : Int))), (0, .ref (B + rb)), (1, .int (zI ((j : Nat) : Int))), (2, .int (zI ((a : Nat) : Int))), (3, .long (zJ w))] dX4_walkFrom_32 (by decide) rfl ?_
    refine w_sub [(0, .ref (B + rb)), (1, .int (zI ((j : Nat) : Int))), (2, .int (zI ((a : Nat) : Int))), (3, .long (zJ w)), (5, .int (zI ((min (T ((j : Nat) : Int)).toNat (R - a) : Nat) : Int))), (6, .int (zI (((lo (clL T V (j + 1) 1) (R - a)) : Nat) : Int)))] [2, 3, 4, 5, 1, 0] rfl ?_
    refine w_lv (lv' := [(0, .ref (B + rb)), (1, .int (zI ((j : Nat) : Int))), (2, .int (zI ((a : Nat) : Int))), (3, .long (zJ w)), (5, .int (zI ((min (T ((j : Nat) : Int)).toNat (R - a) : Nat) : Int))), (6, .int (zI ((((lo (clL T V (j + 1) 1) (R - a)) + 0) : Nat) : Int)))]) (lc_s (lc_s (lc_s (lc_s (lc_s (lc_i (by first | omega | with_reducible rfl) rfl)))))) ?_
    refine w_loop2 (fun (k : Nat) (gl_7 : (Nat → va_E)) => vRare cy B gl_7 rb cb nb sw (rw + (srN (rf 0 sw ((T ((j : Nat) : Int)).toNat, (V ((j : Nat) : Int)).toNat) (clL T V (j + 1) 1) (R - a) w) (lo (clL T V (j + 1) 1) (R - a)) k)) (rt + (srN (rf 1 sw ((T ((j : Nat) : Int)).toNat, (V ((j : Nat) : Int)).toNat) (clL T V (j + 1) 1) (R - a) w) (lo (clL T V (j + 1) 1) (R - a)) k)) (lc + (srN (rf 2 sw ((T ((j : Nat) : Int)).toNat, (V ((j : Nat) : Int)).toNat) (clL T V (j + 1) 1) (R - a) w) (lo (clL T V (j + 1) 1) (R - a)) k)) rver ∧ vNet cy B gl_7 nb cb tf ((R : Nat) : Int) nver G ∧ vCol cy B gl_7 cb sets n cver T X V Wy ∧ (∀ q, (q < rb ∨ rb + 1 ≤ q) → gl_7 q = g q) ∧ k ≤ nn ((T ((j : Nat) : Int)).toNat, (V ((j : Nat) : Int)).toNat) (clL T V (j + 1) 1) (R - a)) (fun (k : Nat) (gl_7 : (Nat → va_E)) => nn ((T ((j : Nat) : Int)).toNat, (V ((j : Nat) : Int)).toNat) (clL T V (j + 1) 1) (R - a) - k) (fun (k : Nat) (gl_7 : (Nat → va_E)) => gl_7) (fun (k : Nat) (gl_7 : (Nat → va_E)) => [(0, .ref (B + rb)), (1, .int (zI ((j : Nat) : Int))), (2, .int (zI ((a : Nat) : Int))), (3, .long (zJ w)), (5, .int (zI ((min (T ((j : Nat) : Int)).toNat (R - a) : Nat) : Int))), (6, .int (zI ((((lo (clL T V (j + 1) 1) (R - a)) + k) : Nat) : Int)))]) ?_ 0 g ⟨(by have h9 := hw; simp only [srN, Int.add_zero]; exact h9), hn, hc, hfr_0, (Nat.zero_le _)⟩
    rintro k gl_7 ⟨hw_8, hn_9, hc_10, hfr_11, hk⟩ ih_34
    have hlo : lo (clL T V (j + 1) 1) (R - a) ≤ R - a ∧ nn ((T ((j : Nat) : Int)).toNat, (V ((j : Nat) : Int)).toNat) (clL T V (j + 1) 1) (R - a) ≤ 13 := by unfold lo nn; omega
    refine w_iload dX4_walkFrom_34 5 rfl ?_
    refine w_iload dX4_walkFrom_36 4 rfl ?_
    refine w_icmp_gt 70 dX4_walkFrom_38 (by decide) (by first | omega | with_reducible rfl) (by first | omega | with_reducible rfl) (fun c_38 => ?_) (fun c_38 => ?_)
    · have hk9 : k = nn ((T ((j : Nat) : Int)).toNat, (V ((j : Nat) : Int)).toNat) (clL T V (j + 1) 1) (R - a) := by unfold lo nn at *; omega
      exact w_vret dX4_walkFrom_70 rfl ⟨(by have h9 := hw_8; rw [hk9] at h9; exact h9), hfr_11⟩
    · have hx : lo (clL T V (j + 1) 1) (R - a) + k ≤ (T ((j : Nat) : Int)).toNat := by omega
      refine w_aload_n dX4_walkFrom_41 rfl 0 rfl ?_
      refine w_iload_n dX4_walkFrom_42 rfl 1 rfl ?_
      refine w_iconst dX4_walkFrom_43 ?_
      refine w_iadd dX4_walkFrom_44 ?_
      refine w_iload_n dX4_walkFrom_45 rfl 2 rfl ?_
      refine w_iload dX4_walkFrom_46 5 rfl ?_
      refine w_iadd dX4_walkFrom_48 ?_
      refine w_lload_n dX4_walkFrom_49 rfl 3 rfl ?_
      refine w_aload_n dX4_walkFrom_50 rfl 0 rfl ?_
      refine w_get (i := 0) (T := TX4) (NF := 7) rb (by first | omega | with_reducible rfl) hw_8 rfl (fun _ h => (List.mem_cons_of_mem _ (List.mem_append_left _ (List.mem_append_left _ (List.mem_append_right _ h))))) (by decide) (List.mem_of_getElem? (i := 1) rfl) rfl dX4_walkFrom_51 ?_
      refine w_iload_n dX4_walkFrom_54 rfl 1 rfl ?_
      refine w_iload dX4_walkFrom_55 5 rfl ?_
      refine w_calll (As := [.int (zI ((j : Nat) : Int)), .int (zI ((((lo (clL T V (j + 1) 1) (R - a)) + k) : Nat) : Int))]) (rest := [.long (zJ w), .int (zI (((a : Nat) : Int) + ((((lo (clL T V (j + 1) 1) (R - a)) + k) : Nat) : Int))), .int (zI (((j : Nat) : Int) + 1)), .ref (B + rb)]) (n := 2) (c_X0_waysOf hc_10 (by first | omega | with_reducible rfl) (by first | omega | with_reducible rfl) (by first | omega | with_reducible rfl) (by first | omega | with_reducible rfl)) gX4_walkFrom_X0_waysOf rfl rfl rfl (by decide +kernel) ⟨Nat.le_of_ble_eq_true rfl, Nat.le_of_ble_eq_true rfl⟩ rfl (by first | omega | with_reducible rfl) hc_10.1 rfl (Nat.le_of_ble_eq_true rfl) ⟨Nat.zero_le _, Nat.zero_le _⟩ dX4_walkFrom_57 rfl (fun g_12 hp_13 => ?_)
      subst g_12
      refine w_as (st' := [.long (zJ ((ch (T ((j : Nat) : Int)).toNat (lo (clL T V (j + 1) 1) (R - a) + k) : Nat) : Int)), .long (zJ w), .int (zI (((a : Nat) : Int) + ((((lo (clL T V (j + 1) 1) (R - a)) + k) : Nat) : Int))), .int (zI (((j : Nat) : Int) + 1)), .ref (B + rb)]) (sc_l (by rw [wyA_in (by omega), Int.toNat_natCast]; exact hWy _ (by omega) _ (by omega)) rfl) ?_
      refine w_lmul dX4_walkFrom_60 ?_
      refine w_as (st' := [.long (zJ (w * ((ch (T ((j : Nat) : Int)).toNat (lo (clL T V (j + 1) 1) (R - a) + k) : Nat) : Int))), .int (zI (((a + (lo (clL T V (j + 1) 1) (R - a) + k)) : Nat) : Int)), .int (zI (((j + 1) : Nat) : Int)), .ref (B + rb)]) (lc_s (sc_i (by first | omega | with_reducible rfl) (sc_i (by first | omega | with_reducible rfl) rfl))) ?_
      refine w_callv (As := [.int (zI (((j + 1) : Nat) : Int)), .int (zI (((a + (lo (clL T V (j + 1) 1) (R - a) + k)) : Nat) : Int)), .long (zJ (w * ((ch (T ((j : Nat) : Int)).toNat (lo (clL T V (j + 1) 1) (R - a) + k) : Nat) : Int)))]) (rest := []) (n := 3) (c_X4_lookAt_1 (j := (j + 1)) (a := (a + (lo (clL T V (j + 1) 1) (R - a) + k))) hw_8 hn_9 hc_10 (by first | omega | with_reducible rfl) (by first | omega | with_reducible rfl) (by first | omega | with_reducible rfl) (by first | omega | with_reducible rfl) (by first | omega | with_reducible rfl) hok (by first | omega | with_reducible rfl) hNF htf hWy (by first | omega | with_reducible rfl) (by first | omega | with_reducible rfl) (thr_next hth hjm (by omega) hx (by omega)) (wok_c (c := ((T ((j : Nat) : Int)).toNat, (V ((j : Nat) : Int)).toNat)) (cs := (clL T V (j + 1) 1)) hwk _)) gX4_walkFrom_X4_lookAt rfl rfl rfl (by decide +kernel) ⟨Nat.le_of_ble_eq_true rfl, Nat.le_of_ble_eq_true rfl⟩ rfl (by first | omega | with_reducible rfl) hw_8 rfl (Nat.le_of_ble_eq_true rfl) ⟨Nat.zero_le _, Nat.zero_le _⟩ dX4_walkFrom_61 rfl (fun g_14 hp_15 => ?_)
      obtain ⟨hw_16, hf_17⟩ := hp_15
      have hn_18 : vNet cy B g_14 nb cb tf ((R : Nat) : Int) nver G := vNet_fr hn_9 (fun q h1 h2 => hf_17 q (by omega))
      have hc_19 : vCol cy B g_14 cb sets n cver T X V Wy := vCol_fr hc_10 (fun q h1 h2 => hf_17 q (by omega))
      have hfr_20 : ∀ q, (q < rb ∨ rb + 1 ≤ q) → g_14 q = g q := fun q hq => (hf_17 q (by omega)).trans (hfr_11 q hq)
      refine w_iinc 5 [(6, .int (zI (((((lo (clL T V (j + 1) 1) (R - a)) + k) : Nat) : Int) + 1))), (0, .ref (B + rb)), (1, .int (zI ((j : Nat) : Int))), (2, .int (zI ((a : Nat) : Int))), (3, .long (zJ w)), (5, .int (zI ((min (T ((j : Nat) : Int)).toNat (R - a) : Nat) : Int)))] dX4_walkFrom_64 rfl (by decide) rfl ?_
      refine w_goto 34 dX4_walkFrom_67 (by decide) ?_
      refine w_sub [(0, .ref (B + rb)), (1, .int (zI ((j : Nat) : Int))), (2, .int (zI ((a : Nat) : Int))), (3, .long (zJ w)), (5, .int (zI ((min (T ((j : Nat) : Int)).toNat (R - a) : Nat) : Int))), (6, .int (zI (((((lo (clL T V (j + 1) 1) (R - a)) + k) : Nat) : Int) + 1)))] [1, 2, 3, 4, 5, 0] rfl ?_
      refine w_lv (lv' := [(0, .ref (B + rb)), (1, .int (zI ((j : Nat) : Int))), (2, .int (zI ((a : Nat) : Int))), (3, .long (zJ w)), (5, .int (zI ((min (T ((j : Nat) : Int)).toNat (R - a) : Nat) : Int))), (6, .int (zI ((((lo (clL T V (j + 1) 1) (R - a)) + (k + 1)) : Nat) : Int)))]) (lc_s (lc_s (lc_s (lc_s (lc_s (lc_i (by first | omega | with_reducible rfl) rfl)))))) ?_
      exact ih_34 (k + 1) g_14 ⟨(by have h9 := hw_16; rw [st_rf, st_rf, st_rf] at h9; exact h9), hn_18, hc_19, hfr_20, (by unfold lo nn at *; omega)⟩ (by unfold lo nn at *; omega)
  · exfalso; omega
set_option maxHeartbeats 4000000 in
set_option maxRecDepth 100000 in
theorem c_X4_walkFrom_t3 {l : Launch} {D : va_G} {cy : Nat → ClassId} {B N : Nat} {g : Nat → va_E} {rb : Nat} {sw rw rt lc rver : Int} {nb cb : Nat} {tf : Int → Int} {nver : Int} {G : Nat → Int → Int} {sets n R : Nat} {cver : Int} {T X V : Int → Int} {Wy : Nat → Int → Int} {j a : Nat} {w : Int} (hw : vRare cy B g rb cb nb sw rw rt lc rver) (hn : vNet cy B g nb cb tf ((R : Nat) : Int) nver G) (hc : vCol cy B g cb sets n cver T X V Wy) (hRB : rb + 1 ≤ N) (hd1 : rb + 1 ≤ nb ∨ nb + 11 ≤ rb) (hd2 : rb + 1 ≤ cb ∨ cb + 10 ≤ rb) (hNB : nb + 11 ≤ N) (hCB : cb + 10 ≤ N) (hok : okT T V n) (hR : R ≤ 60) (hNF : NF T V n R G) (htf : ∀ j : Nat, j ≤ 5 → tf ((j : Nat) : Int) = ((tsum (clL T V j (n - j)) : Nat) : Int)) (hWy : ∀ j : Nat, j < n → ∀ x : Nat, x ≤ 12 → Wy j ((x : Nat) : Int) = ((ch (T ((j : Nat) : Int)).toNat x : Nat) : Int)) (hsw : 0 ≤ sw ∧ sw ≤ 1152921504606846976) (hjm : j + 3 = n) (hth : thr T V n R j a) (hwk : wok w (clL T V j 3)) : CTv l yX4_walkFrom wsX4_walkFrom (rmo 10 262) D cy B N g [.ref (B + rb), .int (zI ((j : Nat) : Int)), .int (zI ((a : Nat) : Int)), .long (zJ w)] (fun g' => vRare cy B g' rb cb nb sw (rw + rk 0 sw (clL T V j 3) (R - a) w) (rt + rk 1 sw (clL T V j 3) (R - a) w) (lc + rk 2 sw (clL T V j 3) (R - a) w) rver ∧ (∀ q, (q < rb ∨ rb + 1 ≤ q) → g' q = g q)) := by
  refine WW_of (cc := cX4_walkFrom) (maxL := 7) (ret := none) (own := RX4) (by decide) rfl rfl (Nat.le_of_ble_eq_true rfl) rfl ?_
  intro pp ee ss mm bl me co hmn
  have hfr_0 : ∀ q, (q < rb ∨ rb + 1 ≤ q) → g q = g q := fun _ _ => rfl
  have hn5 : n ≤ 5 := hok.1
  have htR := hth.2.1
  have hq1 := hok.2 ((j : Nat) : Int) (by omega) (by omega)
  have ht3 : tf (((j : Nat) : Int) + 1) = ((tsum (clL T V (j + 1) 2) : Nat) : Int) := by
    have h9 := htf (j + 1) (by omega)
    rw [show n - (j + 1) = 2 by omega] at h9
    exact h9
  have htfr : ∀ i : Int, 0 ≤ i → i ≤ 5 → 0 ≤ tf i ∧ tf i ≤ 60 := fun i h1 h2 => by
    obtain ⟨k, rfl⟩ := Int.eq_ofNat_of_zero_le h1
    have h3 := htf k (by omega)
    by_cases hk : k ≤ n
    · have h4 := okT_ts hok (m := n - k) (j := k) (by omega)
      omega
    · rw [show n - k = 0 by omega] at h3
      rw [clL, tsum] at h3
      omega
  have hts := thr_ts hth hjm
  have hts2 : tsum (clL T V j 3) = (T ((j : Nat) : Int)).toNat + tsum (clL T V (j + 1) 2) := rfl
  refine w_aload_n dX4_walkFrom_0 rfl 0 rfl ?_
  refine w_get (i := 0) (T := TX4) (NF := 7) rb (by first | omega | with_reducible rfl) hw rfl (fun _ h => (List.mem_cons_of_mem _ (List.mem_append_left _ (List.mem_append_left _ (List.mem_append_right _ h))))) (by decide) (List.mem_of_getElem? (i := 1) rfl) rfl dX4_walkFrom_1 ?_
  refine w_iload_n dX4_walkFrom_4 rfl 1 rfl ?_
  refine w_calli (As := [.int (zI ((j : Nat) : Int))]) (rest := []) (n := 1) (c_X0_has hc (by first | omega | with_reducible rfl) (by first | omega | with_reducible rfl) (by first | omega | with_reducible rfl)) gX4_walkFrom_X0_has rfl rfl rfl (by decide +kernel) ⟨Nat.le_of_ble_eq_true rfl, Nat.le_of_ble_eq_true rfl⟩ rfl (by first | omega | with_reducible rfl) hc.1 rfl (Nat.le_of_ble_eq_true rfl) ⟨Nat.zero_le _, Nat.zero_le _⟩ dX4_walkFrom_5 rfl (fun g_1 hp_2 => ?_)
  subst g_1
  refine w_ifneB 12 dX4_walkFrom_8 (by decide) (fun c_8 => ?_) (fun c_8 => ?_)
  · refine w_aload_n dX4_walkFrom_12 rfl 0 rfl ?_
    refine w_get (i := 1) (T := TX4) (NF := 7) rb (by first | omega | with_reducible rfl) hw rfl (fun _ h => (List.mem_cons_of_mem _ (List.mem_append_left _ (List.mem_append_left _ (List.mem_append_right _ h))))) (by decide) (List.mem_of_getElem? (i := 2) rfl) rfl dX4_walkFrom_13 ?_
    refine w_iload_n dX4_walkFrom_16 rfl 1 rfl ?_
    refine w_iload_n dX4_walkFrom_17 rfl 2 rfl ?_
    refine w_calli (As := [.int (zI ((j : Nat) : Int)), .int (zI ((a : Nat) : Int))]) (rest := []) (n := 2) (c_X2_most hn hc (by first | omega | with_reducible rfl) (by first | omega | with_reducible rfl) hn5 (by omega) (by omega) (by first | omega | with_reducible rfl) (by first | omega | with_reducible rfl)) gX4_walkFrom_X2_most rfl rfl rfl (by decide +kernel) ⟨Nat.le_of_ble_eq_true rfl, Nat.le_of_ble_eq_true rfl⟩ rfl (by first | omega | with_reducible rfl) hn.1 rfl (Nat.le_of_ble_eq_true rfl) ⟨Nat.zero_le _, Nat.zero_le _⟩ dX4_walkFrom_18 rfl (fun g_3 hp_4 => ?_)
    subst g_3
    refine w_as (st' := [.int (zI ((min (T ((j : Nat) : Int)).toNat (R - a) : Nat) : Int))]) (sc_i (by first | omega | with_reducible rfl) rfl) ?_
    refine w_istore [(5, .int (zI ((min (T ((j : Nat) : Int)).toNat (R - a) : Nat) : Int))), (0, .ref (B + rb)), (1, .int (zI ((j : Nat) : Int))), (2, .int (zI ((a : Nat) : Int))), (3, .long (zJ w))] dX4_walkFrom_21 (by decide) rfl ?_
    refine w_aload_n dX4_walkFrom_23 rfl 1 rfl ?_
    refine w_get (i := 1) (T := TX4) (NF := 7) rb (by first | omega | with_reducible rfl) hw rfl (fun _ h => (List.mem_cons_of_mem _ (List.mem_append_left _ (List.mem_append_left _ (List.mem_append_right _ h))))) (by decide) (List.mem_of_getElem? (i := 2) rfl) rfl dX4_walkFrom_24 ?_
    refine w_iload_n dX4_walkFrom_27 rfl 2 rfl ?_
    refine w_iload_n dX4_walkFrom_28 rfl 3 rfl ?_
    refine w_calli (As := [.int (zI ((j : Nat) : Int)), .int (zI ((a : Nat) : Int))]) (rest := []) (n := 2) (c_X2_fewest hn (by first | omega | with_reducible rfl) (by omega) htfr (by first | omega | with_reducible rfl) (by first | omega | with_reducible rfl)) gX4_walkFrom_X2_fewest rfl rfl rfl (by decide +kernel) ⟨Nat.le_of_ble_eq_true rfl, Nat.le_of_ble_eq_true rfl⟩ rfl (by first | omega | with_reducible rfl) hn.1 rfl (Nat.le_of_ble_eq_true rfl) ⟨Nat.zero_le _, Nat.zero_le _⟩ dX4_walkFrom_29 rfl (fun g_5 hp_6 => ?_)
    subst g_5
    refine w_as (st' := [.int (zI (((lo (clL T V (j + 1) 2) (R - a)) : Nat) : Int))]) (sc_i (by rw [ht3]; unfold lo; omega) rfl) ?_
    refine w_istore [(6, .int (zI (((lo (clL T V (j + 1) 2) (R - a)) : Nat) : Int))), (5, .int (zI ((min (T ((j : Nat) : Int)).toNat (R - a) : Nat) : Int))), (0, .ref (B + rb)), (1, .int (zI ((j : Nat) : Int))), (2, .int (zI ((a : Nat) : Int))), (3, .long (zJ w))] dX4_walkFrom_32 (by decide) rfl ?_
    refine w_sub [(0, .ref (B + rb)), (1, .int (zI ((j : Nat) : Int))), (2, .int (zI ((a : Nat) : Int))), (3, .long (zJ w)), (5, .int (zI ((min (T ((j : Nat) : Int)).toNat (R - a) : Nat) : Int))), (6, .int (zI (((lo (clL T V (j + 1) 2) (R - a)) : Nat) : Int)))] [2, 3, 4, 5, 1, 0] rfl ?_
    refine w_lv (lv' := [(0, .ref (B + rb)), (1, .int (zI ((j : Nat) : Int))), (2, .int (zI ((a : Nat) : Int))), (3, .long (zJ w)), (5, .int (zI ((min (T ((j : Nat) : Int)).toNat (R - a) : Nat) : Int))), (6, .int (zI ((((lo (clL T V (j + 1) 2) (R - a)) + 0) : Nat) : Int)))]) (lc_s (lc_s (lc_s (lc_s (lc_s (lc_i (by first | omega | with_reducible rfl) rfl)))))) ?_
    refine w_loop2 (fun (k : Nat) (gl_7 : (Nat → va_E)) => vRare cy B gl_7 rb cb nb sw (rw + (srN (rf 0 sw ((T ((j : Nat) : Int)).toNat, (V ((j : Nat) : Int)).toNat) (clL T V (j + 1) 2) (R - a) w) (lo (clL T V (j + 1) 2) (R - a)) k)) (rt + (srN (rf 1 sw ((T ((j : Nat) : Int)).toNat, (V ((j : Nat) : Int)).toNat) (clL T V (j + 1) 2) (R - a) w) (lo (clL T V (j + 1) 2) (R - a)) k)) (lc + (srN (rf 2 sw ((T ((j : Nat) : Int)).toNat, (V ((j : Nat) : Int)).toNat) (clL T V (j + 1) 2) (R - a) w) (lo (clL T V (j + 1) 2) (R - a)) k)) rver ∧ vNet cy B gl_7 nb cb tf ((R : Nat) : Int) nver G ∧ vCol cy B gl_7 cb sets n cver T X V Wy ∧ (∀ q, (q < rb ∨ rb + 1 ≤ q) → gl_7 q = g q) ∧ k ≤ nn ((T ((j : Nat) : Int)).toNat, (V ((j : Nat) : Int)).toNat) (clL T V (j + 1) 2) (R - a)) (fun (k : Nat) (gl_7 : (Nat → va_E)) => nn ((T ((j : Nat) : Int)).toNat, (V ((j : Nat) : Int)).toNat) (clL T V (j + 1) 2) (R - a) - k) (fun (k : Nat) (gl_7 : (Nat → va_E)) => gl_7) (fun (k : Nat) (gl_7 : (Nat → va_E)) => [(0, .ref (B + rb)), (1, .int (zI ((j : Nat) : Int))), (2, .int (zI ((a : Nat) : Int))), (3, .long (zJ w)), (5, .int (zI ((min (T ((j : Nat) : Int)).toNat (R - a) : Nat) : Int))), (6, .int (zI ((((lo (clL T V (j + 1) 2) (R - a)) + k) : Nat) : Int)))]) ?_ 0 g ⟨(by have h9 := hw; simp only [srN, Int.add_zero]; exact h9), hn, hc, hfr_0, (Nat.zero_le _)⟩
    rintro k gl_7 ⟨hw_8, hn_9, hc_10, hfr_11, hk⟩ ih_34
    have hlo : lo (clL T V (j + 1) 2) (R - a) ≤ R - a ∧ nn ((T ((j : Nat) : Int)).toNat, (V ((j : Nat) : Int)).toNat) (clL T V (j + 1) 2) (R - a) ≤ 13 := by unfold lo nn; omega
    refine w_iload dX4_walkFrom_34 5 rfl ?_
    refine w_iload dX4_walkFrom_36 4 rfl ?_
    refine w_icmp_gt 70 dX4_walkFrom_38 (by decide) (by first | omega | with_reducible rfl) (by first | omega | with_reducible rfl) (fun c_38 => ?_) (fun c_38 => ?_)
    · have hk9 : k = nn ((T ((j : Nat) : Int)).toNat, (V ((j : Nat) : Int)).toNat) (clL T V (j + 1) 2) (R - a) := by unfold lo nn at *; omega
      exact w_vret dX4_walkFrom_70 rfl ⟨(by have h9 := hw_8; rw [hk9] at h9; exact h9), hfr_11⟩
    · have hx : lo (clL T V (j + 1) 2) (R - a) + k ≤ (T ((j : Nat) : Int)).toNat := by omega
      refine w_aload_n dX4_walkFrom_41 rfl 0 rfl ?_
      refine w_iload_n dX4_walkFrom_42 rfl 1 rfl ?_
      refine w_iconst dX4_walkFrom_43 ?_
      refine w_iadd dX4_walkFrom_44 ?_
      refine w_iload_n dX4_walkFrom_45 rfl 2 rfl ?_
      refine w_iload dX4_walkFrom_46 5 rfl ?_
      refine w_iadd dX4_walkFrom_48 ?_
      refine w_lload_n dX4_walkFrom_49 rfl 3 rfl ?_
      refine w_aload_n dX4_walkFrom_50 rfl 0 rfl ?_
      refine w_get (i := 0) (T := TX4) (NF := 7) rb (by first | omega | with_reducible rfl) hw_8 rfl (fun _ h => (List.mem_cons_of_mem _ (List.mem_append_left _ (List.mem_append_left _ (List.mem_append_right _ h))))) (by decide) (List.mem_of_getElem? (i := 1) rfl) rfl dX4_walkFrom_51 ?_
      refine w_iload_n dX4_walkFrom_54 rfl 1 rfl ?_
      refine w_iload dX4_walkFrom_55 5 rfl ?_
      refine w_calll (As := [.int (zI ((j : Nat) : Int)), .int (zI ((((lo (clL T V (j + 1) 2) (R - a)) + k) : Nat) : Int))]) (rest := [.long (zJ w), .int (zI (((a : Nat) : Int) + ((((lo (clL T V (j + 1) 2) (R - a)) + k) : Nat) : Int))), .int (zI (((j : Nat) : Int) + 1)), .ref (B + rb)]) (n := 2) (c_X0_waysOf hc_10 (by first | omega | with_reducible rfl) (by first | omega | with_reducible rfl) (by first | omega | with_reducible rfl) (by first | omega | with_reducible rfl)) gX4_walkFrom_X0_waysOf rfl rfl rfl (by decide +kernel) ⟨Nat.le_of_ble_eq_true rfl, Nat.le_of_ble_eq_true rfl⟩ rfl (by first | omega | with_reducible rfl) hc_10.1 rfl (Nat.le_of_ble_eq_true rfl) ⟨Nat.zero_le _, Nat.zero_le _⟩ dX4_walkFrom_57 rfl (fun g_12 hp_13 => ?_)
      subst g_12
      refine w_as (st' := [.long (zJ ((ch (T ((j : Nat) : Int)).toNat (lo (clL T V (j + 1) 2) (R - a) + k) : Nat) : Int)), .long (zJ w), .int (zI (((a : Nat) : Int) + ((((lo (clL T V (j + 1) 2) (R - a)) + k) : Nat) : Int))), .int (zI (((j : Nat) : Int) + 1)), .ref (B + rb)]) (sc_l (by rw [wyA_in (by omega), Int.toNat_natCast]; exact hWy _ (by omega) _ (by omega)) rfl) ?_
      refine w_lmul dX4_walkFrom_60 ?_
      refine w_as (st' := [.long (zJ (w * ((ch (T ((j : Nat) : Int)).toNat (lo (clL T V (j + 1) 2) (R - a) + k) : Nat) : Int))), .int (zI (((a + (lo (clL T V (j + 1) 2) (R - a) + k)) : Nat) : Int)), .int (zI (((j + 1) : Nat) : Int)), .ref (B + rb)]) (lc_s (sc_i (by first | omega | with_reducible rfl) (sc_i (by first | omega | with_reducible rfl) rfl))) ?_
      refine w_callv (As := [.int (zI (((j + 1) : Nat) : Int)), .int (zI (((a + (lo (clL T V (j + 1) 2) (R - a) + k)) : Nat) : Int)), .long (zJ (w * ((ch (T ((j : Nat) : Int)).toNat (lo (clL T V (j + 1) 2) (R - a) + k) : Nat) : Int)))]) (rest := []) (n := 3) (c_X4_lookAt_2 (j := (j + 1)) (a := (a + (lo (clL T V (j + 1) 2) (R - a) + k))) hw_8 hn_9 hc_10 (by first | omega | with_reducible rfl) (by first | omega | with_reducible rfl) (by first | omega | with_reducible rfl) (by first | omega | with_reducible rfl) (by first | omega | with_reducible rfl) hok (by first | omega | with_reducible rfl) hNF htf hWy (by first | omega | with_reducible rfl) (by first | omega | with_reducible rfl) (thr_next hth hjm (by omega) hx (by omega)) (wok_c (c := ((T ((j : Nat) : Int)).toNat, (V ((j : Nat) : Int)).toNat)) (cs := (clL T V (j + 1) 2)) hwk _)) gX4_walkFrom_X4_lookAt rfl rfl rfl (by decide +kernel) ⟨Nat.le_of_ble_eq_true rfl, Nat.le_of_ble_eq_true rfl⟩ rfl (by first | omega | with_reducible rfl) hw_8 rfl (Nat.le_of_ble_eq_true rfl) ⟨Nat.zero_le _, Nat.zero_le _⟩ dX4_walkFrom_61 rfl (fun g_14 hp_15 => ?_)
      obtain ⟨hw_16, hf_17⟩ := hp_15
      have hn_18 : vNet cy B g_14 nb cb tf ((R : Nat) : Int) nver G := vNet_fr hn_9 (fun q h1 h2 => hf_17 q (by omega))
      have hc_19 : vCol cy B g_14 cb sets n cver T X V Wy := vCol_fr hc_10 (fun q h1 h2 => hf_17 q (by omega))
      have hfr_20 : ∀ q, (q < rb ∨ rb + 1 ≤ q) → g_14 q = g q := fun q hq => (hf_17 q (by omega)).trans (hfr_11 q hq)
      refine w_iinc 5 [(6, .int (zI (((((lo (clL T V (j + 1) 2) (R - a)) + k) : Nat) : Int) + 1))), (0, .ref (B + rb)), (1, .int (zI ((j : Nat) : Int))), (2, .int (zI ((a : Nat) : Int))), (3, .long (zJ w)), (5, .int (zI ((min (T ((j : Nat) : Int)).toNat (R - a) : Nat) : Int)))] dX4_walkFrom_64 rfl (by decide) rfl ?_
      refine w_goto 34 dX4_walkFrom_67 (by decide) ?_
      refine w_sub [(0, .ref (B + rb)), (1, .int (zI ((j : Nat) : Int))), (2, .int (zI ((a : Nat) : Int))), (3, .long (zJ w)), (5, .int (zI ((min (T ((j : Nat) : Int)).toNat (R - a) : Nat) : Int))), (6, .int (zI (((((lo (clL T V (j + 1) 2) (R - a)) + k) : Nat) : Int) + 1)))] [1, 2, 3, 4, 5, 0] rfl ?_
      refine w_lv (lv' := [(0, .ref (B + rb)), (1, .int (zI ((j : Nat) : Int))), (2, .int (zI ((a : Nat) : Int))), (3, .long (zJ w)), (5, .int (zI ((min (T ((j : Nat) : Int)).toNat (R - a) : Nat) : Int))), (6, .int (zI ((((lo (clL T V (j + 1) 2) (R - a)) + (k + 1)) : Nat) : Int)))]) (lc_s (lc_s (lc_s (lc_s (lc_s (lc_i (by first | omega | with_reducible rfl) rfl)))))) ?_
      exact ih_34 (k + 1) g_14 ⟨(by have h9 := hw_16; rw [st_rf, st_rf, st_rf] at h9; exact h9), hn_18, hc_19, hfr_20, (by unfold lo nn at *; omega)⟩ (by unfold lo nn at *; omega)
  · exfalso; omega
set_option maxHeartbeats 4000000 in
set_option maxRecDepth 100000 in
theorem c_X4_walkFrom_t4 {l : Launch} {D : va_G} {cy : Nat → ClassId} {B N : Nat} {g : Nat → va_E} {rb : Nat} {sw rw rt lc rver : Int} {nb cb : Nat} {tf : Int → Int} {nver : Int} {G : Nat → Int → Int} {sets n R : Nat} {cver : Int} {T X V : Int → Int} {Wy : Nat → Int → Int} {j a : Nat} {w : Int} (hw : vRare cy B g rb cb nb sw rw rt lc rver) (hn : vNet cy B g nb cb tf ((R : Nat) : Int) nver G) (hc : vCol cy B g cb sets n cver T X V Wy) (hRB : rb + 1 ≤ N) (hd1 : rb + 1 ≤ nb ∨ nb + 11 ≤ rb) (hd2 : rb + 1 ≤ cb ∨ cb + 10 ≤ rb) (hNB : nb + 11 ≤ N) (hCB : cb + 10 ≤ N) (hok : okT T V n) (hR : R ≤ 60) (hNF : NF T V n R G) (htf : ∀ j : Nat, j ≤ 5 → tf ((j : Nat) : Int) = ((tsum (clL T V j (n - j)) : Nat) : Int)) (hWy : ∀ j : Nat, j < n → ∀ x : Nat, x ≤ 12 → Wy j ((x : Nat) : Int) = ((ch (T ((j : Nat) : Int)).toNat x : Nat) : Int)) (hsw : 0 ≤ sw ∧ sw ≤ 1152921504606846976) (hjm : j + 4 = n) (hth : thr T V n R j a) (hwk : wok w (clL T V j 4)) : CTv l yX4_walkFrom wsX4_walkFrom (rmo 10 262) D cy B N g [.ref (B + rb), .int (zI ((j : Nat) : Int)), .int (zI ((a : Nat) : Int)), .long (zJ w)] (fun g' => vRare cy B g' rb cb nb sw (rw + rk 0 sw (clL T V j 4) (R - a) w) (rt + rk 1 sw (clL T V j 4) (R - a) w) (lc + rk 2 sw (clL T V j 4) (R - a) w) rver ∧ (∀ q, (q < rb ∨ rb + 1 ≤ q) → g' q = g q)) := by
  refine WW_of (cc := cX4_walkFrom) (maxL := 7) (ret := none) (own := RX4) (by decide) rfl rfl (Nat.le_of_ble_eq_true rfl) rfl ?_
  intro pp ee ss mm bl me co hmn
  have hfr_0 : ∀ q, (q < rb ∨ rb + 1 ≤ q) → g q = g q := fun _ _ => rfl
  have hn5 : n ≤ 5 := hok.1
  have htR := hth.2.1
  have hq1 := hok.2 ((j : Nat) : Int) (by omega) (by omega)
  have ht3 : tf (((j : Nat) : Int) + 1) = ((tsum (clL T V (j + 1) 3) : Nat) : Int) := by
    have h9 := htf (j + 1) (by omega)
    rw [show n - (j + 1) = 3 by omega] at h9
    exact h9
  have htfr : ∀ i : Int, 0 ≤ i → i ≤ 5 → 0 ≤ tf i ∧ tf i ≤ 60 := fun i h1 h2 => by
    obtain ⟨k, rfl⟩ := Int.eq_ofNat_of_zero_le h1
    have h3 := htf k (by omega)
    by_cases hk : k ≤ n
    · have h4 := okT_ts hok (m := n - k) (j := k) (by omega)
      omega
    · rw [show n - k = 0 by omega] at h3
      rw [clL, tsum] at h3
      omega
  have hts := thr_ts hth hjm
  have hts2 : tsum (clL T V j 4) = (T ((j : Nat) : Int)).toNat + tsum (clL T V (j + 1) 3) := rfl
  refine w_aload_n dX4_walkFrom_0 rfl 0 rfl ?_
  refine w_get (i := 0) (T := TX4) (NF := 7) rb (by first | omega | with_reducible rfl) hw rfl (fun _ h => (List.mem_cons_of_mem _ (List.mem_append_left _ (List.mem_append_left _ (List.mem_append_right _ h))))) (by decide) (List.mem_of_getElem? (i := 1) rfl) rfl dX4_walkFrom_1 ?_
  refine w_iload_n dX4_walkFrom_4 rfl 1 rfl ?_
  refine w_calli (As := [.int (zI ((j : Nat) : Int))]) (rest := []) (n := 1) (c_X0_has hc (by first | omega | with_reducible rfl) (by first | omega | with_reducible rfl) (by first | omega | with_reducible rfl)) gX4_walkFrom_X0_has rfl rfl rfl (by decide +kernel) ⟨Nat.le_of_ble_eq_true rfl, Nat.le_of_ble_eq_true rfl⟩ rfl (by first | omega | with_reducible rfl) hc.1 rfl (Nat.le_of_ble_eq_true rfl) ⟨Nat.zero_le _, Nat.zero_le _⟩ dX4_walkFrom_5 rfl (fun g_1 hp_2 => ?_)
  subst g_1
  refine w_ifneB 12 dX4_walkFrom_8 (by decide) (fun c_8 => ?_) (fun c_8 => ?_)
  · refine w_aload_n dX4_walkFrom_12 rfl 0 rfl ?_
    refine w_get (i := 1) (T := TX4) (NF := 7) rb (by first | omega | with_reducible rfl) hw rfl (fun _ h => (List.mem_cons_of_mem _ (List.mem_append_left _ (List.mem_append_left _ (List.mem_append_right _ h))))) (by decide) (List.mem_of_getElem? (i := 2) rfl) rfl dX4_walkFrom_13 ?_
    refine w_iload_n dX4_walkFrom_16 rfl 1 rfl ?_
    refine w_iload_n dX4_walkFrom_17 rfl 2 rfl ?_
    refine w_calli (As := [.int (zI ((j : Nat) : Int)), .int (zI ((a : Nat) : Int))]) (rest := []) (n := 2) (c_X2_most hn hc (by first | omega | with_reducible rfl) (by first | omega | with_reducible rfl) hn5 (by omega) (by omega) (by first | omega | with_reducible rfl) (by first | omega | with_reducible rfl)) gX4_walkFrom_X2_most rfl rfl rfl (by decide +kernel) ⟨Nat.le_of_ble_eq_true rfl, Nat.le_of_ble_eq_true rfl⟩ rfl (by first | omega | with_reducible rfl) hn.1 rfl (Nat.le_of_ble_eq_true rfl) ⟨Nat.zero_le _, Nat.zero_le _⟩ dX4_walkFrom_18 rfl (fun g_3 hp_4 => ?_)
    subst g_3
    refine w_as (st' := [.int (zI ((min (T ((j : Nat) : Int)).toNat (R - a) : Nat) : Int))]) (sc_i (by first | omega | with_reducible rfl) rfl) ?_
    refine w_istore [(5, .int (zI ((min (T ((j : Nat) : Int)).toNat (R - a) : Nat) : Int))), (0, .ref (B + rb)), (1, .int (zI ((j : Nat) : Int))), (2, .int (zI ((a : Nat) : Int))), (3, .long (zJ w))] dX4_walkFrom_21 (by decide) rfl ?_
    refine w_aload_n dX4_walkFrom_23 rfl 1 rfl ?_
    refine w_get (i := 1) (T := TX4) (NF := 7) rb (by first | omega | with_reducible rfl) hw rfl (fun _ h => (List.mem_cons_of_mem _ (List.mem_append_left _ (List.mem_append_left _ (List.mem_append_right _ h))))) (by decide) (List.mem_of_getElem? (i := 2) rfl) rfl dX4_walkFrom_24 ?_
    refine w_iload_n dX4_walkFrom_27 rfl 2 rfl ?_
    refine w_iload_n dX4_walkFrom_28 rfl 3 rfl ?_
    refine w_calli (As := [.int (zI ((j : Nat) : Int)), .int (zI ((a : Nat) : Int))]) (rest := []) (n := 2) (c_X2_fewest hn (by first | omega | with_reducible rfl) (by omega) htfr (by first | omega | with_reducible rfl) (by first | omega | with_reducible rfl)) gX4_walkFrom_X2_fewest rfl rfl rfl (by decide +kernel) ⟨Nat.le_of_ble_eq_true rfl, Nat.le_of_ble_eq_true rfl⟩ rfl (by first | omega | with_reducible rfl) hn.1 rfl (Nat.le_of_ble_eq_true rfl) ⟨Nat.zero_le _, Nat.zero_le _⟩ dX4_walkFrom_29 rfl (fun g_5 hp_6 => ?_)
    subst g_5
    refine w_as (st' := [.int (zI (((lo (clL T V (j + 1) 3) (R - a)) : Nat) : Int))]) (sc_i (by rw [ht3]; unfold lo; omega) rfl) ?_
    refine w_istore [(6, .int (zI (((lo (clL T V (j + 1) 3) (R - a)) : Nat) : Int))), (5, .int (zI ((min (T ((j : Nat) : Int)).toNat (R - a) : Nat) : Int))), (0, .ref (B + rb)), (1, .int (zI ((j : Nat) : Int))), (2, .int (zI ((a : Nat) : Int))), (3, .long (zJ w))] dX4_walkFrom_32 (by decide) rfl ?_
    refine w_sub [(0, .ref (B + rb)), (1, .int (zI ((j : Nat) : Int))), (2, .int (zI ((a : Nat) : Int))), (3, .long (zJ w)), (5, .int (zI ((min (T ((j : Nat) : Int)).toNat (R - a) : Nat) : Int))), (6, .int (zI (((lo (clL T V (j + 1) 3) (R - a)) : Nat) : Int)))] [2, 3, 4, 5, 1, 0] rfl ?_
    refine w_lv (lv' := [(0, .ref (B + rb)), (1, .int (zI ((j : Nat) : Int))), (2, .int (zI ((a : Nat) : Int))), (3, .long (zJ w)), (5, .int (zI ((min (T ((j : Nat) : Int)).toNat (R - a) : Nat) : Int))), (6, .int (zI ((((lo (clL T V (j + 1) 3) (R - a)) + 0) : Nat) : Int)))]) (lc_s (lc_s (lc_s (lc_s (lc_s (lc_i (by first | omega | with_reducible rfl) rfl)))))) ?_
    refine w_loop2 (fun (k : Nat) (gl_7 : (Nat → va_E)) => vRare cy B gl_7 rb cb nb sw (rw + (srN (rf 0 sw ((T ((j : Nat) : Int)).toNat, (V ((j : Nat) : Int)).toNat) (clL T V (j + 1) 3) (R - a) w) (lo (clL T V (j + 1) 3) (R - a)) k)) (rt + (srN (rf 1 sw ((T ((j : Nat) : Int)).toNat, (V ((j : Nat) : Int)).toNat) (clL T V (j + 1) 3) (R - a) w) (lo (clL T V (j + 1) 3) (R - a)) k)) (lc + (srN (rf 2 sw ((T ((j : Nat) : Int)).toNat, (V ((j : Nat) : Int)).toNat) (clL T V (j + 1) 3) (R - a) w) (lo (clL T V (j + 1) 3) (R - a)) k)) rver ∧ vNet cy B gl_7 nb cb tf ((R : Nat) : Int) nver G ∧ vCol cy B gl_7 cb sets n cver T X V Wy ∧ (∀ q, (q < rb ∨ rb + 1 ≤ q) → gl_7 q = g q) ∧ k ≤ nn ((T ((j : Nat) : Int)).toNat, (V ((j : Nat) : Int)).toNat) (clL T V (j + 1) 3) (R - a)) (fun (k : Nat) (gl_7 : (Nat → va_E)) => nn ((T ((j : Nat) : Int)).toNat, (V ((j : Nat) : Int)).toNat) (clL T V (j + 1) 3) (R - a) - k) (fun (k : Nat) (gl_7 : (Nat → va_E)) => gl_7) (fun (k : Nat) (gl_7 : (Nat → va_E)) => [(0, .ref (B + rb)), (1, .int (zI ((j : Nat) : Int))), (2, .int (zI ((a : Nat) : Int))), (3, .long (zJ w)), (5, .int (zI ((min (T ((j : Nat) : Int)).toNat (R - a) : Nat) : Int))), (6, .int (zI ((((lo (clL T V (j + 1) 3) (R - a)) + k) : Nat) : Int)))]) ?_ 0 g ⟨(by have h9 := hw; simp only [srN, Int.add_zero]; exact h9), hn, hc, hfr_0, (Nat.zero_le _)⟩
    rintro k gl_7 ⟨hw_8, hn_9, hc_10, hfr_11, hk⟩ ih_34
    have hlo : lo (clL T V (j + 1) 3) (R - a) ≤ R - a ∧ nn ((T ((j : Nat) : Int)).toNat, (V ((j : Nat) : Int)).toNat) (clL T V (j + 1) 3) (R - a) ≤ 13 := by unfold lo nn; omega
    refine w_iload dX4_walkFrom_34 5 rfl ?_
    refine w_iload dX4_walkFrom_36 4 rfl ?_
    refine w_icmp_gt 70 dX4_walkFrom_38 (by decide) (by first | omega | with_reducible rfl) (by first | omega | with_reducible rfl) (fun c_38 => ?_) (fun c_38 => ?_)
    · have hk9 : k = nn ((T ((j : Nat) : Int)).toNat, (V ((j : Nat) : Int)).toNat) (clL T V (j + 1) 3) (R - a) := by unfold lo nn at *; omega
      exact w_vret dX4_walkFrom_70 rfl ⟨(by have h9 := hw_8; rw [hk9] at h9; exact h9), hfr_11⟩
    · have hx : lo (clL T V (j + 1) 3) (R - a) + k ≤ (T ((j : Nat) : Int)).toNat := by omega
      refine w_aload_n dX4_walkFrom_41 rfl 0 rfl ?_
      refine w_iload_n dX4_walkFrom_42 rfl 1 rfl ?_
      refine w_iconst dX4_walkFrom_43 ?_
      refine w_iadd dX4_walkFrom_44 ?_
      refine w_iload_n dX4_walkFrom_45 rfl 2 rfl ?_
      refine w_iload dX4_walkFrom_46 5 rfl ?_
      refine w_iadd dX4_walkFrom_48 ?_
      refine w_lload_n dX4_walkFrom_49 rfl 3 rfl ?_
      refine w_aload_n dX4_walkFrom_50 rfl 0 rfl ?_
      refine w_get (i := 0) (T := TX4) (NF := 7) rb (by first | omega | with_reducible rfl) hw_8 rfl (fun _ h => (List.mem_cons_of_mem _ (List.mem_append_left _ (List.mem_append_left _ (List.mem_append_right _ h))))) (by decide) (List.mem_of_getElem? (i := 1) rfl) rfl dX4_walkFrom_51 ?_
      refine w_iload_n dX4_walkFrom_54 rfl 1 rfl ?_
      refine w_iload dX4_walkFrom_55 5 rfl ?_
      refine w_calll (As := [.int (zI ((j : Nat) : Int)), .int (zI ((((lo (clL T V (j + 1) 3) (R - a)) + k) : Nat) : Int))]) (rest := [.long (zJ w), .int (zI (((a : Nat) : Int) + ((((lo (clL T V (j + 1) 3) (R - a)) + k) : Nat) : Int))), .int (zI (((j : Nat) : Int) + 1)), .ref (B + rb)]) (n := 2) (c_X0_waysOf hc_10 (by first | omega | with_reducible rfl) (by first | omega | with_reducible rfl) (by first | omega | with_reducible rfl) (by first | omega | with_reducible rfl)) gX4_walkFrom_X0_waysOf rfl rfl rfl (by decide +kernel) ⟨Nat.le_of_ble_eq_true rfl, Nat.le_of_ble_eq_true rfl⟩ rfl (by first | omega | with_reducible rfl) hc_10.1 rfl (Nat.le_of_ble_eq_true rfl) ⟨Nat.zero_le _, Nat.zero_le _⟩ dX4_walkFrom_57 rfl (fun g_12 hp_13 => ?_)
      subst g_12
      refine w_as (st' := [.long (zJ ((ch (T ((j : Nat) : Int)).toNat (lo (clL T V (j + 1) 3) (R - a) + k) : Nat) : Int)), .long (zJ w), .int (zI (((a : Nat) : Int) + ((((lo (clL T V (j + 1) 3) (R - a)) + k) : Nat) : Int))), .int (zI (((j : Nat) : Int) + 1)), .ref (B + rb)]) (sc_l (by rw [wyA_in (by omega), Int.toNat_natCast]; exact hWy _ (by omega) _ (by omega)) rfl) ?_
      refine w_lmul dX4_walkFrom_60 ?_
      refine w_as (st' := [.long (zJ (w * ((ch (T ((j : Nat) : Int)).toNat (lo (clL T V (j + 1) 3) (R - a) + k) : Nat) : Int))), .int (zI (((a + (lo (clL T V (j + 1) 3) (R - a) + k)) : Nat) : Int)), .int (zI (((j + 1) : Nat) : Int)), .ref (B + rb)]) (lc_s (sc_i (by first | omega | with_reducible rfl) (sc_i (by first | omega | with_reducible rfl) rfl))) ?_
      refine w_callv (As := [.int (zI (((j + 1) : Nat) : Int)), .int (zI (((a + (lo (clL T V (j + 1) 3) (R - a) + k)) : Nat) : Int)), .long (zJ (w * ((ch (T ((j : Nat) : Int)).toNat (lo (clL T V (j + 1) 3) (R - a) + k) : Nat) : Int)))]) (rest := []) (n := 3) (c_X4_lookAt_3 (j := (j + 1)) (a := (a + (lo (clL T V (j + 1) 3) (R - a) + k))) hw_8 hn_9 hc_10 (by first | omega | with_reducible rfl) (by first | omega | with_reducible rfl) (by first | omega | with_reducible rfl) (by first | omega | with_reducible rfl) (by first | omega | with_reducible rfl) hok (by first | omega | with_reducible rfl) hNF htf hWy (by first | omega | with_reducible rfl) (by first | omega | with_reducible rfl) (thr_next hth hjm (by omega) hx (by omega)) (wok_c (c := ((T ((j : Nat) : Int)).toNat, (V ((j : Nat) : Int)).toNat)) (cs := (clL T V (j + 1) 3)) hwk _)) gX4_walkFrom_X4_lookAt rfl rfl rfl (by decide +kernel) ⟨Nat.le_of_ble_eq_true rfl, Nat.le_of_ble_eq_true rfl⟩ rfl (by first | omega | with_reducible rfl) hw_8 rfl (Nat.le_of_ble_eq_true rfl) ⟨Nat.zero_le _, Nat.zero_le _⟩ dX4_walkFrom_61 rfl (fun g_14 hp_15 => ?_)
      obtain ⟨hw_16, hf_17⟩ := hp_15
      have hn_18 : vNet cy B g_14 nb cb tf ((R : Nat) : Int) nver G := vNet_fr hn_9 (fun q h1 h2 => hf_17 q (by omega))
      have hc_19 : vCol cy B g_14 cb sets n cver T X V Wy := vCol_fr hc_10 (fun q h1 h2 => hf_17 q (by omega))
      have hfr_20 : ∀ q, (q < rb ∨ rb + 1 ≤ q) → g_14 q = g q := fun q hq => (hf_17 q (by omega)).trans (hfr_11 q hq)
      refine w_iinc 5 [(6, .int (zI (((((lo (clL T V (j + 1) 3) (R - a)) + k) : Nat) : Int) + 1))), (0, .ref (B + rb)), (1, .int (zI ((j : Nat) : Int))), (2, .int (zI ((a : Nat) : Int))), (3, .long (zJ w)), (5, .int (zI ((min (T ((j : Nat) : Int)).toNat (R - a) : Nat) : Int)))] dX4_walkFrom_64 rfl (by decide) rfl ?_
      refine w_goto 34 dX4_walkFrom_67 (by decide) ?_
      refine w_sub [(0, .ref (B + rb)), (1, .int (zI ((j : Nat) : Int))), (2, .int (zI ((a : Nat) : Int))), (3, .long (zJ w)), (5, .int (zI ((min (T ((j : Nat) : Int)).toNat (R - a) : Nat) : Int))), (6, .int (zI (((((lo (clL T V (j + 1) 3) (R - a)) + k) : Nat) : Int) + 1)))] [1, 2, 3, 4, 5, 0] rfl ?_
      refine w_lv (lv' := [(0, .ref (B + rb)), (1, .int (zI ((j : Nat) : Int))), (2, .int (zI ((a : Nat) : Int))), (3, .long (zJ w)), (5, .int (zI ((min (T ((j : Nat) : Int)).toNat (R - a) : Nat) : Int))), (6, .int (zI ((((lo (clL T V (j + 1) 3) (R - a)) + (k + 1)) : Nat) : Int)))]) (lc_s (lc_s (lc_s (lc_s (lc_s (lc_i (by first | omega | with_reducible rfl) rfl)))))) ?_
      exact ih_34 (k + 1) g_14 ⟨(by have h9 := hw_16; rw [st_rf, st_rf, st_rf] at h9; exact h9), hn_18, hc_19, hfr_20, (by unfold lo nn at *; omega)⟩ (by unfold lo nn at *; omega)
  · exfalso; omega
set_option maxHeartbeats 4000000 in
set_option maxRecDepth 100000 in
theorem c_X4_walkFrom_t5 {l : Launch} {D : va_G} {cy : Nat → ClassId} {B N : Nat} {g : Nat → va_E} {rb : Nat} {sw rw rt lc rver : Int} {nb cb : Nat} {tf : Int → Int} {nver : Int} {G : Nat → Int → Int} {sets n R : Nat} {cver : Int} {T X V : Int → Int} {Wy : Nat → Int → Int} {j a : Nat} {w : Int} (hw : vRare cy B g rb cb nb sw rw rt lc rver) (hn : vNet cy B g nb cb tf ((R : Nat) : Int) nver G) (hc : vCol cy B g cb sets n cver T X V Wy) (hRB : rb + 1 ≤ N) (hd1 : rb + 1 ≤ nb ∨ nb + 11 ≤ rb) (hd2 : rb + 1 ≤ cb ∨ cb + 10 ≤ rb) (hNB : nb + 11 ≤ N) (hCB : cb + 10 ≤ N) (hok : okT T V n) (hR : R ≤ 60) (hNF : NF T V n R G) (htf : ∀ j : Nat, j ≤ 5 → tf ((j : Nat) : Int) = ((tsum (clL T V j (n - j)) : Nat) : Int)) (hWy : ∀ j : Nat, j < n → ∀ x : Nat, x ≤ 12 → Wy j ((x : Nat) : Int) = ((ch (T ((j : Nat) : Int)).toNat x : Nat) : Int)) (hsw : 0 ≤ sw ∧ sw ≤ 1152921504606846976) (hjm : j + 5 = n) (hth : thr T V n R j a) (hwk : wok w (clL T V j 5)) : CTv l yX4_walkFrom wsX4_walkFrom (rmo 10 262) D cy B N g [.ref (B + rb), .int (zI ((j : Nat) : Int)), .int (zI ((a : Nat) : Int)), .long (zJ w)] (fun g' => vRare cy B g' rb cb nb sw (rw + rk 0 sw (clL T V j 5) (R - a) w) (rt + rk 1 sw (clL T V j 5) (R - a) w) (lc + rk 2 sw (clL T V j 5) (R - a) w) rver ∧ (∀ q, (q < rb ∨ rb + 1 ≤ q) → g' q = g q)) := by
  refine WW_of (cc := cX4_walkFrom) (maxL := 7) (ret := none) (own := RX4) (by decide) rfl rfl (Nat.le_of_ble_eq_true rfl) rfl ?_
  intro pp ee ss mm bl me co hmn
  have hfr_0 : ∀ q, (q < rb ∨ rb + 1 ≤ q) → g q = g q := fun _ _ => rfl
  have hn5 : n ≤ 5 := hok.1
  have htR := hth.2.1
  have hq1 := hok.2 ((j : Nat) : Int) (by omega) (by omega)
  have ht3 : tf (((j : Nat) : Int) + 1) = ((tsum (clL T V (j + 1) 4) : Nat) : Int) := by
    have h9 := htf (j + 1) (by omega)
    rw [show n - (j + 1) = 4 by omega] at h9
    exact h9
  have htfr : ∀ i : Int, 0 ≤ i → i ≤ 5 → 0 ≤ tf i ∧ tf i ≤ 60 := fun i h1 h2 => by
    obtain ⟨k, rfl⟩ := Int.eq_ofNat_of_zero_le h1
    have h3 := htf k (by omega)
    by_cases hk : k ≤ n
    · have h4 := okT_ts hok (m := n - k) (j := k) (by omega)
      omega
    · rw [show n - k = 0 by omega] at h3
      rw [clL, tsum] at h3
      omega
  have hts := thr_ts hth hjm
  have hts2 : tsum (clL T V j 5) = (T ((j : Nat) : Int)).toNat + tsum (clL T V (j + 1) 4) := rfl
  refine w_aload_n dX4_walkFrom_0 rfl 0 rfl ?_
  refine w_get (i := 0) (T := TX4) (NF := 7) rb (by first | omega | with_reducible rfl) hw rfl (fun _ h => (List.mem_cons_of_mem _ (List.mem_append_left _ (List.mem_append_left _ (List.mem_append_right _ h))))) (by decide) (List.mem_of_getElem? (i := 1) rfl) rfl dX4_walkFrom_1 ?_
  refine w_iload_n dX4_walkFrom_4 rfl 1 rfl ?_
  refine w_calli (As := [.int (zI ((j : Nat) : Int))]) (rest := []) (n := 1) (c_X0_has hc (by first | omega | with_reducible rfl) (by first | omega | with_reducible rfl) (by first | omega | with_reducible rfl)) gX4_walkFrom_X0_has rfl rfl rfl (by decide +kernel) ⟨Nat.le_of_ble_eq_true rfl, Nat.le_of_ble_eq_true rfl⟩ rfl (by first | omega | with_reducible rfl) hc.1 rfl (Nat.le_of_ble_eq_true rfl) ⟨Nat.zero_le _, Nat.zero_le _⟩ dX4_walkFrom_5 rfl (fun g_1 hp_2 => ?_)
  subst g_1
  refine w_ifneB 12 dX4_walkFrom_8 (by decide) (fun c_8 => ?_) (fun c_8 => ?_)
  · refine w_aload_n dX4_walkFrom_12 rfl 0 rfl ?_
    refine w_get (i := 1) (T := TX4) (NF := 7) rb (by first | omega | with_reducible rfl) hw rfl (fun _ h => (List.mem_cons_of_mem _ (List.mem_append_left _ (List.mem_append_left _ (List.mem_append_right _ h))))) (by decide) (List.mem_of_getElem? (i := 2) rfl) rfl dX4_walkFrom_13 ?_
    refine w_iload_n dX4_walkFrom_16 rfl 1 rfl ?_
    refine w_iload_n dX4_walkFrom_17 rfl 2 rfl ?_
    refine w_calli (As := [.int (zI ((j : Nat) : Int)), .int (zI ((a : Nat) : Int))]) (rest := []) (n := 2) (c_X2_most hn hc (by first | omega | with_reducible rfl) (by first | omega | with_reducible rfl) hn5 (by omega) (by omega) (by first | omega | with_reducible rfl) (by first | omega | with_reducible rfl)) gX4_walkFrom_X2_most rfl rfl rfl (by decide +kernel) ⟨Nat.le_of_ble_eq_true rfl, Nat.le_of_ble_eq_true rfl⟩ rfl (by first | omega | with_reducible rfl) hn.1 rfl (Nat.le_of_ble_eq_true rfl) ⟨Nat.zero_le _, Nat.zero_le _⟩ dX4_walkFrom_18 rfl (fun g_3 hp_4 => ?_)
    subst g_3
    refine w_as (st' := [.int (zI ((min (T ((j : Nat) : Int)).toNat (R - a) : Nat) : Int))]) (sc_i (by first | omega | with_reducible rfl) rfl) ?_
    refine w_istore [(5, .int (zI ((min (T ((j : Nat) : Int)).toNat (R - a) : Nat) : Int))), (0, .ref (B + rb)), (1, .int (zI ((j : Nat) : Int))), (2, .int (zI ((a : Nat) : Int))), (3, .long (zJ w))] dX4_walkFrom_21 (by decide) rfl ?_
    refine w_aload_n dX4_walkFrom_23 rfl 1 rfl ?_
    refine w_get (i := 1) (T := TX4) (NF := 7) rb (by first | omega | with_reducible rfl) hw rfl (fun _ h => (List.mem_cons_of_mem _ (List.mem_append_left _ (List.mem_append_left _ (List.mem_append_right _ h))))) (by decide) (List.mem_of_getElem? (i := 2) rfl) rfl dX4_walkFrom_24 ?_
    refine w_iload_n dX4_walkFrom_27 rfl 2 rfl ?_
    refine w_iload_n dX4_walkFrom_28 rfl 3 rfl ?_
    refine w_calli (As := [.int (zI ((j : Nat) : Int)), .int (zI ((a : Nat) : Int))]) (rest := []) (n := 2) (c_X2_fewest hn (by first | omega | with_reducible rfl) (by omega) htfr (by first | omega | with_reducible rfl) (by first | omega | with_reducible rfl)) gX4_walkFrom_X2_fewest rfl rfl rfl (by decide +kernel) ⟨Nat.le_of_ble_eq_true rfl, Nat.le_of_ble_eq_true rfl⟩ rfl (by first | omega | with_reducible rfl) hn.1 rfl (Nat.le_of_ble_eq_true rfl) ⟨Nat.zero_le _, Nat.zero_le _⟩ dX4_walkFrom_29 rfl (fun g_5 hp_6 => ?_)
    subst g_5
    refine w_as (st' := [.int (zI (((lo (clL T V (j + 1) 4) (R - a)) : Nat) : Int))]) (sc_i (by rw [ht3]; unfold lo; omega) rfl) ?_
    refine w_istore [(6, .int (zI (((lo (clL T V (j + 1) 4) (R - a)) : Nat) : Int))), (5, .int (zI ((min (T ((j : Nat) : Int)).toNat (R - a) : Nat) : Int))), (0, .ref (B + rb)), (1, .int (zI ((j : Nat) : Int))), (2, .int (zI ((a : Nat) : Int))), (3, .long (zJ w))] dX4_walkFrom_32 (by decide) rfl ?_
    refine w_sub [(0, .ref (B + rb)), (1, .int (zI ((j : Nat) : Int))), (2, .int (zI ((a : Nat) : Int))), (3, .long (zJ w)), (5, .int (zI ((min (T ((j : Nat) : Int)).toNat (R - a) : Nat) : Int))), (6, .int (zI (((lo (clL T V (j + 1) 4) (R - a)) : Nat) : Int)))] [2, 3, 4, 5, 1, 0] rfl ?_
    refine w_lv (lv' := [(0, .ref (B + rb)), (1, .int (zI ((j : Nat) : Int))), (2, .int (zI ((a : Nat) : Int))), (3, .long (zJ w)), (5, .int (zI ((min (T ((j : Nat) : Int)).toNat (R - a) : Nat) : Int))), (6, .int (zI ((((lo (clL T V (j + 1) 4) (R - a)) + 0) : Nat) : Int)))]) (lc_s (lc_s (lc_s (lc_s (lc_s (lc_i (by first | omega | with_reducible rfl) rfl)))))) ?_
    refine w_loop2 (fun (k : Nat) (gl_7 : (Nat → va_E)) => vRare cy B gl_7 rb cb nb sw (rw + (srN (rf 0 sw ((T ((j : Nat) : Int)).toNat, (V ((j : Nat) : Int)).toNat) (clL T V (j + 1) 4) (R - a) w) (lo (clL T V (j + 1) 4) (R - a)) k)) (rt + (srN (rf 1 sw ((T ((j : Nat) : Int)).toNat, (V ((j : Nat) : Int)).toNat) (clL T V (j + 1) 4) (R - a) w) (lo (clL T V (j + 1) 4) (R - a)) k)) (lc + (srN (rf 2 sw ((T ((j : Nat) : Int)).toNat, (V ((j : Nat) : Int)).toNat) (clL T V (j + 1) 4) (R - a) w) (lo (clL T V (j + 1) 4) (R - a)) k)) rver ∧ vNet cy B gl_7 nb cb tf ((R : Nat) : Int) nver G ∧ vCol cy B gl_7 cb sets n cver T X V Wy ∧ (∀ q, (q < rb ∨ rb + 1 ≤ q) → gl_7 q = g q) ∧ k ≤ nn ((T ((j : Nat) : Int)).toNat, (V ((j : Nat) : Int)).toNat) (clL T V (j + 1) 4) (R - a)) (fun (k : Nat) (gl_7 : (Nat → va_E)) => nn ((T ((j : Nat) : Int)).toNat, (V ((j : Nat) : Int)).toNat) (clL T V (j + 1) 4) (R - a) - k) (fun (k : Nat) (gl_7 : (Nat → va_E)) => gl_7) (fun (k : Nat) (gl_7 : (Nat → va_E)) => [(0, .ref (B + rb)), (1, .int (zI ((j : Nat) : Int))), (2, .int (zI ((a : Nat) : Int))), (3, .long (zJ w)), (5, .int (zI ((min (T ((j : Nat) : Int)).toNat (R - a) : Nat) : Int))), (6, .int (zI ((((lo (clL T V (j + 1) 4) (R - a)) + k) : Nat) : Int)))]) ?_ 0 g ⟨(by have h9 := hw; simp only [srN, Int.add_zero]; exact h9), hn, hc, hfr_0, (Nat.zero_le _)⟩
    rintro k gl_7 ⟨hw_8, hn_9, hc_10, hfr_11, hk⟩ ih_34
    have hlo : lo (clL T V (j + 1) 4) (R - a) ≤ R - a ∧ nn ((T ((j : Nat) : Int)).toNat, (V ((j : Nat) : Int)).toNat) (clL T V (j + 1) 4) (R - a) ≤ 13 := by unfold lo nn; omega
    refine w_iload dX4_walkFrom_34 5 rfl ?_
    refine w_iload dX4_walkFrom_36 4 rfl ?_
    refine w_icmp_gt 70 dX4_walkFrom_38 (by decide) (by first | omega | with_reducible rfl) (by first | omega | with_reducible rfl) (fun c_38 => ?_) (fun c_38 => ?_)
    · have hk9 : k = nn ((T ((j : Nat) : Int)).toNat, (V ((j : Nat) : Int)).toNat) (clL T V (j + 1) 4) (R - a) := by unfold lo nn at *; omega
      exact w_vret dX4_walkFrom_70 rfl ⟨(by have h9 := hw_8; rw [hk9] at h9; exact h9), hfr_11⟩
    · have hx : lo (clL T V (j + 1) 4) (R - a) + k ≤ (T ((j : Nat) : Int)).toNat := by omega
      refine w_aload_n dX4_walkFrom_41 rfl 0 rfl ?_
      refine w_iload_n dX4_walkFrom_42 rfl 1 rfl ?_
      refine w_iconst dX4_walkFrom_43 ?_
      refine w_iadd dX4_walkFrom_44 ?_
      refine w_iload_n dX4_walkFrom_45 rfl 2 rfl ?_
      refine w_iload dX4_walkFrom_46 5 rfl ?_
      refine w_iadd dX4_walkFrom_48 ?_
      refine w_lload_n dX4_walkFrom_49 rfl 3 rfl ?_
      refine w_aload_n dX4_walkFrom_50 rfl 0 rfl ?_
      refine w_get (i := 0) (T := TX4) (NF := 7) rb (by first | omega | with_reducible rfl) hw_8 rfl (fun _ h => (List.mem_cons_of_mem _ (List.mem_append_left _ (List.mem_append_left _ (List.mem_append_right _ h))))) (by decide) (List.mem_of_getElem? (i := 1) rfl) rfl dX4_walkFrom_51 ?_
      refine w_iload_n dX4_walkFrom_54 rfl 1 rfl ?_
      refine w_iload dX4_walkFrom_55 5 rfl ?_
      refine w_calll (As := [.int (zI ((j : Nat) : Int)), .int (zI ((((lo (clL T V (j + 1) 4) (R - a)) + k) : Nat) : Int))]) (rest := [.long (zJ w), .int (zI (((a : Nat) : Int) + ((((lo (clL T V (j + 1) 4) (R - a)) + k) : Nat) : Int))), .int (zI (((j : Nat) : Int) + 1)), .ref (B + rb)]) (n := 2) (c_X0_waysOf hc_10 (by first | omega | with_reducible rfl) (by first | omega | with_reducible rfl) (by first | omega | with_reducible rfl) (by first | omega | with_reducible rfl)) gX4_walkFrom_X0_waysOf rfl rfl rfl (by decide +kernel) ⟨Nat.le_of_ble_eq_true rfl, Nat.le_of_ble_eq_true rfl⟩ rfl (by first | omega | with_reducible rfl) hc_10.1 rfl (Nat.le_of_ble_eq_true rfl) ⟨Nat.zero_le _, Nat.zero_le _⟩ dX4_walkFrom_57 rfl (fun g_12 hp_13 => ?_)
      subst g_12
      refine w_as (st' := [.long (zJ ((ch (T ((j : Nat) : Int)).toNat (lo (clL T V (j + 1) 4) (R - a) + k) : Nat) : Int)), .long (zJ w), .int (zI (((a : Nat) : Int) + ((((lo (clL T V (j + 1) 4) (R - a)) + k) : Nat) : Int))), .int (zI (((j : Nat) : Int) + 1)), .ref (B + rb)]) (sc_l (by rw [wyA_in (by omega), Int.toNat_natCast]; exact hWy _ (by omega) _ (by omega)) rfl) ?_
      refine w_lmul dX4_walkFrom_60 ?_
      refine w_as (st' := [.long (zJ (w * ((ch (T ((j : Nat) : Int)).toNat (lo (clL T V (j + 1) 4) (R - a) + k) : Nat) : Int))), .int (zI (((a + (lo (clL T V (j + 1) 4) (R - a) + k)) : Nat) : Int)), .int (zI (((j + 1) : Nat) : Int)), .ref (B + rb)]) (lc_s (sc_i (by first | omega | with_reducible rfl) (sc_i (by first | omega | with_reducible rfl) rfl))) ?_
      refine w_callv (As := [.int (zI (((j + 1) : Nat) : Int)), .int (zI (((a + (lo (clL T V (j + 1) 4) (R - a) + k)) : Nat) : Int)), .long (zJ (w * ((ch (T ((j : Nat) : Int)).toNat (lo (clL T V (j + 1) 4) (R - a) + k) : Nat) : Int)))]) (rest := []) (n := 3) (c_X4_lookAt_4 (j := (j + 1)) (a := (a + (lo (clL T V (j + 1) 4) (R - a) + k))) hw_8 hn_9 hc_10 (by first | omega | with_reducible rfl) (by first | omega | with_reducible rfl) (by first | omega | with_reducible rfl) (by first | omega | with_reducible rfl) (by first | omega | with_reducible rfl) hok (by first | omega | with_reducible rfl) hNF htf hWy (by first | omega | with_reducible rfl) (by first | omega | with_reducible rfl) (thr_next hth hjm (by omega) hx (by omega)) (wok_c (c := ((T ((j : Nat) : Int)).toNat, (V ((j : Nat) : Int)).toNat)) (cs := (clL T V (j + 1) 4)) hwk _)) gX4_walkFrom_X4_lookAt rfl rfl rfl (by decide +kernel) ⟨Nat.le_of_ble_eq_true rfl, Nat.le_of_ble_eq_true rfl⟩ rfl (by first | omega | with_reducible rfl) hw_8 rfl (Nat.le_of_ble_eq_true rfl) ⟨Nat.zero_le _, Nat.zero_le _⟩ dX4_walkFrom_61 rfl (fun g_14 hp_15 => ?_)
      obtain ⟨hw_16, hf_17⟩ := hp_15
      have hn_18 : vNet cy B g_14 nb cb tf ((R : Nat) : Int) nver G := vNet_fr hn_9 (fun q h1 h2 => hf_17 q (by omega))
      have hc_19 : vCol cy B g_14 cb sets n cver T X V Wy := vCol_fr hc_10 (fun q h1 h2 => hf_17 q (by omega))
      have hfr_20 : ∀ q, (q < rb ∨ rb + 1 ≤ q) → g_14 q = g q := fun q hq => (hf_17 q (by omega)).trans (hfr_11 q hq)
      refine w_iinc 5 [(6, .int (zI (((((lo (clL T V (j + 1) 4) (R - a)) + k) : Nat) : Int) + 1))), (0, .ref (B + rb)), (1, .int (zI ((j : Nat) : Int))), (2, .int (zI ((a : Nat) : Int))), (3, .long (zJ w)), (5, .int (zI ((min (T ((j : Nat) : Int)).toNat (R - a) : Nat) : Int)))] dX4_walkFrom_64 rfl (by decide) rfl ?_
      refine w_goto 34 dX4_walkFrom_67 (by decide) ?_
      refine w_sub [(0, .ref (B + rb)), (1, .int (zI ((j : Nat) : Int))), (2, .int (zI ((a : Nat) : Int))), (3, .long (zJ w)), (5, .int (zI ((min (T ((j : Nat) : Int)).toNat (R - a) : Nat) : Int))), (6, .int (zI (((((lo (clL T V (j + 1) 4) (R - a)) + k) : Nat) : Int) + 1)))] [1, 2, 3, 4, 5, 0] rfl ?_
      refine w_lv (lv' := [(0, .ref (B + rb)), (1, .int (zI ((j : Nat) : Int))), (2, .int (zI ((a : Nat) : Int))), (3, .long (zJ w)), (5, .int (zI ((min (T ((j : Nat) : Int)).toNat (R - a) : Nat) : Int))), (6, .int (zI ((((lo (clL T V (j + 1) 4) (R - a)) + (k + 1)) : Nat) : Int)))]) (lc_s (lc_s (lc_s (lc_s (lc_s (lc_i (by first | omega | with_reducible rfl) rfl)))))) ?_
      exact ih_34 (k + 1) g_14 ⟨(by have h9 := hw_16; rw [st_rf, st_rf, st_rf] at h9; exact h9), hn_18, hc_19, hfr_20, (by unfold lo nn at *; omega)⟩ (by unfold lo nn at *; omega)
  · exfalso; omega
theorem c_X4_walkFrom_top {l : Launch} {D : va_G} {cy : Nat → ClassId} {B N : Nat} {g : Nat → va_E} {rb : Nat} {sw rw rt lc rver : Int} {nb cb : Nat} {tf : Int → Int} {nver : Int} {G : Nat → Int → Int} {sets n R : Nat} {cver : Int} {T X V : Int → Int} {Wy : Nat → Int → Int} (hw : vRare cy B g rb cb nb sw rw rt lc rver) (hn : vNet cy B g nb cb tf ((R : Nat) : Int) nver G) (hc : vCol cy B g cb sets n cver T X V Wy) (hRB : rb + 1 ≤ N) (hd1 : rb + 1 ≤ nb ∨ nb + 11 ≤ rb) (hd2 : rb + 1 ≤ cb ∨ cb + 10 ≤ rb) (hNB : nb + 11 ≤ N) (hCB : cb + 10 ≤ N) (hok : okT T V n) (hR : R ≤ 60) (hNF : NF T V n R G) (htf : ∀ j : Nat, j ≤ 5 → tf ((j : Nat) : Int) = ((tsum (clL T V j (n - j)) : Nat) : Int)) (hWy : ∀ j : Nat, j < n → ∀ x : Nat, x ≤ 12 → Wy j ((x : Nat) : Int) = ((ch (T ((j : Nat) : Int)).toNat x : Nat) : Int)) (hsw : 0 ≤ sw ∧ sw ≤ 1152921504606846976) (hn1 : 1 ≤ n) (hRt : R ≤ tsum (clL T V 0 n)) : CTv l yX4_walkFrom wsX4_walkFrom (rmo 10 262) D cy B N g [.ref (B + rb), .int (zI 0), .int (zI 0), .long (zJ 1)] (fun g' => vRare cy B g' rb cb nb sw (rw + rk 0 sw (clL T V 0 n) R 1) (rt + rk 1 sw (clL T V 0 n) R 1) (lc + rk 2 sw (clL T V 0 n) R 1) rver ∧ (∀ q, (q < rb ∨ rb + 1 ≤ q) → g' q = g q)) := by
  have hth : thr T V n R 0 0 := ⟨by omega, by omega, by omega, by simpa using hRt⟩
  have hn5 : n ≤ 5 := hok.1
  have hwk : wok 1 (clL T V 0 n) := wok_1 (by have h9 := okT_ts hok (m := n) (j := 0) (by omega); omega)
  rcases (show n = 1 ∨ n = 2 ∨ n = 3 ∨ n = 4 ∨ n = 5 by omega) with hm | hm | hm | hm | hm
  · subst hm
    exact c_X4_walkFrom_t1 (j := 0) (a := 0) hw hn hc hRB hd1 hd2 hNB hCB hok hR hNF htf hWy hsw (by omega) hth hwk
  · subst hm
    exact c_X4_walkFrom_t2 (j := 0) (a := 0) hw hn hc hRB hd1 hd2 hNB hCB hok hR hNF htf hWy hsw (by omega) hth hwk
  · subst hm
    exact c_X4_walkFrom_t3 (j := 0) (a := 0) hw hn hc hRB hd1 hd2 hNB hCB hok hR hNF htf hWy hsw (by omega) hth hwk
  · subst hm
    exact c_X4_walkFrom_t4 (j := 0) (a := 0) hw hn hc hRB hd1 hd2 hNB hCB hok hR hNF htf hWy hsw (by omega) hth hwk
  · subst hm
    exact c_X4_walkFrom_t5 (j := 0) (a := 0) hw hn hc hRB hd1 hd2 hNB hCB hok hR hNF htf hWy hsw (by omega) hth hwk
set_option maxHeartbeats 4000000 in
set_option maxRecDepth 100000 in
theorem c_X4_refresh {l : Launch} {D : va_G} {cy : Nat → ClassId} {B N : Nat} {g : Nat → va_E} {rb : Nat} {sw rw rt lc rver : Int} {nb cb : Nat} {tf : Int → Int} {nver : Int} {G : Nat → Int → Int} {sets n R : Nat} {cver : Int} {T X V : Int → Int} {Wy : Nat → Int → Int} (hw : vRare cy B g rb cb nb sw rw rt lc rver) (hn : vNet cy B g nb cb tf ((R : Nat) : Int) nver G) (hc : vCol cy B g cb sets n cver T X V Wy) (hRB : rb + 1 ≤ N) (hd1 : rb + 1 ≤ nb ∨ nb + 11 ≤ rb) (hd2 : rb + 1 ≤ cb ∨ cb + 10 ≤ rb) (hNB : nb + 11 ≤ N) (hCB : cb + 10 ≤ N) (hok : okT T V n) (hR : R ≤ 60) (hNF : NF T V n R G) (htf : ∀ j : Nat, j ≤ 5 → tf ((j : Nat) : Int) = ((tsum (clL T V j (n - j)) : Nat) : Int)) (hWy : ∀ j : Nat, j < n → ∀ x : Nat, x ≤ 12 → Wy j ((x : Nat) : Int) = ((ch (T ((j : Nat) : Int)).toNat x : Nat) : Int)) (hsw : 0 ≤ (pr (wx Wy X) n) ∧ (pr (wx Wy X) n) ≤ 1152921504606846976) (hn1 : 1 ≤ n) (hRt : R ≤ tsum (clL T V 0 n)) (hX : ∀ j : Int, 0 ≤ j → j < n → 0 ≤ X j ∧ X j ≤ 12) (hv : (0 ≤ rver ∧ rver ≤ cver) ∧ cver < 2147483648) (h0 : rver = cver → (sw = (pr (wx Wy X) n) ∧ rw = (rk 0 (pr (wx Wy X) n) (clL T V 0 n) R 1) ∧ rt = (rk 1 (pr (wx Wy X) n) (clL T V 0 n) R 1) ∧ lc = (rk 2 (pr (wx Wy X) n) (clL T V 0 n) R 1))) : CTv l yX4_refresh wsX4_refresh (rmo 11 288) D cy B N g [.ref (B + rb)] (fun g' => vRare cy B g' rb cb nb (pr (wx Wy X) n) (rk 0 (pr (wx Wy X) n) (clL T V 0 n) R 1) (rk 1 (pr (wx Wy X) n) (clL T V 0 n) R 1) (rk 2 (pr (wx Wy X) n) (clL T V 0 n) R 1) cver ∧ (∀ q, (q < rb ∨ rb + 1 ≤ q) → g' q = g q)) := by
  refine WW_of (cc := cX4_refresh) (maxL := 1) (ret := none) (own := RX4) (by decide) rfl rfl (Nat.le_of_ble_eq_true rfl) rfl ?_
  intro pp ee ss mm bl me co hmn
  have hfr_0 : ∀ q, (q < rb ∨ rb + 1 ≤ q) → g q = g q := fun _ _ => rfl
  have hn5 : n ≤ 5 := hok.1
  refine w_aload_n dX4_refresh_0 rfl 0 rfl ?_
  refine w_get (i := 6) (T := TX4) (NF := 7) rb (by first | omega | with_reducible rfl) hw rfl (fun _ h => (List.mem_cons_of_mem _ (List.mem_append_left _ (List.mem_append_left _ (List.mem_append_right _ h))))) (by decide) (List.mem_of_getElem? (i := 1) rfl) rfl dX4_refresh_1 ?_
  refine w_aload_n dX4_refresh_4 rfl 0 rfl ?_
  refine w_get (i := 0) (T := TX4) (NF := 7) rb (by first | omega | with_reducible rfl) hw rfl (fun _ h => (List.mem_cons_of_mem _ (List.mem_append_left _ (List.mem_append_left _ (List.mem_append_right _ h))))) (by decide) (List.mem_of_getElem? (i := 2) rfl) rfl dX4_refresh_5 ?_
  refine w_calli (As := []) (rest := [.int (zI rver)]) (n := 0) (c_X0_version hc (by first | omega | with_reducible rfl)) gX4_refresh_X0_version rfl rfl rfl (by decide +kernel) ⟨Nat.le_of_ble_eq_true rfl, Nat.le_of_ble_eq_true rfl⟩ rfl (by first | omega | with_reducible rfl) hc.1 rfl (Nat.le_of_ble_eq_true rfl) ⟨Nat.zero_le _, Nat.zero_le _⟩ dX4_refresh_8 rfl (fun g_1 hp_2 => ?_)
  subst g_1
  refine w_icmp_ne 15 dX4_refresh_11 (by decide) (by first | omega | with_reducible rfl) (by first | omega | with_reducible rfl) (fun c_11 => ?_) (fun c_11 => ?_)
  · refine w_aload_n dX4_refresh_15 rfl 0 rfl ?_
    refine w_aload_n dX4_refresh_16 rfl 0 rfl ?_
    refine w_get (i := 0) (T := TX4) (NF := 7) rb (by first | omega | with_reducible rfl) hw rfl (fun _ h => (List.mem_cons_of_mem _ (List.mem_append_left _ (List.mem_append_left _ (List.mem_append_right _ h))))) (by decide) (List.mem_of_getElem? (i := 2) rfl) rfl dX4_refresh_17 ?_
    refine w_calli (As := []) (rest := [.ref (B + rb)]) (n := 0) (c_X0_version hc (by first | omega | with_reducible rfl)) gX4_refresh_X0_version rfl rfl rfl (by decide +kernel) ⟨Nat.le_of_ble_eq_true rfl, Nat.le_of_ble_eq_true rfl⟩ rfl (by first | omega | with_reducible rfl) hc.1 rfl (Nat.le_of_ble_eq_true rfl) ⟨Nat.zero_le _, Nat.zero_le _⟩ dX4_refresh_20 rfl (fun g_3 hp_4 => ?_)
    subst g_3
    refine w_put (i := 6) (T := TX4) (NF := 7) rb (by first | omega | with_reducible rfl) hw rfl (fun _ h => (List.mem_cons_of_mem _ (List.mem_append_left _ (List.mem_append_left _ (List.mem_append_right _ h))))) tyX4 tyX4_ok nmX4 (by decide) (List.mem_of_getElem? (i := 1) rfl) rfl rfl rfl (Nat.le_of_ble_eq_true rfl) dX4_refresh_23 (fun g_5 he_6 hn_7 => ?_)
    have hw_8 : vRare cy B g_5 rb cb nb sw rw rt lc cver := he_6
    have hn_9 : vNet cy B g_5 nb cb tf ((R : Nat) : Int) nver G := vNet_fr hn (fun q h1 h2 => hn_7 q (by omega))
    have hc_10 : vCol cy B g_5 cb sets n cver T X V Wy := vCol_fr hc (fun q h1 h2 => hn_7 q (by omega))
    have hfr_11 : ∀ q, (q < rb ∨ rb + 1 ≤ q) → g_5 q = g q := fun q hq => (hn_7 q (by omega)).trans (hfr_0 q hq)
    refine w_aload_n dX4_refresh_26 rfl 0 rfl ?_
    refine w_aload_n dX4_refresh_27 rfl 0 rfl ?_
    refine w_get (i := 0) (T := TX4) (NF := 7) rb (by first | omega | with_reducible rfl) hw_8 rfl (fun _ h => (List.mem_cons_of_mem _ (List.mem_append_left _ (List.mem_append_left _ (List.mem_append_right _ h))))) (by decide) (List.mem_of_getElem? (i := 2) rfl) rfl dX4_refresh_28 ?_
    refine w_calll (As := []) (rest := [.ref (B + rb)]) (n := 0) (c_X0_seenWays hc_10 (by first | omega | with_reducible rfl) (by first | omega | with_reducible rfl) hX) gX4_refresh_X0_seenWays rfl rfl rfl (by decide +kernel) ⟨Nat.le_of_ble_eq_true rfl, Nat.le_of_ble_eq_true rfl⟩ rfl (by first | omega | with_reducible rfl) hc_10.1 rfl (Nat.le_of_ble_eq_true rfl) ⟨Nat.zero_le _, Nat.zero_le _⟩ dX4_refresh_31 rfl (fun g_12 hp_13 => ?_)
    subst g_12
    refine w_put (i := 2) (T := TX4) (NF := 7) rb (by first | omega | with_reducible rfl) hw_8 rfl (fun _ h => (List.mem_cons_of_mem _ (List.mem_append_left _ (List.mem_append_left _ (List.mem_append_right _ h))))) tyX4 tyX4_ok nmX4 (by decide) (List.mem_of_getElem? (i := 3) rfl) rfl rfl rfl (Nat.le_of_ble_eq_true rfl) dX4_refresh_34 (fun g_14 he_15 hn_16 => ?_)
    have hw_17 : vRare cy B g_14 rb cb nb (pr (wx Wy X) n) rw rt lc cver := he_15
    have hn_18 : vNet cy B g_14 nb cb tf ((R : Nat) : Int) nver G := vNet_fr hn_9 (fun q h1 h2 => hn_16 q (by omega))
    have hc_19 : vCol cy B g_14 cb sets n cver T X V Wy := vCol_fr hc_10 (fun q h1 h2 => hn_16 q (by omega))
    have hfr_20 : ∀ q, (q < rb ∨ rb + 1 ≤ q) → g_14 q = g q := fun q hq => (hn_16 q (by omega)).trans (hfr_11 q hq)
    refine w_aload_n dX4_refresh_37 rfl 0 rfl ?_
    refine w_lconst0 dX4_refresh_38 ?_
    refine w_put (i := 3) (T := TX4) (NF := 7) rb (by first | omega | with_reducible rfl) hw_17 rfl (fun _ h => (List.mem_cons_of_mem _ (List.mem_append_left _ (List.mem_append_left _ (List.mem_append_right _ h))))) tyX4 tyX4_ok nmX4 (by decide) (List.mem_of_getElem? (i := 4) rfl) rfl rfl rfl (Nat.le_of_ble_eq_true rfl) dX4_refresh_39 (fun g_21 he_22 hn_23 => ?_)
    have hw_24 : vRare cy B g_21 rb cb nb (pr (wx Wy X) n) 0 rt lc cver := he_22
    have hn_25 : vNet cy B g_21 nb cb tf ((R : Nat) : Int) nver G := vNet_fr hn_18 (fun q h1 h2 => hn_23 q (by omega))
    have hc_26 : vCol cy B g_21 cb sets n cver T X V Wy := vCol_fr hc_19 (fun q h1 h2 => hn_23 q (by omega))
    have hfr_27 : ∀ q, (q < rb ∨ rb + 1 ≤ q) → g_21 q = g q := fun q hq => (hn_23 q (by omega)).trans (hfr_20 q hq)
    refine w_aload_n dX4_refresh_42 rfl 0 rfl ?_
    refine w_iconst dX4_refresh_43 ?_
    refine w_put (i := 4) (T := TX4) (NF := 7) rb (by first | omega | with_reducible rfl) hw_24 rfl (fun _ h => (List.mem_cons_of_mem _ (List.mem_append_left _ (List.mem_append_left _ (List.mem_append_right _ h))))) tyX4 tyX4_ok nmX4 (by decide) (List.mem_of_getElem? (i := 5) rfl) rfl rfl rfl (Nat.le_of_ble_eq_true rfl) dX4_refresh_44 (fun g_28 he_29 hn_30 => ?_)
    have hw_31 : vRare cy B g_28 rb cb nb (pr (wx Wy X) n) 0 0 lc cver := he_29
    have hn_32 : vNet cy B g_28 nb cb tf ((R : Nat) : Int) nver G := vNet_fr hn_25 (fun q h1 h2 => hn_30 q (by omega))
    have hc_33 : vCol cy B g_28 cb sets n cver T X V Wy := vCol_fr hc_26 (fun q h1 h2 => hn_30 q (by omega))
    have hfr_34 : ∀ q, (q < rb ∨ rb + 1 ≤ q) → g_28 q = g q := fun q hq => (hn_30 q (by omega)).trans (hfr_27 q hq)
    refine w_aload_n dX4_refresh_47 rfl 0 rfl ?_
    refine w_iconst dX4_refresh_48 ?_
    refine w_put (i := 5) (T := TX4) (NF := 7) rb (by first | omega | with_reducible rfl) hw_31 rfl (fun _ h => (List.mem_cons_of_mem _ (List.mem_append_left _ (List.mem_append_left _ (List.mem_append_right _ h))))) tyX4 tyX4_ok nmX4 (by decide) (List.mem_of_getElem? (i := 6) rfl) rfl rfl rfl (Nat.le_of_ble_eq_true rfl) dX4_refresh_49 (fun g_35 he_36 hn_37 => ?_)
    have hw_38 : vRare cy B g_35 rb cb nb (pr (wx Wy X) n) 0 0 0 cver := he_36
    have hn_39 : vNet cy B g_35 nb cb tf ((R : Nat) : Int) nver G := vNet_fr hn_32 (fun q h1 h2 => hn_37 q (by omega))
    have hc_40 : vCol cy B g_35 cb sets n cver T X V Wy := vCol_fr hc_33 (fun q h1 h2 => hn_37 q (by omega))
    have hfr_41 : ∀ q, (q < rb ∨ rb + 1 ≤ q) → g_35 q = g q := fun q hq => (hn_37 q (by omega)).trans (hfr_34 q hq)
    refine w_aload_n dX4_refresh_52 rfl 0 rfl ?_
    refine w_iconst dX4_refresh_53 ?_
    refine w_iconst dX4_refresh_54 ?_
    refine w_lconst1 dX4_refresh_55 ?_
    refine w_callv (As := [.int (zI 0), .int (zI 0), .long (zJ 1)]) (rest := []) (n := 3) (c_X4_walkFrom_top hw_38 hn_39 hc_40 (by first | omega | with_reducible rfl) (by first | omega | with_reducible rfl) (by first | omega | with_reducible rfl) (by first | omega | with_reducible rfl) (by first | omega | with_reducible rfl) hok (by first | omega | with_reducible rfl) hNF htf hWy (by first | omega | with_reducible rfl) (by first | omega | with_reducible rfl) hRt) gX4_refresh_X4_walkFrom rfl rfl rfl (by decide +kernel) ⟨Nat.le_of_ble_eq_true rfl, Nat.le_of_ble_eq_true rfl⟩ rfl (by first | omega | with_reducible rfl) hw_38 rfl (Nat.le_of_ble_eq_true rfl) ⟨Nat.zero_le _, Nat.zero_le _⟩ dX4_refresh_56 rfl (fun g_42 hp_43 => ?_)
    obtain ⟨hw_44, hf_45⟩ := hp_43
    have hn_46 : vNet cy B g_42 nb cb tf ((R : Nat) : Int) nver G := vNet_fr hn_39 (fun q h1 h2 => hf_45 q (by omega))
    have hc_47 : vCol cy B g_42 cb sets n cver T X V Wy := vCol_fr hc_40 (fun q h1 h2 => hf_45 q (by omega))
    have hfr_48 : ∀ q, (q < rb ∨ rb + 1 ≤ q) → g_42 q = g q := fun q hq => (hf_45 q (by omega)).trans (hfr_41 q hq)
    exact w_vret dX4_refresh_59 rfl ⟨(by have h9 := hw_44; rw [Int.zero_add, Int.zero_add, Int.zero_add] at h9; exact h9), hfr_48⟩
  · obtain ⟨h01, h02, h03, h04⟩ := h0 c_11
    exact w_vret dX4_refresh_14 rfl ⟨(by have h9 := hw; rw [h01, h02, h03, h04, c_11] at h9; exact h9), hfr_0⟩
