/-! ===== SumWalk.refresh ===== -/
set_option maxHeartbeats 4000000 in
set_option maxRecDepth 100000 in
theorem c_X8_walkFrom_t1 {l : Launch} {D : va_G} {cy : Nat → ClassId} {B N : Nat} {g : Nat → va_E} {sb : Nat} {W Tb : Int → Int} {le gr sver : Int} {nb cb : Nat} {tf : Int → Int} {nver : Int} {G : Nat → Int → Int} {sets n R : Nat} {cver : Int} {T X V : Int → Int} {Wy : Nat → Int → Int} {j a : Nat} {s w : Int} (hs : vSum cy B g sb cb nb W Tb le gr sver) (hn : vNet cy B g nb cb tf ((R : Nat) : Int) nver G) (hc : vCol cy B g cb sets n cver T X V Wy) (hSB : sb + 3 ≤ N) (hd1 : sb + 3 ≤ nb ∨ nb + 11 ≤ sb) (hd2 : sb + 3 ≤ cb ∨ cb + 10 ≤ sb) (hNB : nb + 11 ≤ N) (hCB : cb + 10 ≤ N) (hok : okT T V n) (hR : R ≤ 60) (hNF : NF T V n R G) (htf : ∀ j : Nat, j ≤ 5 → tf ((j : Nat) : Int) = ((tsum (clL T V j (n - j)) : Nat) : Int)) (hWy : ∀ j : Nat, j < n → ∀ x : Nat, x ≤ 12 → Wy j ((x : Nat) : Int) = ((ch (T ((j : Nat) : Int)).toNat x : Nat) : Int)) (hjm : j + 1 = n) (hth : thr T V n R j a) (hsr : 0 ≤ s ∧ s + 9 * ((tsum (clL T V j 1) : Nat) : Int) ≤ 540) : CTv l yX8_walkFrom wsX8_walkFrom (rmo 10 274) D cy B N g [.ref (B + sb), .int (zI ((j : Nat) : Int)), .int (zI ((a : Nat) : Int)), .int (zI s), .long (zJ w)] (fun g' => vSum cy B g' sb cb nb (aW W (clL T V j 1) (R - a) s w) (aT Tb (clL T V j 1) (R - a) s) le gr sver ∧ (∀ q, (q < sb ∨ sb + 3 ≤ q) → g' q = g q)) := by
  refine WW_of (cc := cX8_walkFrom) (maxL := 9) (ret := none) (own := RX8) (by decide) rfl rfl (Nat.le_of_ble_eq_true rfl) rfl ?_
  intro pp ee ss mm bl me co hmn
  have hfr_0 : ∀ q, (q < sb ∨ sb + 3 ≤ q) → g q = g q := fun _ _ => rfl
  have hn5 : n ≤ 5 := hok.1
  have htR := hth.2.1
  have hq1 := hok.2 ((j : Nat) : Int) (by omega) (by omega)
  have ht3 : tf (((j : Nat) : Int) + 1) = ((tsum (clL T V (j + 1) 0) : Nat) : Int) := by
    have h9 := htf (j + 1) (by omega)
    rw [show n - (j + 1) = 0 by omega] at h9
    exact h9
  have htfr : ∀ i : Int, 0 ≤ i → i ≤ 5 → 0 ≤ tf i ∧ tf i ≤ 60 := fun i h1 h2 => by
    obtain ⟨k, rfl⟩ := Int.eq_ofNat_of_zero_le h1
    have h3 := htf k (by omega)
    by_cases hk : k ≤ n
    · have h4 := okT_ts hok (m := n - k) (j := k) (by omega)
      omega
    · rw [show n - k = 0 by omega] at h3
      rw [clL, tsum] at h3
      omega
  have hts := thr_ts hth hjm
  have hts2 : tsum (clL T V j 1) = (T ((j : Nat) : Int)).toNat + tsum (clL T V (j + 1) 0) := rfl
  refine w_aload_n dX8_walkFrom_0 rfl 0 rfl ?_
  refine w_get (i := 0) (T := TX8) (NF := 7) sb (by first | omega | with_reducible rfl) hs.1 rfl (fun _ h => (List.mem_cons_of_mem _ (List.mem_append_left _ (List.mem_append_left _ (List.mem_append_right _ h))))) (by decide) (List.mem_of_getElem? (i := 1) rfl) rfl dX8_walkFrom_1 ?_
  refine w_iload_n dX8_walkFrom_4 rfl 1 rfl ?_
  refine w_calli (As := [.int (zI ((j : Nat) : Int))]) (rest := []) (n := 1) (c_X0_scoreOf hc (by first | omega | with_reducible rfl) (by first | omega | with_reducible rfl) (by first | omega | with_reducible rfl)) gX8_walkFrom_X0_scoreOf rfl rfl rfl (by decide +kernel) ⟨Nat.le_of_ble_eq_true rfl, Nat.le_of_ble_eq_true rfl⟩ rfl (by first | omega | with_reducible rfl) hc.1 rfl (Nat.le_of_ble_eq_true rfl) ⟨Nat.zero_le _, Nat.zero_le _⟩ dX8_walkFrom_5 rfl (fun g_1 hp_2 => ?_)
  subst g_1
  refine w_as (st' := [.int (zI (((V ((j : Nat) : Int)).toNat : Nat) : Int))]) (sc_i (by rw [inA_in (by omega)]; omega) rfl) ?_
  refine w_istore [(6, .int (zI (((V ((j : Nat) : Int)).toNat : Nat) : Int))), (0, .ref (B + sb)), (1, .int (zI ((j : Nat) : Int))), (2, .int (zI ((a : Nat) : Int))), (3, .int (zI s)), (4, .long (zJ w))] dX8_walkFrom_8 (by decide) rfl ?_
  refine w_aload_n dX8_walkFrom_10 rfl 1 rfl ?_
  refine w_get (i := 1) (T := TX8) (NF := 7) sb (by first | omega | with_reducible rfl) hs.1 rfl (fun _ h => (List.mem_cons_of_mem _ (List.mem_append_left _ (List.mem_append_left _ (List.mem_append_right _ h))))) (by decide) (List.mem_of_getElem? (i := 2) rfl) rfl dX8_walkFrom_11 ?_
  refine w_iload_n dX8_walkFrom_14 rfl 2 rfl ?_
  refine w_iload_n dX8_walkFrom_15 rfl 3 rfl ?_
  refine w_calli (As := [.int (zI ((j : Nat) : Int)), .int (zI ((a : Nat) : Int))]) (rest := []) (n := 2) (c_X2_most hn hc (by first | omega | with_reducible rfl) (by first | omega | with_reducible rfl) hn5 (by omega) (by omega) (by first | omega | with_reducible rfl) (by first | omega | with_reducible rfl)) gX8_walkFrom_X2_most rfl rfl rfl (by decide +kernel) ⟨Nat.le_of_ble_eq_true rfl, Nat.le_of_ble_eq_true rfl⟩ rfl (by first | omega | with_reducible rfl) hn.1 rfl (Nat.le_of_ble_eq_true rfl) ⟨Nat.zero_le _, Nat.zero_le _⟩ dX8_walkFrom_16 rfl (fun g_3 hp_4 => ?_)
  subst g_3
  refine w_as (st' := [.int (zI ((min (T ((j : Nat) : Int)).toNat (R - a) : Nat) : Int))]) (sc_i (by first | omega | with_reducible rfl) rfl) ?_
  refine w_istore [(7, .int (zI ((min (T ((j : Nat) : Int)).toNat (R - a) : Nat) : Int))), (6, .int (zI (((V ((j : Nat) : Int)).toNat : Nat) : Int))), (0, .ref (B + sb)), (1, .int (zI ((j : Nat) : Int))), (2, .int (zI ((a : Nat) : Int))), (3, .int (zI s)), (4, .long (zJ w))] dX8_walkFrom_19 (by decide) rfl ?_
  refine w_aload_n dX8_walkFrom_21 rfl 2 rfl ?_
  refine w_get (i := 1) (T := TX8) (NF := 7) sb (by first | omega | with_reducible rfl) hs.1 rfl (fun _ h => (List.mem_cons_of_mem _ (List.mem_append_left _ (List.mem_append_left _ (List.mem_append_right _ h))))) (by decide) (List.mem_of_getElem? (i := 2) rfl) rfl dX8_walkFrom_22 ?_
  refine w_iload_n dX8_walkFrom_25 rfl 3 rfl ?_
  refine w_iload_n dX8_walkFrom_26 rfl 4 rfl ?_
  refine w_calli (As := [.int (zI ((j : Nat) : Int)), .int (zI ((a : Nat) : Int))]) (rest := []) (n := 2) (c_X2_fewest hn (by first | omega | with_reducible rfl) (by omega) htfr (by first | omega | with_reducible rfl) (by first | omega | with_reducible rfl)) gX8_walkFrom_X2_fewest rfl rfl rfl (by decide +kernel) ⟨Nat.le_of_ble_eq_true rfl, Nat.le_of_ble_eq_true rfl⟩ rfl (by first | omega | with_reducible rfl) hn.1 rfl (Nat.le_of_ble_eq_true rfl) ⟨Nat.zero_le _, Nat.zero_le _⟩ dX8_walkFrom_27 rfl (fun g_5 hp_6 => ?_)
  subst g_5
  refine w_as (st' := [.int (zI (((lo (clL T V (j + 1) 0) (R - a)) : Nat) : Int))]) (sc_i (by rw [ht3]; unfold lo; omega) rfl) ?_
  refine w_istore [(8, .int (zI (((lo (clL T V (j + 1) 0) (R - a)) : Nat) : Int))), (7, .int (zI ((min (T ((j : Nat) : Int)).toNat (R - a) : Nat) : Int))), (6, .int (zI (((V ((j : Nat) : Int)).toNat : Nat) : Int))), (0, .ref (B + sb)), (1, .int (zI ((j : Nat) : Int))), (2, .int (zI ((a : Nat) : Int))), (3, .int (zI s)), (4, .long (zJ w))] dX8_walkFrom_30 (by decide) rfl ?_
  refine w_sub [(0, .ref (B + sb)), (1, .int (zI ((j : Nat) : Int))), (2, .int (zI ((a : Nat) : Int))), (3, .int (zI s)), (4, .long (zJ w)), (6, .int (zI (((V ((j : Nat) : Int)).toNat : Nat) : Int))), (7, .int (zI ((min (T ((j : Nat) : Int)).toNat (R - a) : Nat) : Int))), (8, .int (zI (((lo (clL T V (j + 1) 0) (R - a)) : Nat) : Int)))] [3, 4, 5, 6, 7, 2, 1, 0] rfl ?_
  refine w_lv (lv' := [(0, .ref (B + sb)), (1, .int (zI ((j : Nat) : Int))), (2, .int (zI ((a : Nat) : Int))), (3, .int (zI s)), (4, .long (zJ w)), (6, .int (zI (((V ((j : Nat) : Int)).toNat : Nat) : Int))), (7, .int (zI ((min (T ((j : Nat) : Int)).toNat (R - a) : Nat) : Int))), (8, .int (zI ((((lo (clL T V (j + 1) 0) (R - a)) + 0) : Nat) : Int)))]) (lc_s (lc_s (lc_s (lc_s (lc_s (lc_s (lc_s (lc_i (by first | omega | with_reducible rfl) rfl)))))))) ?_
  refine w_loop2 (fun (k : Nat) (gl_7 : (Nat → va_E)) => vSum cy B gl_7 sb cb nb (gW W ((T ((j : Nat) : Int)).toNat, (V ((j : Nat) : Int)).toNat) (clL T V (j + 1) 0) (R - a) s w k) (gT Tb ((T ((j : Nat) : Int)).toNat, (V ((j : Nat) : Int)).toNat) (clL T V (j + 1) 0) (R - a) s k) le gr sver ∧ vNet cy B gl_7 nb cb tf ((R : Nat) : Int) nver G ∧ vCol cy B gl_7 cb sets n cver T X V Wy ∧ (∀ q, (q < sb ∨ sb + 3 ≤ q) → gl_7 q = g q) ∧ k ≤ nn ((T ((j : Nat) : Int)).toNat, (V ((j : Nat) : Int)).toNat) (clL T V (j + 1) 0) (R - a)) (fun (k : Nat) (gl_7 : (Nat → va_E)) => nn ((T ((j : Nat) : Int)).toNat, (V ((j : Nat) : Int)).toNat) (clL T V (j + 1) 0) (R - a) - k) (fun (k : Nat) (gl_7 : (Nat → va_E)) => gl_7) (fun (k : Nat) (gl_7 : (Nat → va_E)) => [(0, .ref (B + sb)), (1, .int (zI ((j : Nat) : Int))), (2, .int (zI ((a : Nat) : Int))), (3, .int (zI s)), (4, .long (zJ w)), (6, .int (zI (((V ((j : Nat) : Int)).toNat : Nat) : Int))), (7, .int (zI ((min (T ((j : Nat) : Int)).toNat (R - a) : Nat) : Int))), (8, .int (zI ((((lo (clL T V (j + 1) 0) (R - a)) + k) : Nat) : Int)))]) ?_ 0 g ⟨(by have h9 := hs; rw [gW_0, gT_0]; exact h9), hn, hc, hfr_0, (Nat.zero_le _)⟩
  rintro k gl_7 ⟨hs_8, hn_9, hc_10, hfr_11, hk⟩ ih_32
  have hlo : lo (clL T V (j + 1) 0) (R - a) ≤ R - a ∧ nn ((T ((j : Nat) : Int)).toNat, (V ((j : Nat) : Int)).toNat) (clL T V (j + 1) 0) (R - a) ≤ 13 := by unfold lo nn; omega
  refine w_iload dX8_walkFrom_32 7 rfl ?_
  refine w_iload dX8_walkFrom_34 6 rfl ?_
  refine w_icmp_gt 76 dX8_walkFrom_36 (by decide) (by first | omega | with_reducible rfl) (by first | omega | with_reducible rfl) (fun c_36 => ?_) (fun c_36 => ?_)
  · have hk9 : k = nn ((T ((j : Nat) : Int)).toNat, (V ((j : Nat) : Int)).toNat) (clL T V (j + 1) 0) (R - a) := by unfold lo nn at *; omega
    exact w_vret dX8_walkFrom_76 rfl ⟨(by have h9 := hs_8; rw [hk9] at h9; exact h9), hfr_11⟩
  · have hx : lo (clL T V (j + 1) 0) (R - a) + k ≤ (T ((j : Nat) : Int)).toNat := by omega
    have hxv : 0 ≤ ((((lo (clL T V (j + 1) 0) (R - a)) + k) : Nat) : Int) * (((V ((j : Nat) : Int)).toNat : Nat) : Int) ∧ ((((lo (clL T V (j + 1) 0) (R - a)) + k) : Nat) : Int) * (((V ((j : Nat) : Int)).toNat : Nat) : Int) ≤ ((((lo (clL T V (j + 1) 0) (R - a)) + k) : Nat) : Int) * 9 := ⟨Int.mul_nonneg (by omega) (by omega), Int.mul_le_mul_of_nonneg_left (by omega) (by omega)⟩
    refine w_aload_n dX8_walkFrom_39 rfl 0 rfl ?_
    refine w_iload_n dX8_walkFrom_40 rfl 1 rfl ?_
    refine w_iconst dX8_walkFrom_41 ?_
    refine w_iadd dX8_walkFrom_42 ?_
    refine w_iload_n dX8_walkFrom_43 rfl 2 rfl ?_
    refine w_iload dX8_walkFrom_44 7 rfl ?_
    refine w_iadd dX8_walkFrom_46 ?_
    refine w_iload_n dX8_walkFrom_47 rfl 3 rfl ?_
    refine w_iload dX8_walkFrom_48 7 rfl ?_
    refine w_iload dX8_walkFrom_50 5 rfl ?_
    refine w_imul dX8_walkFrom_52 ?_
    refine w_iadd dX8_walkFrom_53 ?_
    refine w_lload dX8_walkFrom_54 4 rfl ?_
    refine w_aload_n dX8_walkFrom_56 rfl 0 rfl ?_
    refine w_get (i := 0) (T := TX8) (NF := 7) sb (by first | omega | with_reducible rfl) hs_8.1 rfl (fun _ h => (List.mem_cons_of_mem _ (List.mem_append_left _ (List.mem_append_left _ (List.mem_append_right _ h))))) (by decide) (List.mem_of_getElem? (i := 1) rfl) rfl dX8_walkFrom_57 ?_
    refine w_iload_n dX8_walkFrom_60 rfl 1 rfl ?_
    refine w_iload dX8_walkFrom_61 7 rfl ?_
    refine w_calll (As := [.int (zI ((j : Nat) : Int)), .int (zI ((((lo (clL T V (j + 1) 0) (R - a)) + k) : Nat) : Int))]) (rest := [.long (zJ w), .int (zI (s + (((((lo (clL T V (j + 1) 0) (R - a)) + k) : Nat) : Int) * (((V ((j : Nat) : Int)).toNat : Nat) : Int)))), .int (zI (((a : Nat) : Int) + ((((lo (clL T V (j + 1) 0) (R - a)) + k) : Nat) : Int))), .int (zI (((j : Nat) : Int) + 1)), .ref (B + sb)]) (n := 2) (c_X0_waysOf hc_10 (by first | omega | with_reducible rfl) (by first | omega | with_reducible rfl) (by first | omega | with_reducible rfl) (by first | omega | with_reducible rfl)) gX8_walkFrom_X0_waysOf rfl rfl rfl (by decide +kernel) ⟨Nat.le_of_ble_eq_true rfl, Nat.le_of_ble_eq_true rfl⟩ rfl (by first | omega | with_reducible rfl) hc_10.1 rfl (Nat.le_of_ble_eq_true rfl) ⟨Nat.zero_le _, Nat.zero_le _⟩ dX8_walkFrom_63 rfl (fun g_12 hp_13 => ?_)
    subst g_12
    refine w_as (st' := [.long (zJ ((ch (T ((j : Nat) : Int)).toNat (lo (clL T V (j + 1) 0) (R - a) + k) : Nat) : Int)), .long (zJ w), .int (zI (s + (((((lo (clL T V (j + 1) 0) (R - a)) + k) : Nat) : Int) * (((V ((j : Nat) : Int)).toNat : Nat) : Int)))), .int (zI (((a : Nat) : Int) + ((((lo (clL T V (j + 1) 0) (R - a)) + k) : Nat) : Int))), .int (zI (((j : Nat) : Int) + 1)), .ref (B + sb)]) (sc_l (by rw [wyA_in (by omega), Int.toNat_natCast]; exact hWy _ (by omega) _ (by omega)) rfl) ?_
    refine w_lmul dX8_walkFrom_66 ?_
    refine w_as (st' := [.long (zJ (w * ((ch (T ((j : Nat) : Int)).toNat (lo (clL T V (j + 1) 0) (R - a) + k) : Nat) : Int))), .int (zI (s + (((((lo (clL T V (j + 1) 0) (R - a)) + k) : Nat) : Int) * (((V ((j : Nat) : Int)).toNat : Nat) : Int)))), .int (zI (((a + (lo (clL T V (j + 1) 0) (R - a) + k)) : Nat) : Int)), .int (zI (((j + 1) : Nat) : Int)), .ref (B + sb)]) (lc_s (lc_s (sc_i (by first | omega | with_reducible rfl) (sc_i (by first | omega | with_reducible rfl) rfl)))) ?_
    refine w_callv (As := [.int (zI (((j + 1) : Nat) : Int)), .int (zI (((a + (lo (clL T V (j + 1) 0) (R - a) + k)) : Nat) : Int)), .int (zI (s + (((((lo (clL T V (j + 1) 0) (R - a)) + k) : Nat) : Int) * (((V ((j : Nat) : Int)).toNat : Nat) : Int)))), .long (zJ (w * ((ch (T ((j : Nat) : Int)).toNat (lo (clL T V (j + 1) 0) (R - a) + k) : Nat) : Int)))]) (rest := []) (n := 4) (c_X8_comeTo_0 (j := (j + 1)) (a := (a + (lo (clL T V (j + 1) 0) (R - a) + k))) hs_8 hn_9 hc_10 (by first | omega | with_reducible rfl) (by first | omega | with_reducible rfl) (by first | omega | with_reducible rfl) (by first | omega | with_reducible rfl) (by first | omega | with_reducible rfl) hok (by first | omega | with_reducible rfl) hNF htf hWy (by first | omega | with_reducible rfl) (thr_next hth hjm (by omega) hx (by omega)) (by first | omega | with_reducible rfl)) gX8_walkFrom_X8_comeTo rfl rfl rfl (by decide +kernel) ⟨Nat.le_of_ble_eq_true rfl, Nat.le_of_ble_eq_true rfl⟩ rfl (by first | omega | with_reducible rfl) hs_8.1 rfl (Nat.le_of_ble_eq_true rfl) ⟨Nat.zero_le _, Nat.zero_le _⟩ dX8_walkFrom_67 rfl (fun g_14 hp_15 => ?_)
    obtain ⟨hs_16, hf_17⟩ := hp_15
    have hn_18 : vNet cy B g_14 nb cb tf ((R : Nat) : Int) nver G := vNet_fr hn_9 (fun q h1 h2 => hf_17 q (by omega))
    have hc_19 : vCol cy B g_14 cb sets n cver T X V Wy := vCol_fr hc_10 (fun q h1 h2 => hf_17 q (by omega))
    have hfr_20 : ∀ q, (q < sb ∨ sb + 3 ≤ q) → g_14 q = g q := fun q hq => (hf_17 q (by omega)).trans (hfr_11 q hq)
    refine w_iinc 7 [(8, .int (zI (((((lo (clL T V (j + 1) 0) (R - a)) + k) : Nat) : Int) + 1))), (0, .ref (B + sb)), (1, .int (zI ((j : Nat) : Int))), (2, .int (zI ((a : Nat) : Int))), (3, .int (zI s)), (4, .long (zJ w)), (6, .int (zI (((V ((j : Nat) : Int)).toNat : Nat) : Int))), (7, .int (zI ((min (T ((j : Nat) : Int)).toNat (R - a) : Nat) : Int)))] dX8_walkFrom_70 rfl (by decide) rfl ?_
    refine w_goto 32 dX8_walkFrom_73 (by decide) ?_
    refine w_sub [(0, .ref (B + sb)), (1, .int (zI ((j : Nat) : Int))), (2, .int (zI ((a : Nat) : Int))), (3, .int (zI s)), (4, .long (zJ w)), (6, .int (zI (((V ((j : Nat) : Int)).toNat : Nat) : Int))), (7, .int (zI ((min (T ((j : Nat) : Int)).toNat (R - a) : Nat) : Int))), (8, .int (zI (((((lo (clL T V (j + 1) 0) (R - a)) + k) : Nat) : Int) + 1)))] [1, 2, 3, 4, 5, 6, 7, 0] rfl ?_
    refine w_lv (lv' := [(0, .ref (B + sb)), (1, .int (zI ((j : Nat) : Int))), (2, .int (zI ((a : Nat) : Int))), (3, .int (zI s)), (4, .long (zJ w)), (6, .int (zI (((V ((j : Nat) : Int)).toNat : Nat) : Int))), (7, .int (zI ((min (T ((j : Nat) : Int)).toNat (R - a) : Nat) : Int))), (8, .int (zI ((((lo (clL T V (j + 1) 0) (R - a)) + (k + 1)) : Nat) : Int)))]) (lc_s (lc_s (lc_s (lc_s (lc_s (lc_s (lc_s (lc_i (by first | omega | with_reducible rfl) rfl)))))))) ?_
    exact ih_32 (k + 1) g_14 ⟨(by have h9 := hs_16; rw [Nat.sub_add_eq, gW_s, gT_s] at h9; exact h9), hn_18, hc_19, hfr_20, (by unfold lo nn at *; omega)⟩ (by unfold lo nn at *; omega)
set_option maxHeartbeats 4000000 in
set_option maxRecDepth 100000 in
theorem c_X8_walkFrom_t2 {l : Launch} {D : va_G} {cy : Nat → ClassId} {B N : Nat} {g : Nat → va_E} {sb : Nat} {W Tb : Int → Int} {le gr sver : Int} {nb cb : Nat} {tf : Int → Int} {nver : Int} {G : Nat → Int → Int} {sets n R : Nat} {cver : Int} {T X V : Int → Int} {Wy : Nat → Int → Int} {j a : Nat} {s w : Int} (hs : vSum cy B g sb cb nb W Tb le gr sver) (hn : vNet cy B g nb cb tf ((R : Nat) : Int) nver G) (hc : vCol cy B g cb sets n cver T X V Wy) (hSB : sb + 3 ≤ N) (hd1 : sb + 3 ≤ nb ∨ nb + 11 ≤ sb) (hd2 : sb + 3 ≤ cb ∨ cb + 10 ≤ sb) (hNB : nb + 11 ≤ N) (hCB : cb + 10 ≤ N) (hok : okT T V n) (hR : R ≤ 60) (hNF : NF T V n R G) (htf : ∀ j : Nat, j ≤ 5 → tf ((j : Nat) : Int) = ((tsum (clL T V j (n - j)) : Nat) : Int)) (hWy : ∀ j : Nat, j < n → ∀ x : Nat, x ≤ 12 → Wy j ((x : Nat) : Int) = ((ch (T ((j : Nat) : Int)).toNat x : Nat) : Int)) (hjm : j + 2 = n) (hth : thr T V n R j a) (hsr : 0 ≤ s ∧ s + 9 * ((tsum (clL T V j 2) : Nat) : Int) ≤ 540) : CTv l yX8_walkFrom wsX8_walkFrom (rmo 10 274) D cy B N g [.ref (B + sb), .int (zI ((j : Nat) : Int)), .int (zI ((a : Nat) : Int)), .int (zI s), .long (zJ w)] (fun g' => vSum cy B g' sb cb nb (aW W (clL T V j 2) (R - a) s w) (aT Tb (clL T V j 2) (R - a) s) le gr sver ∧ (∀ q, (q < sb ∨ sb + 3 ≤ q) → g' q = g q)) := by
  refine WW_of (cc := cX8_walkFrom) (maxL := 9) (ret := none) (own := RX8) (by decide) rfl rfl (Nat.le_of_ble_eq_true rfl) rfl ?_
  intro pp ee ss mm bl me co hmn
  have hfr_0 : ∀ q, (q < sb ∨ sb + 3 ≤ q) → g q = g q := fun _ _ => rfl
  have hn5 : n ≤ 5 := hok.1
  have htR := hth.2.1
  have hq1 := hok.2 ((j : Nat) : Int) (by omega) (by omega)
  have ht3 : tf (((j : Nat) : Int) + 1) = ((tsum (clL T V (j + 1) 1) : Nat) : Int) := by
    have h9 := htf (j + 1) (by omega)
    rw [show n - (j + 1) = 1 by omega] at h9
    exact h9
  have htfr : ∀ i : Int, 0 ≤ i → i ≤ 5 → 0 ≤ tf i ∧ tf i ≤ 60 := fun i h1 h2 => by
    obtain ⟨k, rfl⟩ := Int.eq_ofNat_of_zero_le h1
    have h3 := htf k (by omega)
    by_cases hk : k ≤ n
    · have h4 := okT_ts hok (m := n - k) (j := k) (by omega)
      omega
    · rw [show n - k = 0 by omega] at h3
      rw [clL, tsum] at h3
      omega
  have hts := thr_ts hth hjm
  have hts2 : tsum (clL T V j 2) = (T ((j : Nat) : Int)).toNat + tsum (clL T V (j + 1) 1) := rfl
  refine w_aload_n dX8_walkFrom_0 rfl 0 rfl ?_
  refine w_get (i := 0) (T := TX8) (NF := 7) sb (by first | omega | with_reducible rfl) hs.1 rfl (fun _ h => (List.mem_cons_of_mem _ (List.mem_append_left _ (List.mem_append_left _ (List.mem_append_right _ h))))) (by decide) (List.mem_of_getElem? (i := 1) rfl) rfl dX8_walkFrom_1 ?_
  refine w_iload_n dX8_walkFrom_4 rfl 1 rfl ?_
  refine w_calli (As := [.int (zI ((j : Nat) : Int))]) (rest := []) (n := 1) (c_X0_scoreOf hc (by first | omega | with_reducible rfl) (by first | omega | with_reducible rfl) (by first | omega | with_reducible rfl)) gX8_walkFrom_X0_scoreOf rfl rfl rfl (by decide +kernel) ⟨Nat.le_of_ble_eq_true rfl, Nat.le_of_ble_eq_true rfl⟩ rfl (by first | omega | with_reducible rfl) hc.1 rfl (Nat.le_of_ble_eq_true rfl) ⟨Nat.zero_le _, Nat.zero_le _⟩ dX8_walkFrom_5 rfl (fun g_1 hp_2 => ?_)
  subst g_1
  refine w_as (st' := [.int (zI (((V ((j : Nat) : Int)).toNat : Nat) : Int))]) (sc_i (by rw [inA_in (by omega)]; omega) rfl) ?_
  refine w_istore [(6, .int (zI (((V ((j : Nat) : Int)).toNat : Nat) : Int))), (0, .ref (B + sb)), (1, .int (zI ((j : Nat) : Int))), (2, .int (zI ((a : Nat) : Int))), (3, .int (zI s)), (4, .long (zJ w))] dX8_walkFrom_8 (by decide) rfl ?_
  refine w_aload_n dX8_walkFrom_10 rfl 1 rfl ?_
  refine w_get (i := 1) (T := TX8) (NF := 7) sb (by first | omega | with_reducible rfl) hs.1 rfl (fun _ h => (List.mem_cons_of_mem _ (List.mem_append_left _ (List.mem_append_left _ (List.mem_append_right _ h))))) (by decide) (List.mem_of_getElem? (i := 2) rfl) rfl dX8_walkFrom_11 ?_
  refine w_iload_n dX8_walkFrom_14 rfl 2 rfl ?_
  refine w_iload_n dX8_walkFrom_15 rfl 3 rfl ?_
  refine w_calli (As := [.int (zI ((j : Nat) : Int)), .int (zI ((a : Nat) : Int))]) (rest := []) (n := 2) (c_X2_most hn hc (by first | omega | with_reducible rfl) (by first | omega | with_reducible rfl) hn5 (by omega) (by omega) (by first | omega | with_reducible rfl) (by first | omega | with_reducible rfl)) gX8_walkFrom_X2_most rfl rfl rfl (by decide +kernel) ⟨Nat.le_of_ble_eq_true rfl, Nat.le_of_ble_eq_true rfl⟩ rfl (by first | omega | with_reducible rfl) hn.1 rfl (Nat.le_of_ble_eq_true rfl) ⟨Nat.zero_le _, Nat.zero_le _⟩ dX8_walkFrom_16 rfl (fun g_3 hp_4 => ?_)
  subst g_3
  refine w_as (st' := [.int (zI ((min (T ((j : Nat) : Int)).toNat (R - a) : Nat) : Int))]) (sc_i (by first | omega | with_reducible rfl) rfl) ?_
  refine w_istore [(7, .int (zI ((min (T ((j : Nat) : Int)).toNat (R - a) : Nat) : Int))), (6, .int (zI (((V ((j : Nat) : Int)).toNat : Nat) : Int))), (0, .ref (B + sb)), (1, .int (zI ((j : Nat) : Int))), (2, .int (zI ((a : Nat) : Int))), (3, .int (zI s)), (4, .long (zJ w))] dX8_walkFrom_19 (by decide) rfl ?_
  refine w_aload_n dX8_walkFrom_21 rfl 2 rfl ?_
  refine w_get (i := 1) (T := TX8) (NF := 7) sb (by first | omega | with_reducible rfl) hs.1 rfl (fun _ h => (List.mem_cons_of_mem _ (List.mem_append_left _ (List.mem_append_left _ (List.mem_append_right _ h))))) (by decide) (List.mem_of_getElem? (i := 2) rfl) rfl dX8_walkFrom_22 ?_
  refine w_iload_n dX8_walkFrom_25 rfl 3 rfl ?_
  refine w_iload_n dX8_walkFrom_26 rfl 4 rfl ?_
  refine w_calli (As := [.int (zI ((j : Nat) : Int)), .int (zI ((a : Nat) : Int))]) (rest := []) (n := 2) (c_X2_fewest hn (by first | omega | with_reducible rfl) (by omega) htfr (by first | omega | with_reducible rfl) (by first | omega | with_reducible rfl)) gX8_walkFrom_X2_fewest rfl rfl rfl (by decide +kernel) ⟨Nat.le_of_ble_eq_true rfl, Nat.le_of_ble_eq_true rfl⟩ rfl (by first | omega | with_reducible rfl) hn.1 rfl (Nat.le_of_ble_eq_true rfl) ⟨Nat.zero_le _, Nat.zero_le _⟩ dX8_walkFrom_27 rfl (fun g_5 hp_6 => ?_)
  subst g_5
  refine w_as (st' := [.int (zI (((lo (clL T V (j + 1) 1) (R - a)) : Nat) : Int))]) (sc_i (by rw [ht3]; unfold lo; omega) rfl) ?_
  refine w_istore [(8, .int (zI (((lo (clL T V (j + 1) 1) (R - a)) : Nat) : Int))), (7, .int (zI ((min (T ((j : Nat) : Int)).toNat (R - a) : Nat) : Int))), (6, .int (zI (((V ((j : Nat) : Int)).toNat : Nat) : Int))), (0, .ref (B + sb)), (1, .int (zI ((j : Nat) : Int))), (2, .int (zI ((a : Nat) : Int))), (3, .int (zI s)), (4, .long (zJ w))] dX8_walkFrom_30 (by decide) rfl ?_
  refine w_sub [(0, .ref (B + sb)), (1, .int (zI ((j : Nat) : Int))), (2, .int (zI ((a : Nat) : Int))), (3, .int (zI s)), (4, .long (zJ w)), (6, .int (zI (((V ((j : Nat) : Int)).toNat : Nat) : Int))), (7, .int (zI ((min (T ((j : Nat) : Int)).toNat (R - a) : Nat) : Int))), (8, .int (zI (((lo (clL T V (j + 1) 1) (R - a)) : Nat) : Int)))] [3, 4, 5, 6, 7, 2, 1, 0] rfl ?_
  refine w_lv (lv' := [(0, .ref (B + sb)), (1, .int (zI ((j : Nat) : Int))), (2, .int (zI ((a : Nat) : Int))), (3, .int (zI s)), (4, .long (zJ w)), (6, .int (zI (((V ((j : Nat) : Int)).toNat : Nat) : Int))), (7, .int (zI ((min (T ((j : Nat) : Int)).toNat (R - a) : Nat) : Int))), (8, .int (zI ((((lo (clL T V (j + 1) 1) (R - a)) + 0) : Nat) : Int)))]) (lc_s (lc_s (lc_s (lc_s (lc_s (lc_s (lc_s (lc_i (by first | omega | with_reducible rfl) rfl)))))))) ?_
  refine w_loop2 (fun (k : Nat) (gl_7 : (Nat → va_E)) => vSum cy B gl_7 sb cb nb (gW W ((T ((j : Nat) : Int)).toNat, (V ((j : Nat) : Int)).toNat) (clL T V (j + 1) 1) (R - a) s w k) (gT Tb ((T ((j : Nat) : Int)).toNat, (V ((j : Nat) : Int)).toNat) (clL T V (j + 1) 1) (R - a) s k) le gr sver ∧ vNet cy B gl_7 nb cb tf ((R : Nat) : Int) nver G ∧ vCol cy B gl_7 cb sets n cver T X V Wy ∧ (∀ q, (q < sb ∨ sb + 3 ≤ q) → gl_7 q = g q) ∧ k ≤ nn ((T ((j : Nat) : Int)).toNat, (V ((j : Nat) : Int)).toNat) (clL T V (j + 1) 1) (R - a)) (fun (k : Nat) (gl_7 : (Nat → va_E)) => nn ((T ((j : Nat) : Int)).toNat, (V ((j : Nat) : Int)).toNat) (clL T V (j + 1) 1) (R - a) - k) (fun (k : Nat) (gl_7 : (Nat → va_E)) => gl_7) (fun (k : Nat) (gl_7 : (Nat → va_E)) => [(0, .ref (B + sb)), (1, .int (zI ((j : Nat) : Int))), (2, .int (zI ((a : Nat) : Int))), (3, .int (zI s)), (4, .long (zJ w)), (6, .int (zI (((V ((j : Nat) : Int)).toNat : Nat) : Int))), (7, .int (zI ((min (T ((j : Nat) : Int)).toNat (R - a) : Nat) : Int))), (8, .int (zI ((((lo (clL T V (j + 1) 1) (R - a)) + k) : Nat) : Int)))]) ?_ 0 g ⟨(by have h9 := hs; rw [gW_0, gT_0]; exact h9), hn, hc, hfr_0, (Nat.zero_le _)⟩
  rintro k gl_7 ⟨hs_8, hn_9, hc_10, hfr_11, hk⟩ ih_32
  have hlo : lo (clL T V (j + 1) 1) (R - a) ≤ R - a ∧ nn ((T ((j : Nat) : Int)).toNat, (V ((j : Nat) : Int)).toNat) (clL T V (j + 1) 1) (R - a) ≤ 13 := by unfold lo nn; omega
  refine w_iload dX8_walkFrom_32 7 rfl ?_
  refine w_iload dX8_walkFrom_34 6 rfl ?_
  refine w_icmp_gt 76 dX8_walkFrom_36 (by decide) (by first | omega | with_reducible rfl) (by first | omega | with_reducible rfl) (fun c_36 => ?_) (fun c_36 => ?_)
  · have hk9 : k = nn ((T ((j : Nat) : Int)).toNat, (V ((j : Nat) : Int)).toNat) (clL T V (j + 1) 1) (R - a) := by unfold lo nn at *; omega
    exact w_vret dX8_walkFrom_76 rfl ⟨(by have h9 := hs_8; rw [hk9] at h9; exact h9), hfr_11⟩
  · have hx : lo (clL T V (j + 1) 1) (R - a) + k ≤ (T ((j : Nat) : Int)).toNat := by omega
    have hxv : 0 ≤ ((((lo (clL T V (j + 1) 1) (R - a)) + k) : Nat) : Int) * (((V ((j : Nat) : Int)).toNat : Nat) : Int) ∧ ((((lo (clL T V (j + 1) 1) (R - a)) + k) : Nat) : Int) * (((V ((j : Nat) : Int)).toNat : Nat) : Int) ≤ ((((lo (clL T V (j + 1) 1) (R - a)) + k) : Nat) : Int) * 9 := ⟨Int.mul_nonneg (by omega) (by omega), Int.mul_le_mul_of_nonneg_left (by omega) (by omega)⟩
    refine w_aload_n dX8_walkFrom_39 rfl 0 rfl ?_
    refine w_iload_n dX8_walkFrom_40 rfl 1 rfl ?_
    refine w_iconst dX8_walkFrom_41 ?_
    refine w_iadd dX8_walkFrom_42 ?_
    refine w_iload_n dX8_walkFrom_43 rfl 2 rfl ?_
    refine w_iload dX8_walkFrom_44 7 rfl ?_
    refine w_iadd dX8_walkFrom_46 ?_
    refine w_iload_n dX8_walkFrom_47 rfl 3 rfl ?_
    refine w_iload dX8_walkFrom_48 7 rfl ?_
    refine w_iload dX8_walkFrom_50 5 rfl ?_
    refine w_imul dX8_walkFrom_52 ?_
    refine w_iadd dX8_walkFrom_53 ?_
    refine w_lload dX8_walkFrom_54 4 rfl ?_
    refine w_aload_n dX8_walkFrom_56 rfl 0 rfl ?_
    refine w_get (i := 0) (T := TX8) (NF := 7) sb (by first | omega | with_reducible rfl) hs_8.1 rfl (fun _ h => (List.mem_cons_of_mem _ (List.mem_append_left _ (List.mem_append_left _ (List.mem_append_right _ h))))) (by decide) (List.mem_of_getElem? (i := 1) rfl) rfl dX8_walkFrom_57 ?_
    refine w_iload_n dX8_walkFrom_60 rfl 1 rfl ?_
    refine w_iload dX8_walkFrom_61 7 rfl ?_
    refine w_calll (As := [.int (zI ((j : Nat) : Int)), .int (zI ((((lo (clL T V (j + 1) 1) (R - a)) + k) : Nat) : Int))]) (rest := [.long (zJ w), .int (zI (s + (((((lo (clL T V (j + 1) 1) (R - a)) + k) : Nat) : Int) * (((V ((j : Nat) : Int)).toNat : Nat) : Int)))), .int (zI (((a : Nat) : Int) + ((((lo (clL T V (j + 1) 1) (R - a)) + k) : Nat) : Int))), .int (zI (((j : Nat) : Int) + 1)), .ref (B + sb)]) (n := 2) (c_X0_waysOf hc_10 (by first | omega | with_reducible rfl) (by first | omega | with_reducible rfl) (by first | omega | with_reducible rfl) (by first | omega | with_reducible rfl)) gX8_walkFrom_X0_waysOf rfl rfl rfl (by decide +kernel) ⟨Nat.le_of_ble_eq_true rfl, Nat.le_of_ble_eq_true rfl⟩ rfl (by first | omega | with_reducible rfl) hc_10.1 rfl (Nat.le_of_ble_eq_true rfl) ⟨Nat.zero_le _, Nat.zero_le _⟩ dX8_walkFrom_63 rfl (fun g_12 hp_13 => ?_)
    subst g_12
    refine w_as (st' := [.long (zJ ((ch (T ((j : Nat) : Int)).toNat (lo (clL T V (j + 1) 1) (R - a) + k) : Nat) : Int)), .long (zJ w), .int (zI (s + (((((lo (clL T V (j + 1) 1) (R - a)) + k) : Nat) : Int) * (((V ((j : Nat) : Int)).toNat : Nat) : Int)))), .int (zI (((a : Nat) : Int) + ((((lo (clL T V (j + 1) 1) (R - a)) + k) : Nat) : Int))), .int (zI (((j : Nat) : Int) + 1)), .ref (B + sb)]) (sc_l (by rw [wyA_in (by omega), Int.toNat_natCast]; exact hWy _ (by omega) _ (by omega)) rfl) ?_
    refine w_lmul dX8_walkFrom_66 ?_
    refine w_as (st' := [.long (zJ (w * ((ch (T ((j : Nat) : Int)).toNat (lo (clL T V (j + 1) 1) (R - a) + k) : Nat) : Int))), .int (zI (s + (((((lo (clL T V (j + 1) 1) (R - a)) + k) : Nat) : Int) * (((V ((j : Nat) : Int)).toNat : Nat) : Int)))), .int (zI (((a + (lo (clL T V (j + 1) 1) (R - a) + k)) : Nat) : Int)), .int (zI (((j + 1) : Nat) : Int)), .ref (B + sb)]) (lc_s (lc_s (sc_i (by first | omega | with_reducible rfl) (sc_i (by first | omega | with_reducible rfl) rfl)))) ?_
    refine w_callv (As := [.int (zI (((j + 1) : Nat) : Int)), .int (zI (((a + (lo (clL T V (j + 1) 1) (R - a) + k)) : Nat) : Int)), .int (zI (s + (((((lo (clL T V (j + 1) 1) (R - a)) + k) : Nat) : Int) * (((V ((j : Nat) : Int)).toNat : Nat) : Int)))), .long (zJ (w * ((ch (T ((j : Nat) : Int)).toNat (lo (clL T V (j + 1) 1) (R - a) + k) : Nat) : Int)))]) (rest := []) (n := 4) (c_X8_comeTo_1 (j := (j + 1)) (a := (a + (lo (clL T V (j + 1) 1) (R - a) + k))) hs_8 hn_9 hc_10 (by first | omega | with_reducible rfl) (by first | omega | with_reducible rfl) (by first | omega | with_reducible rfl) (by first | omega | with_reducible rfl) (by first | omega | with_reducible rfl) hok (by first | omega | with_reducible rfl) hNF htf hWy (by first | omega | with_reducible rfl) (thr_next hth hjm (by omega) hx (by omega)) (by first | omega | with_reducible rfl)) gX8_walkFrom_X8_comeTo rfl rfl rfl (by decide +kernel) ⟨Nat.le_of_ble_eq_true rfl, Nat.le_of_ble_eq_true rfl⟩ rfl (by first | omega | with_reducible rfl) hs_8.1 rfl (Nat.le_of_ble_eq_true rfl) ⟨Nat.zero_le _, Nat.zero_le _⟩ dX8_walkFrom_67 rfl (fun g_14 hp_15 => ?_)
    obtain ⟨hs_16, hf_17⟩ := hp_15
    have hn_18 : vNet cy B g_14 nb cb tf ((R : Nat) : Int) nver G := vNet_fr hn_9 (fun q h1 h2 => hf_17 q (by omega))
    have hc_19 : vCol cy B g_14 cb sets n cver T X V Wy := vCol_fr hc_10 (fun q h1 h2 => hf_17 q (by omega))
    have hfr_20 : ∀ q, (q < sb ∨ sb + 3 ≤ q) → g_14 q = g q := fun q hq => (hf_17 q (by omega)).trans (hfr_11 q hq)
    refine w_iinc 7 [(8, .int (zI (((((lo (clL T V (j + 1) 1) (R - a)) + k) : Nat) : Int) + 1))), (0, .ref (B + sb)), (1, .int (zI ((j : Nat) : Int))), (2, .int (zI ((a : Nat) : Int))), (3, .int (zI s)), (4, .long (zJ w)), (6, .int (zI (((V ((j : Nat) : Int)).toNat : Nat) : Int))), (7, .int (zI ((min (T ((j : Nat) : Int)).toNat (R - a) : Nat) : Int)))] dX8_walkFrom_70 rfl (by decide) rfl ?_
    refine w_goto 32 dX8_walkFrom_73 (by decide) ?_
    refine w_sub [(0, .ref (B + sb)), (1, .int (zI ((j : Nat) : Int))), (2, .int (zI ((a : Nat) : Int))), (3, .int (zI s)), (4, .long (zJ w)), (6, .int (zI (((V ((j : Nat) : Int)).toNat : Nat) : Int))), (7, .int (zI ((min (T ((j : Nat) : Int)).toNat (R - a) : Nat) : Int))), (8, .int (zI (((((lo (clL T V (j + 1) 1) (R - a)) + k) : Nat) : Int) + 1)))] [1, 2, 3, 4, 5, 6, 7, 0] rfl ?_
    refine w_lv (lv' := [(0, .ref (B + sb)), (1, .int (zI ((j : Nat) : Int))), (2, .int (zI ((a : Nat) : Int))), (3, .int (zI s)), (4, .long (zJ w)), (6, .int (zI (((V ((j : Nat) : Int)).toNat : Nat) : Int))), (7, .int (zI ((min (T ((j : Nat) : Int)).toNat (R - a) : Nat) : Int))), (8, .int (zI ((((lo (clL T V (j + 1) 1) (R - a)) + (k + 1)) : Nat) : Int)))]) (lc_s (lc_s (lc_s (lc_s (lc_s (lc_s (lc_s (lc_i (by first | omega | with_reducible rfl) rfl)))))))) ?_
    exact ih_32 (k + 1) g_14 ⟨(by have h9 := hs_16; rw [Nat.sub_add_eq, gW_s, gT_s] at h9; exact h9), hn_18, hc_19, hfr_20, (by unfold lo nn at *; omega)⟩ (by unfold lo nn at *; omega)
set_option maxHeartbeats 4000000 in
set_option maxRecDepth 100000 in
theorem c_X8_walkFrom_t3 {l : Launch} {D : va_G} {cy : Nat → ClassId} {B N : Nat} {g : Nat → va_E} {sb : Nat} {W Tb : Int → Int} {le gr sver : Int} {nb cb : Nat} {tf : Int → Int} {nver : Int} {G : Nat → Int → Int} {sets n R : Nat} {cver : Int} {T X V : Int → Int} {Wy : Nat → Int → Int} {j a : Nat} {s w : Int} (hs : vSum cy B g sb cb nb W Tb le gr sver) (hn : vNet cy B g nb cb tf ((R : Nat) : Int) nver G) (hc : vCol cy B g cb sets n cver T X V Wy) (hSB : sb + 3 ≤ N) (hd1 : sb + 3 ≤ nb ∨ nb + 11 ≤ sb) (hd2 : sb + 3 ≤ cb ∨ cb + 10 ≤ sb) (hNB : nb + 11 ≤ N) (hCB : cb + 10 ≤ N) (hok : okT T V n) (hR : R ≤ 60) (hNF : NF T V n R G) (htf : ∀ j : Nat, j ≤ 5 → tf ((j : Nat) : Int) = ((tsum (clL T V j (n - j)) : Nat) : Int)) (hWy : ∀ j : Nat, j < n → ∀ x : Nat, x ≤ 12 → Wy j ((x : Nat) : Int) = ((ch (T ((j : Nat) : Int)).toNat x : Nat) : Int)) (hjm : j + 3 = n) (hth : thr T V n R j a) (hsr : 0 ≤ s ∧ s + 9 * ((tsum (clL T V j 3) : Nat) : Int) ≤ 540) : CTv l yX8_walkFrom wsX8_walkFrom (rmo 10 274) D cy B N g [.ref (B + sb), .int (zI ((j : Nat) : Int)), .int (zI ((a : Nat) : Int)), .int (zI s), .long (zJ w)] (fun g' => vSum cy B g' sb cb nb (aW W (clL T V j 3) (R - a) s w) (aT Tb (clL T V j 3) (R - a) s) le gr sver ∧ (∀ q, (q < sb ∨ sb + 3 ≤ q) → g' q = g q)) := by
  refine WW_of (cc := cX8_walkFrom) (maxL := 9) (ret := none) (own := RX8) (by decide) rfl rfl (Nat.le_of_ble_eq_true rfl) rfl ?_
  intro pp ee ss mm bl me co hmn
  have hfr_0 : ∀ q, (q < sb ∨ sb + 3 ≤ q) → g q = g q := fun _ _ => rfl
  have hn5 : n ≤ 5 := hok.1
  have htR := hth.2.1
  have hq1 := hok.2 ((j : Nat) : Int) (by omega) (by omega)
  have ht3 : tf (((j : Nat) : Int) + 1) = ((tsum (clL T V (j + 1) 2) : Nat) : Int) := by
    have h9 := htf (j + 1) (by omega)
    rw [show n - (j + 1) = 2 by omega] at h9
    exact h9
  have htfr : ∀ i : Int, 0 ≤ i → i ≤ 5 → 0 ≤ tf i ∧ tf i ≤ 60 := fun i h1 h2 => by
    obtain ⟨k, rfl⟩ := Int.eq_ofNat_of_zero_le h1
    have h3 := htf k (by omega)
    by_cases hk : k ≤ n
    · have h4 := okT_ts hok (m := n - k) (j := k) (by omega)
      omega
    · rw [show n - k = 0 by omega] at h3
      rw [clL, tsum] at h3
      omega
  have hts := thr_ts hth hjm
  have hts2 : tsum (clL T V j 3) = (T ((j : Nat) : Int)).toNat + tsum (clL T V (j + 1) 2) := rfl
  refine w_aload_n dX8_walkFrom_0 rfl 0 rfl ?_
  refine w_get (i := 0) (T := TX8) (NF := 7) sb (by first | omega | with_reducible rfl) hs.1 rfl (fun _ h => (List.mem_cons_of_mem _ (List.mem_append_left _ (List.mem_append_left _ (List.mem_append_right _ h))))) (by decide) (List.mem_of_getElem? (i := 1) rfl) rfl dX8_walkFrom_1 ?_
  refine w_iload_n dX8_walkFrom_4 rfl 1 rfl ?_
  refine w_calli (As := [.int (zI ((j : Nat) : Int))]) (rest := []) (n := 1) (c_X0_scoreOf hc (by first | omega | with_reducible rfl) (by first | omega | with_reducible rfl) (by first | omega | with_reducible rfl)) gX8_walkFrom_X0_scoreOf rfl rfl rfl (by decide +kernel) ⟨Nat.le_of_ble_eq_true rfl, Nat.le_of_ble_eq_true rfl⟩ rfl (by first | omega | with_reducible rfl) hc.1 rfl (Nat.le_of_ble_eq_true rfl) ⟨Nat.zero_le _, Nat.zero_le _⟩ dX8_walkFrom_5 rfl (fun g_1 hp_2 => ?_)
  subst g_1
  refine w_as (st' := [.int (zI (((V ((j : Nat) : Int)).toNat : Nat) : Int))]) (sc_i (by rw [inA_in (by omega)]; omega) rfl) ?_
  refine w_istore [(6, .int (zI (((V ((j : Nat) : Int)).toNat : Nat) : Int))), (0, .ref (B + sb)), (1, .int (zI ((j : Nat) : Int))), (2, .int (zI ((a : Nat) : Int))), (3, .int (zI s)), (4, .long (zJ w))] dX8_walkFrom_8 (by decide) rfl ?_
  refine w_aload_n dX8_walkFrom_10 rfl 1 rfl ?_
  refine w_get (i := 1) (T := TX8) (NF := 7) sb (by first | omega | with_reducible rfl) hs.1 rfl (fun _ h => (List.mem_cons_of_mem _ (List.mem_append_left _ (List.mem_append_left _ (List.mem_append_right _ h))))) (by decide) (List.mem_of_getElem? (i := 2) rfl) rfl dX8_walkFrom_11 ?_
  refine w_iload_n dX8_walkFrom_14 rfl 2 rfl ?_
  refine w_iload_n dX8_walkFrom_15 rfl 3 rfl ?_
  refine w_calli (As := [.int (zI ((j : Nat) : Int)), .int (zI ((a : Nat) : Int))]) (rest := []) (n := 2) (c_X2_most hn hc (by first | omega | with_reducible rfl) (by first | omega | with_reducible rfl) hn5 (by omega) (by omega) (by first | omega | with_reducible rfl) (by first | omega | with_reducible rfl)) gX8_walkFrom_X2_most rfl rfl rfl (by decide +kernel) ⟨Nat.le_of_ble_eq_true rfl, Nat.le_of_ble_eq_true rfl⟩ rfl (by first | omega | with_reducible rfl) hn.1 rfl (Nat.le_of_ble_eq_true rfl) ⟨Nat.zero_le _, Nat.zero_le _⟩ dX8_walkFrom_16 rfl (fun g_3 hp_4 => ?_)
  subst g_3
  refine w_as (st' := [.int (zI ((min (T ((j : Nat) : Int)).toNat (R - a) : Nat) : Int))]) (sc_i (by first | omega | with_reducible rfl) rfl) ?_
  refine w_istore [(7, .int (zI ((min (T ((j : Nat) : Int)).toNat (R - a) : Nat) : Int))), (6, .int (zI (((V ((j : Nat) : Int)).toNat : Nat) : Int))), (0, .ref (B + sb)), (1, .int (zI ((j : Nat) : Int))), (2, .int (zI ((a : Nat) : Int))), (3, .int (zI s)), (4, .long (zJ w))] dX8_walkFrom_19 (by decide) rfl ?_
  refine w_aload_n dX8_walkFrom_21 rfl 2 rfl ?_
  refine w_get (i := 1) (T := TX8) (NF := 7) sb (by first | omega | with_reducible rfl) hs.1 rfl (fun _ h => (List.mem_cons_of_mem _ (List.mem_append_left _ (List.mem_append_left _ (List.mem_append_right _ h))))) (by decide) (List.mem_of_getElem? (i := 2) rfl) rfl dX8_walkFrom_22 ?_
  refine w_iload_n dX8_walkFrom_25 rfl 3 rfl ?_
  refine w_iload_n dX8_walkFrom_26 rfl 4 rfl ?_
  refine w_calli (As := [.int (zI ((j : Nat) : Int)), .int (zI ((a : Nat) : Int))]) (rest := []) (n := 2) (c_X2_fewest hn (by first | omega | with_reducible rfl) (by omega) htfr (by first | omega | with_reducible rfl) (by first | omega | with_reducible rfl)) gX8_walkFrom_X2_fewest rfl rfl rfl (by decide +kernel) ⟨Nat.le_of_ble_eq_true rfl, Nat.le_of_ble_eq_true rfl⟩ rfl (by first | omega | with_reducible rfl) hn.1 rfl (Nat.le_of_ble_eq_true rfl) ⟨Nat.zero_le _, Nat.zero_le _⟩ dX8_walkFrom_27 rfl (fun g_5 hp_6 => ?_)
  subst g_5
  refine w_as (st' := [.int (zI (((lo (clL T V (j + 1) 2) (R - a)) : Nat) : Int))]) (sc_i (by rw [ht3]; unfold lo; omega) rfl) ?_
  refine w_istore [(8, .int (zI (((lo (clL T V (j + 1) 2) (R - a)) : Nat) : Int))), (7, .int (zI ((min (T ((j : Nat) : Int)).toNat (R - a) : Nat) : Int))), (6, .int (zI (((V ((j : Nat) : Int)).toNat : Nat) : Int))), (0, .ref (B + sb)), (1, .int (zI ((j : Nat) : Int))), (2, .int (zI ((a : Nat) : Int))), (3, .int (zI s)), (4, .long (zJ w))] dX8_walkFrom_30 (by decide) rfl ?_
  refine w_sub [(0, .ref (B + sb)), (1, .int (zI ((j : Nat) : Int))), (2, .int (zI ((a : Nat) : Int))), (3, .int (zI s)), (4, .long (zJ w)), (6, .int (zI (((V ((j : Nat) : Int)).toNat : Nat) : Int))), (7, .int (zI ((min (T ((j : Nat) : Int)).toNat (R - a) : Nat) : Int))), (8, .int (zI (((lo (clL T V (j + 1) 2) (R - a)) : Nat) : Int)))] [3, 4, 5, 6, 7, 2, 1, 0] rfl ?_
  refine w_lv (lv' := [(0, .ref (B + sb)), (1, .int (zI ((j : Nat) : Int))), (2, .int (zI ((a : Nat) : Int))), (3, .int (zI s)), (4, .long (zJ w)), (6, .int (zI (((V ((j : Nat) : Int)).toNat : Nat) : Int))), (7, .int (zI ((min (T ((j : Nat) : Int)).toNat (R - a) : Nat) : Int))), (8, .int (zI ((((lo (clL T V (j + 1) 2) (R - a)) + 0) : Nat) : Int)))]) (lc_s (lc_s (lc_s (lc_s (lc_s (lc_s (lc_s (lc_i (by first | omega | with_reducible rfl) rfl)))))))) ?_
  refine w_loop2 (fun (k : Nat) (gl_7 : (Nat → va_E)) => vSum cy B gl_7 sb cb nb (gW W ((T ((j : Nat) : Int)).toNat, (V ((j : Nat) : Int)).toNat) (clL T V (j + 1) 2) (R - a) s w k) (gT Tb ((T ((j : Nat) : Int)).toNat, (V ((j : Nat) : Int)).toNat) (clL T V (j + 1) 2) (R - a) s k) le gr sver ∧ vNet cy B gl_7 nb cb tf ((R : Nat) : Int) nver G ∧ vCol cy B gl_7 cb sets n cver T X V Wy ∧ (∀ q, (q < sb ∨ sb + 3 ≤ q) → gl_7 q = g q) ∧ k ≤ nn ((T ((j : Nat) : Int)).toNat, (V ((j : Nat) : Int)).toNat) (clL T V (j + 1) 2) (R - a)) (fun (k : Nat) (gl_7 : (Nat → va_E)) => nn ((T ((j : Nat) : Int)).toNat, (V ((j : Nat) : Int)).toNat) (clL T V (j + 1) 2) (R - a) - k) (fun (k : Nat) (gl_7 : (Nat → va_E)) => gl_7) (fun (k : Nat) (gl_7 : (Nat → va_E)) => [(0, .ref (B + sb)), (1, .int (zI ((j : Nat) : Int))), (2, .int (zI ((a : Nat) : Int))), (3, .int (zI s)), (4, .long (zJ w)), (6, .int (zI (((V ((j : Nat) : Int)).toNat : Nat) : Int))), (7, .int (zI ((min (T ((j : Nat) : Int)).toNat (R - a) : Nat) : Int))), (8, .int (zI ((((lo (clL T V (j + 1) 2) (R - a)) + k) : Nat) : Int)))]) ?_ 0 g ⟨(by have h9 := hs; rw [gW_0, gT_0]; exact h9), hn, hc, hfr_0, (Nat.zero_le _)⟩
  rintro k gl_7 ⟨hs_8, hn_9, hc_10, hfr_11, hk⟩ ih_32
  have hlo : lo (clL T V (j + 1) 2) (R - a) ≤ R - a ∧ nn ((T ((j : Nat) : Int)).toNat, (V ((j : Nat) : Int)).toNat) (clL T V (j + 1) 2) (R - a) ≤ 13 := by unfold lo nn; omega
  refine w_iload dX8_walkFrom_32 7 rfl ?_
  refine w_iload dX8_walkFrom_34 6 rfl ?_
  refine w_icmp_gt 76 dX8_walkFrom_36 (by decide) (by first | omega | with_reducible rfl) (by first | omega | with_reducible rfl) (fun c_36 => ?_) (fun c_36 => ?_)
  · have hk9 : k = nn ((T ((j : Nat) : Int)).toNat, (V ((j : Nat) : Int)).toNat) (clL T V (j + 1) 2) (R - a) := by unfold lo nn at *; omega
    exact w_vret dX8_walkFrom_76 rfl ⟨(by have h9 := hs_8; rw [hk9] at h9; exact h9), hfr_11⟩
  · have hx : lo (clL T V (j + 1) 2) (R - a) + k ≤ (T ((j : Nat) : Int)).toNat := by omega
    have hxv : 0 ≤ ((((lo (clL T V (j + 1) 2) (R - a)) + k) : Nat) : Int) * (((V ((j : Nat) : Int)).toNat : Nat) : Int) ∧ ((((lo (clL T V (j + 1) 2) (R - a)) + k) : Nat) : Int) * (((V ((j : Nat) : Int)).toNat : Nat) : Int) ≤ ((((lo (clL T V (j + 1) 2) (R - a)) + k) : Nat) : Int) * 9 := ⟨Int.mul_nonneg (by omega) (by omega), Int.mul_le_mul_of_nonneg_left (by omega) (by omega)⟩
    refine w_aload_n dX8_walkFrom_39 rfl 0 rfl ?_
    refine w_iload_n dX8_walkFrom_40 rfl 1 rfl ?_
    refine w_iconst dX8_walkFrom_41 ?_
    refine w_iadd dX8_walkFrom_42 ?_
    refine w_iload_n dX8_walkFrom_43 rfl 2 rfl ?_
    refine w_iload dX8_walkFrom_44 7 rfl ?_
    refine w_iadd dX8_walkFrom_46 ?_
    refine w_iload_n dX8_walkFrom_47 rfl 3 rfl ?_
    refine w_iload dX8_walkFrom_48 7 rfl ?_
    refine w_iload dX8_walkFrom_50 5 rfl ?_
    refine w_imul dX8_walkFrom_52 ?_
    refine w_iadd dX8_walkFrom_53 ?_
    refine w_lload dX8_walkFrom_54 4 rfl ?_
    refine w_aload_n dX8_walkFrom_56 rfl 0 rfl ?_
    refine w_get (i := 0) (T := TX8) (NF := 7) sb (by first | omega | with_reducible rfl) hs_8.1 rfl (fun _ h => (List.mem_cons_of_mem _ (List.mem_append_left _ (List.mem_append_left _ (List.mem_append_right _ h))))) (by decide) (List.mem_of_getElem? (i := 1) rfl) rfl dX8_walkFrom_57 ?_
    refine w_iload_n dX8_walkFrom_60 rfl 1 rfl ?_
    refine w_iload dX8_walkFrom_61 7 rfl ?_
    refine w_calll (As := [.int (zI ((j : Nat) : Int)), .int (zI ((((lo (clL T V (j + 1) 2) (R - a)) + k) : Nat) : Int))]) (rest := [.long (zJ w), .int (zI (s + (((((lo (clL T V (j + 1) 2) (R - a)) + k) : Nat) : Int) * (((V ((j : Nat) : Int)).toNat : Nat) : Int)))), .int (zI (((a : Nat) : Int) + ((((lo (clL T V (j + 1) 2) (R - a)) + k) : Nat) : Int))), .int (zI (((j : Nat) : Int) + 1)), .ref (B + sb)]) (n := 2) (c_X0_waysOf hc_10 (by first | omega | with_reducible rfl) (by first | omega | with_reducible rfl) (by first | omega | with_reducible rfl) (by first | omega | with_reducible rfl)) gX8_walkFrom_X0_waysOf rfl rfl rfl (by decide +kernel) ⟨Nat.le_of_ble_eq_true rfl, Nat.le_of_ble_eq_true rfl⟩ rfl (by first | omega | with_reducible rfl) hc_10.1 rfl (Nat.le_of_ble_eq_true rfl) ⟨Nat.zero_le _, Nat.zero_le _⟩ dX8_walkFrom_63 rfl (fun g_12 hp_13 => ?_)
    subst g_12
    refine w_as (st' := [.long (zJ ((ch (T ((j : Nat) : Int)).toNat (lo (clL T V (j + 1) 2) (R - a) + k) : Nat) : Int)), .long (zJ w), .int (zI (s + (((((lo (clL T V (j + 1) 2) (R - a)) + k) : Nat) : Int) * (((V ((j : Nat) : Int)).toNat : Nat) : Int)))), .int (zI (((a : Nat) : Int) + ((((lo (clL T V (j + 1) 2) (R - a)) + k) : Nat) : Int))), .int (zI (((j : Nat) : Int) + 1)), .ref (B + sb)]) (sc_l (by rw [wyA_in (by omega), Int.toNat_natCast]; exact hWy _ (by omega) _ (by omega)) rfl) ?_
    refine w_lmul dX8_walkFrom_66 ?_
    refine w_as (st' := [.long (zJ (w * ((ch (T ((j : Nat) : Int)).toNat (lo (clL T V (j + 1) 2) (R - a) + k) : Nat) : Int))), .int (zI (s + (((((lo (clL T V (j + 1) 2) (R - a)) + k) : Nat) : Int) * (((V ((j : Nat) : Int)).toNat : Nat) : Int)))), .int (zI (((a + (lo (clL T V (j + 1) 2) (R - a) + k)) : Nat) : Int)), .int (zI (((j + 1) : Nat) : Int)), .ref (B + sb)]) (lc_s (lc_s (sc_i (by first | omega | with_reducible rfl) (sc_i (by first | omega | with_reducible rfl) rfl)))) ?_
    refine w_callv (As := [.int (zI (((j + 1) : Nat) : Int)), .int (zI (((a + (lo (clL T V (j + 1) 2) (R - a) + k)) : Nat) : Int)), .int (zI (s + (((((lo (clL T V (j + 1) 2) (R - a)) + k) : Nat) : Int) * (((V ((j : Nat) : Int)).toNat : Nat) : Int)))), .long (zJ (w * ((ch (T ((j : Nat) : Int)).toNat (lo (clL T V (j + 1) 2) (R - a) + k) : Nat) : Int)))]) (rest := []) (n := 4) (c_X8_comeTo_2 (j := (j + 1)) (a := (a + (lo (clL T V (j + 1) 2) (R - a) + k))) hs_8 hn_9 hc_10 (by first | omega | with_reducible rfl) (by first | omega | with_reducible rfl) (by first | omega | with_reducible rfl) (by first | omega | with_reducible rfl) (by first | omega | with_reducible rfl) hok (by first | omega | with_reducible rfl) hNF htf hWy (by first | omega | with_reducible rfl) (thr_next hth hjm (by omega) hx (by omega)) (by first | omega | with_reducible rfl)) gX8_walkFrom_X8_comeTo rfl rfl rfl (by decide +kernel) ⟨Nat.le_of_ble_eq_true rfl, Nat.le_of_ble_eq_true rfl⟩ rfl (by first | omega | with_reducible rfl) hs_8.1 rfl (Nat.le_of_ble_eq_true rfl) ⟨Nat.zero_le _, Nat.zero_le _⟩ dX8_walkFrom_67 rfl (fun g_14 hp_15 => ?_)
    obtain ⟨hs_16, hf_17⟩ := hp_15
    have hn_18 : vNet cy B g_14 nb cb tf ((R : Nat) : Int) nver G := vNet_fr hn_9 (fun q h1 h2 => hf_17 q (by omega))
    have hc_19 : vCol cy B g_14 cb sets n cver T X V Wy := vCol_fr hc_10 (fun q h1 h2 => hf_17 q (by omega))
    have hfr_20 : ∀ q, (q < sb ∨ sb + 3 ≤ q) → g_14 q = g q := fun q hq => (hf_17 q (by omega)).trans (hfr_11 q hq)
    refine w_iinc 7 [(8, .int (zI (((((lo (clL T V (j + 1) 2) (R - a)) + k) : Nat) : Int) + 1))), (0, .ref (B + sb)), (1, .int (zI ((j : Nat) : Int))), (2, .int (zI ((a : Nat) : Int))), (3, .int (zI s)), (4, .long (zJ w)), (6, .int (zI (((V ((j : Nat) : Int)).toNat : Nat) : Int))), (7, .int (zI ((min (T ((j : Nat) : Int)).toNat (R - a) : Nat) : Int)))] dX8_walkFrom_70 rfl (by decide) rfl ?_
    refine w_goto 32 dX8_walkFrom_73 (by decide) ?_
    refine w_sub [(0, .ref (B + sb)), (1, .int (zI ((j : Nat) : Int))), (2, .int (zI ((a : Nat) : Int))), (3, .int (zI s)), (4, .long (zJ w)), (6, .int (zI (((V ((j : Nat) : Int)).toNat : Nat) : Int))), (7, .int (zI ((min (T ((j : Nat) : Int)).toNat (R - a) : Nat) : Int))), (8, .int (zI (((((lo (clL T V (j + 1) 2) (R - a)) + k) : Nat) : Int) + 1)))] [1, 2, 3, 4, 5, 6, 7, 0] rfl ?_
    refine w_lv (lv' := [(0, .ref (B + sb)), (1, .int (zI ((j : Nat) : Int))), (2, .int (zI ((a : Nat) : Int))), (3, .int (zI s)), (4, .long (zJ w)), (6, .int (zI (((V ((j : Nat) : Int)).toNat : Nat) : Int))), (7, .int (zI ((min (T ((j : Nat) : Int)).toNat (R - a) : Nat) : Int))), (8, .int (zI ((((lo (clL T V (j + 1) 2) (R - a)) + (k + 1)) : Nat) : Int)))]) (lc_s (lc_s (lc_s (lc_s (lc_s (lc_s (lc_s (lc_i (by first | omega | with_reducible rfl) rfl)))))))) ?_
    exact ih_32 (k + 1) g_14 ⟨(by have h9 := hs_16; rw [Nat.sub_add_eq, gW_s, gT_s] at h9; exact h9), hn_18, hc_19, hfr_20, (by unfold lo nn at *; omega)⟩ (by unfold lo nn at *; omega)
set_option maxHeartbeats 4000000 in
set_option maxRecDepth 100000 in
theorem c_X8_walkFrom_t4 {l : Launch} {D : va_G} {cy : Nat → ClassId} {B N : Nat} {g : Nat → va_E} {sb : Nat} {W Tb : Int → Int} {le gr sver : Int} {nb cb : Nat} {tf : Int → Int} {nver : Int} {G : Nat → Int → Int} {sets n R : Nat} {cver : Int} {T X V : Int → Int} {Wy : Nat → Int → Int} {j a : Nat} {s w : Int} (hs : vSum cy B g sb cb nb W Tb le gr sver) (hn : vNet cy B g nb cb tf ((R : Nat) : Int) nver G) (hc : vCol cy B g cb sets n cver T X V Wy) (hSB : sb + 3 ≤ N) (hd1 : sb + 3 ≤ nb ∨ nb + 11 ≤ sb) (hd2 : sb + 3 ≤ cb ∨ cb + 10 ≤ sb) (hNB : nb + 11 ≤ N) (hCB : cb + 10 ≤ N) (hok : okT T V n) (hR : R ≤ 60) (hNF : NF T V n R G) (htf : ∀ j : Nat, j ≤ 5 → tf ((j : Nat) : Int) = ((tsum (clL T V j (n - j)) : Nat) : Int)) (hWy : ∀ j : Nat, j < n → ∀ x : Nat, x ≤ 12 → Wy j ((x : Nat) : Int) = ((ch (T ((j : Nat) : Int)).toNat x : Nat) : Int)) (hjm : j + 4 = n) (hth : thr T V n R j a) (hsr : 0 ≤ s ∧ s + 9 * ((tsum (clL T V j 4) : Nat) : Int) ≤ 540) : CTv l yX8_walkFrom wsX8_walkFrom (rmo 10 274) D cy B N g [.ref (B + sb), .int (zI ((j : Nat) : Int)), .int (zI ((a : Nat) : Int)), .int (zI s), .long (zJ w)] (fun g' => vSum cy B g' sb cb nb (aW W (clL T V j 4) (R - a) s w) (aT Tb (clL T V j 4) (R - a) s) le gr sver ∧ (∀ q, (q < sb ∨ sb + 3 ≤ q) → g' q = g q)) := by
  refine WW_of (cc := cX8_walkFrom) (maxL := 9) (ret := none) (own := RX8) (by decide) rfl rfl (Nat.le_of_ble_eq_true rfl) rfl ?_
  intro pp ee ss mm bl me co hmn
  have hfr_0 : ∀ q, (q < sb ∨ sb + 3 ≤ q) → g q = g q := fun _ _ => rfl
  have hn5 : n ≤ 5 := hok.1
  have htR := hth.2.1
  have hq1 := hok.2 ((j : Nat) : Int) (by omega) (by omega)
  have ht3 : tf (((j : Nat) : Int) + 1) = ((tsum (clL T V (j + 1) 3) : Nat) : Int) := by
    have h9 := htf (j + 1) (by omega)
    rw [show n - (j + 1) = 3 by omega] at h9
    exact h9
  have htfr : ∀ i : Int, 0 ≤ i → i ≤ 5 → 0 ≤ tf i ∧ tf i ≤ 60 := fun i h1 h2 => by
    obtain ⟨k, rfl⟩ := Int.eq_ofNat_of_zero_le h1
    have h3 := htf k (by omega)
    by_cases hk : k ≤ n
    · have h4 := okT_ts hok (m := n - k) (j := k) (by omega)
      omega
    · rw [show n - k = 0 by omega] at h3
      rw [clL, tsum] at h3
      omega
  have hts := thr_ts hth hjm
  have hts2 : tsum (clL T V j 4) = (T ((j : Nat) : Int)).toNat + tsum (clL T V (j + 1) 3) := rfl
  refine w_aload_n dX8_walkFrom_0 rfl 0 rfl ?_
  refine w_get (i := 0) (T := TX8) (NF := 7) sb (by first | omega | with_reducible rfl) hs.1 rfl (fun _ h => (List.mem_cons_of_mem _ (List.mem_append_left _ (List.mem_append_left _ (List.mem_append_right _ h))))) (by decide) (List.mem_of_getElem? (i := 1) rfl) rfl dX8_walkFrom_1 ?_
  refine w_iload_n dX8_walkFrom_4 rfl 1 rfl ?_
  refine w_calli (As := [.int (zI ((j : Nat) : Int))]) (rest := []) (n := 1) (c_X0_scoreOf hc (by first | omega | with_reducible rfl) (by first | omega | with_reducible rfl) (by first | omega | with_reducible rfl)) gX8_walkFrom_X0_scoreOf rfl rfl rfl (by decide +kernel) ⟨Nat.le_of_ble_eq_true rfl, Nat.le_of_ble_eq_true rfl⟩ rfl (by first | omega | with_reducible rfl) hc.1 rfl (Nat.le_of_ble_eq_true rfl) ⟨Nat.zero_le _, Nat.zero_le _⟩ dX8_walkFrom_5 rfl (fun g_1 hp_2 => ?_)
  subst g_1
  refine w_as (st' := [.int (zI (((V ((j : Nat) : Int)).toNat : Nat) : Int))]) (sc_i (by rw [inA_in (by omega)]; omega) rfl) ?_
  refine w_istore [(6, .int (zI (((V ((j : Nat) : Int)).toNat : Nat) : Int))), (0, .ref (B + sb)), (1, .int (zI ((j : Nat) : Int))), (2, .int (zI ((a : Nat) : Int))), (3, .int (zI s)), (4, .long (zJ w))] dX8_walkFrom_8 (by decide) rfl ?_
  refine w_aload_n dX8_walkFrom_10 rfl 1 rfl ?_
  refine w_get (i := 1) (T := TX8) (NF := 7) sb (by first | omega | with_reducible rfl) hs.1 rfl (fun _ h => (List.mem_cons_of_mem _ (List.mem_append_left _ (List.mem_append_left _ (List.mem_append_right _ h))))) (by decide) (List.mem_of_getElem? (i := 2) rfl) rfl dX8_walkFrom_11 ?_
  refine w_iload_n dX8_walkFrom_14 rfl 2 rfl ?_
  refine w_iload_n dX8_walkFrom_15 rfl 3 rfl ?_
  refine w_calli (As := [.int (zI ((j : Nat) : Int)), .int (zI ((a : Nat) : Int))]) (rest := []) (n := 2) (c_X2_most hn hc (by first | omega | with_reducible rfl) (by first | omega | with_reducible rfl) hn5 (by omega) (by omega) (by first | omega | with_reducible rfl) (by first | omega | with_reducible rfl)) gX8_walkFrom_X2_most rfl rfl rfl (by decide +kernel) ⟨Nat.le_of_ble_eq_true rfl, Nat.le_of_ble_eq_true rfl⟩ rfl (by first | omega | with_reducible rfl) hn.1 rfl (Nat.le_of_ble_eq_true rfl) ⟨Nat.zero_le _, Nat.zero_le _⟩ dX8_walkFrom_16 rfl (fun g_3 hp_4 => ?_)
  subst g_3
  refine w_as (st' := [.int (zI ((min (T ((j : Nat) : Int)).toNat (R - a) : Nat) : Int))]) (sc_i (by first | omega | with_reducible rfl) rfl) ?_
  refine w_istore [(7, .int (zI ((min (T ((j : Nat) : Int)).toNat (R - a) : Nat) : Int))), (6, .int (zI (((V ((j : Nat) : Int)).toNat : Nat) : Int))), (0, .ref (B + sb)), (1, .int (zI ((j : Nat) : Int))), (2, .int (zI ((a : Nat) : Int))), (3, .int (zI s)), (4, .long (zJ w))] dX8_walkFrom_19 (by decide) rfl ?_
  refine w_aload_n dX8_walkFrom_21 rfl 2 rfl ?_
  refine w_get (i := 1) (T := TX8) (NF := 7) sb (by first | omega | with_reducible rfl) hs.1 rfl (fun _ h => (List.mem_cons_of_mem _ (List.mem_append_left _ (List.mem_append_left _ (List.mem_append_right _ h))))) (by decide) (List.mem_of_getElem? (i := 2) rfl) rfl dX8_walkFrom_22 ?_
  refine w_iload_n dX8_walkFrom_25 rfl 3 rfl ?_
  refine w_iload_n dX8_walkFrom_26 rfl 4 rfl ?_
  refine w_calli (As := [.int (zI ((j : Nat) : Int)), .int (zI ((a : Nat) : Int))]) (rest := []) (n := 2) (c_X2_fewest hn (by first | omega | with_reducible rfl) (by omega) htfr (by first | omega | with_reducible rfl) (by first | omega | with_reducible rfl)) gX8_walkFrom_X2_fewest rfl rfl rfl (by decide +kernel) ⟨Nat.le_of_ble_eq_true rfl, Nat.le_of_ble_eq_true rfl⟩ rfl (by first | omega | with_reducible rfl) hn.1 rfl (Nat.le_of_ble_eq_true rfl) ⟨Nat.zero_le _, Nat.zero_le _⟩ dX8_walkFrom_27 rfl (fun g_5 hp_6 => ?_)
  subst g_5
  refine w_as (st' := [.int (zI (((lo (clL T V (j + 1) 3) (R - a)) : Nat) : Int))]) (sc_i (by rw [ht3]; unfold lo; omega) rfl) ?_
  refine w_istore [(8, .int (zI (((lo (clL T V (j + 1) 3) (R - a)) : Nat) : Int))), (7, .int (zI ((min (T ((j : Nat) : Int)).toNat (R - a) : Nat) : Int))), (6, .int (zI (((V ((j : Nat) : Int)).toNat : Nat) : Int))), (0, .ref (B + sb)), (1, .int (zI ((j : Nat) : Int))), (2, .int (zI ((a : Nat) : Int))), (3, .int (zI s)), (4, .long (zJ w))] dX8_walkFrom_30 (by decide) rfl ?_
  refine w_sub [(0, .ref (B + sb)), (1, .int (zI ((j : Nat) : Int))), (2, .int (zI ((a : Nat) : Int))), (3, .int (zI s)), (4, .long (zJ w)), (6, .int (zI (((V ((j : Nat) : Int)).toNat : Nat) : Int))), (7, .int (zI ((min (T ((j : Nat) : Int)).toNat (R - a) : Nat) : Int))), (8, .int (zI (((lo (clL T V (j + 1) 3) (R - a)) : Nat) : Int)))] [3, 4, 5, 6, 7, 2, 1, 0] rfl ?_
  refine w_lv (lv' := [(0, .ref (B + sb)), (1, .int (zI ((j : Nat) : Int))), (2, .int (zI ((a : Nat) : Int))), (3, .int (zI s)), (4, .long (zJ w)), (6, .int (zI (((V ((j : Nat) : Int)).toNat : Nat) : Int))), (7, .int (zI ((min (T ((j : Nat) : Int)).toNat (R - a) : Nat) : Int))), (8, .int (zI ((((lo (clL T V (j + 1) 3) (R - a)) + 0) : Nat) : Int)))]) (lc_s (lc_s (lc_s (lc_s (lc_s (lc_s (lc_s (lc_i (by first | omega | with_reducible rfl) rfl)))))))) ?_
  refine w_loop2 (fun (k : Nat) (gl_7 : (Nat → va_E)) => vSum cy B gl_7 sb cb nb (gW W ((T ((j : Nat) : Int)).toNat, (V ((j : Nat) : Int)).toNat) (clL T V (j + 1) 3) (R - a) s w k) (gT Tb ((T ((j : Nat) : Int)).toNat, (V ((j : Nat) : Int)).toNat) (clL T V (j + 1) 3) (R - a) s k) le gr sver ∧ vNet cy B gl_7 nb cb tf ((R : Nat) : Int) nver G ∧ vCol cy B gl_7 cb sets n cver T X V Wy ∧ (∀ q, (q < sb ∨ sb + 3 ≤ q) → gl_7 q = g q) ∧ k ≤ nn ((T ((j : Nat) : Int)).toNat, (V ((j : Nat) : Int)).toNat) (clL T V (j + 1) 3) (R - a)) (fun (k : Nat) (gl_7 : (Nat → va_E)) => nn ((T ((j : Nat) : Int)).toNat, (V ((j : Nat) : Int)).toNat) (clL T V (j + 1) 3) (R - a) - k) (fun (k : Nat) (gl_7 : (Nat → va_E)) => gl_7) (fun (k : Nat) (gl_7 : (Nat → va_E)) => [(0, .ref (B + sb)), (1, .int (zI ((j : Nat) : Int))), (2, .int (zI ((a : Nat) : Int))), (3, .int (zI s)), (4, .long (zJ w)), (6, .int (zI (((V ((j : Nat) : Int)).toNat : Nat) : Int))), (7, .int (zI ((min (T ((j : Nat) : Int)).toNat (R - a) : Nat) : Int))), (8, .int (zI ((((lo (clL T V (j + 1) 3) (R - a)) + k) : Nat) : Int)))]) ?_ 0 g ⟨(by have h9 := hs; rw [gW_0, gT_0]; exact h9), hn, hc, hfr_0, (Nat.zero_le _)⟩
  rintro k gl_7 ⟨hs_8, hn_9, hc_10, hfr_11, hk⟩ ih_32
  have hlo : lo (clL T V (j + 1) 3) (R - a) ≤ R - a ∧ nn ((T ((j : Nat) : Int)).toNat, (V ((j : Nat) : Int)).toNat) (clL T V (j + 1) 3) (R - a) ≤ 13 := by unfold lo nn; omega
  refine w_iload dX8_walkFrom_32 7 rfl ?_
  refine w_iload dX8_walkFrom_34 6 rfl ?_
  refine w_icmp_gt 76 dX8_walkFrom_36 (by decide) (by first | omega | with_reducible rfl) (by first | omega | with_reducible rfl) (fun c_36 => ?_) (fun c_36 => ?_)
  · have hk9 : k = nn ((T ((j : Nat) : Int)).toNat, (V ((j : Nat) : Int)).toNat) (clL T V (j + 1) 3) (R - a) := by unfold lo nn at *; omega
    exact w_vret dX8_walkFrom_76 rfl ⟨(by have h9 := hs_8; rw [hk9] at h9; exact h9), hfr_11⟩
  · have hx : lo (clL T V (j + 1) 3) (R - a) + k ≤ (T ((j : Nat) : Int)).toNat := by omega
    have hxv : 0 ≤ ((((lo (clL T V (j + 1) 3) (R - a)) + k) : Nat) : Int) * (((V ((j : Nat) : Int)).toNat : Nat) : Int) ∧ ((((lo (clL T V (j + 1) 3) (R - a)) + k) : Nat) : Int) * (((V ((j : Nat) : Int)).toNat : Nat) : Int) ≤ ((((lo (clL T V (j + 1) 3) (R - a)) + k) : Nat) : Int) * 9 := ⟨Int.mul_nonneg (by omega) (by omega), Int.mul_le_mul_of_nonneg_left (by omega) (by omega)⟩
    refine w_aload_n dX8_walkFrom_39 rfl 0 rfl ?_
    refine w_iload_n dX8_walkFrom_40 rfl 1 rfl ?_
    refine w_iconst dX8_walkFrom_41 ?_
    refine w_iadd dX8_walkFrom_42 ?_
    refine w_iload_n dX8_walkFrom_43 rfl 2 rfl ?_
    refine w_iload dX8_walkFrom_44 7 rfl ?_
    refine w_iadd dX8_walkFrom_46 ?_
    refine w_iload_n dX8_walkFrom_47 rfl 3 rfl ?_
    refine w_iload dX8_walkFrom_48 7 rfl ?_
    refine w_iload dX8_walkFrom_50 5 rfl ?_
    refine w_imul dX8_walkFrom_52 ?_
    refine w_iadd dX8_walkFrom_53 ?_
    refine w_lload dX8_walkFrom_54 4 rfl ?_
    refine w_aload_n dX8_walkFrom_56 rfl 0 rfl ?_
    refine w_get (i := 0) (T := TX8) (NF := 7) sb (by first | omega | with_reducible rfl) hs_8.1 rfl (fun _ h => (List.mem_cons_of_mem _ (List.mem_append_left _ (List.mem_append_left _ (List.mem_append_right _ h))))) (by decide) (List.mem_of_getElem? (i := 1) rfl) rfl dX8_walkFrom_57 ?_
    refine w_iload_n dX8_walkFrom_60 rfl 1 rfl ?_
    refine w_iload dX8_walkFrom_61 7 rfl ?_
    refine w_calll (As := [.int (zI ((j : Nat) : Int)), .int (zI ((((lo (clL T V (j + 1) 3) (R - a)) + k) : Nat) : Int))]) (rest := [.long (zJ w), .int (zI (s + (((((lo (clL T V (j + 1) 3) (R - a)) + k) : Nat) : Int) * (((V ((j : Nat) : Int)).toNat : Nat) : Int)))), .int (zI (((a : Nat) : Int) + ((((lo (clL T V (j + 1) 3) (R - a)) + k) : Nat) : Int))), .int (zI (((j : Nat) : Int) + 1)), .ref (B + sb)]) (n := 2) (c_X0_waysOf hc_10 (by first | omega | with_reducible rfl) (by first | omega | with_reducible rfl) (by first | omega | with_reducible rfl) (by first | omega | with_reducible rfl)) gX8_walkFrom_X0_waysOf rfl rfl rfl (by decide +kernel) ⟨Nat.le_of_ble_eq_true rfl, Nat.le_of_ble_eq_true rfl⟩ rfl (by first | omega | with_reducible rfl) hc_10.1 rfl (Nat.le_of_ble_eq_true rfl) ⟨Nat.zero_le _, Nat.zero_le _⟩ dX8_walkFrom_63 rfl (fun g_12 hp_13 => ?_)
    subst g_12
    refine w_as (st' := [.long (zJ ((ch (T ((j : Nat) : Int)).toNat (lo (clL T V (j + 1) 3) (R - a) + k) : Nat) : Int)), .long (zJ w), .int (zI (s + (((((lo (clL T V (j + 1) 3) (R - a)) + k) : Nat) : Int) * (((V ((j : Nat) : Int)).toNat : Nat) : Int)))), .int (zI (((a : Nat) : Int) + ((((lo (clL T V (j + 1) 3) (R - a)) + k) : Nat) : Int))), .int (zI (((j : Nat) : Int) + 1)), .ref (B + sb)]) (sc_l (by rw [wyA_in (by omega), Int.toNat_natCast]; exact hWy _ (by omega) _ (by omega)) rfl) ?_
    refine w_lmul dX8_walkFrom_66 ?_
    refine w_as (st' := [.long (zJ (w * ((ch (T ((j : Nat) : Int)).toNat (lo (clL T V (j + 1) 3) (R - a) + k) : Nat) : Int))), .int (zI (s + (((((lo (clL T V (j + 1) 3) (R - a)) + k) : Nat) : Int) * (((V ((j : Nat) : Int)).toNat : Nat) : Int)))), .int (zI (((a + (lo (clL T V (j + 1) 3) (R - a) + k)) : Nat) : Int)), .int (zI (((j + 1) : Nat) : Int)), .ref (B + sb)]) (lc_s (lc_s (sc_i (by first | omega | with_reducible rfl) (sc_i (by first | omega | with_reducible rfl) rfl)))) ?_
    refine w_callv (As := [.int (zI (((j + 1) : Nat) : Int)), .int (zI (((a + (lo (clL T V (j + 1) 3) (R - a) + k)) : Nat) : Int)), .int (zI (s + (((((lo (clL T V (j + 1) 3) (R - a)) + k) : Nat) : Int) * (((V ((j : Nat) : Int)).toNat : Nat) : Int)))), .long (zJ (w * ((ch (T ((j : Nat) : Int)).toNat (lo (clL T V (j + 1) 3) (R - a) + k) : Nat) : Int)))]) (rest := []) (n := 4) (c_X8_comeTo_3 (j := (j + 1)) (a := (a + (lo (clL T V (j + 1) 3) (R - a) + k))) hs_8 hn_9 hc_10 (by first | omega | with_reducible rfl) (by first | omega | with_reducible rfl) (by first | omega | with_reducible rfl) (by first | omega | with_reducible rfl) (by first | omega | with_reducible rfl) hok (by first | omega | with_reducible rfl) hNF htf hWy (by first | omega | with_reducible rfl) (thr_next hth hjm (by omega) hx (by omega)) (by first | omega | with_reducible rfl)) gX8_walkFrom_X8_comeTo rfl rfl rfl (by decide +kernel) ⟨Nat.le_of_ble_eq_true rfl, Nat.le_of_ble_eq_true rfl⟩ rfl (by first | omega | with_reducible rfl) hs_8.1 rfl (Nat.le_of_ble_eq_true rfl) ⟨Nat.zero_le _, Nat.zero_le _⟩ dX8_walkFrom_67 rfl (fun g_14 hp_15 => ?_)
    obtain ⟨hs_16, hf_17⟩ := hp_15
    have hn_18 : vNet cy B g_14 nb cb tf ((R : Nat) : Int) nver G := vNet_fr hn_9 (fun q h1 h2 => hf_17 q (by omega))
    have hc_19 : vCol cy B g_14 cb sets n cver T X V Wy := vCol_fr hc_10 (fun q h1 h2 => hf_17 q (by omega))
    have hfr_20 : ∀ q, (q < sb ∨ sb + 3 ≤ q) → g_14 q = g q := fun q hq => (hf_17 q (by omega)).trans (hfr_11 q hq)
    refine w_iinc 7 [(8, .int (zI (((((lo (clL T V (j + 1) 3) (R - a)) + k) : Nat) : Int) + 1))), (0, .ref (B + sb)), (1, .int (zI ((j : Nat) : Int))), (2, .int (zI ((a : Nat) : Int))), (3, .int (zI s)), (4, .long (zJ w)), (6, .int (zI (((V ((j : Nat) : Int)).toNat : Nat) : Int))), (7, .int (zI ((min (T ((j : Nat) : Int)).toNat (R - a) : Nat) : Int)))] dX8_walkFrom_70 rfl (by decide) rfl ?_
    refine w_goto 32 dX8_walkFrom_73 (by decide) ?_
    refine w_sub [(0, .ref (B + sb)), (1, .int (zI ((j : Nat) : Int))), (2, .int (zI ((a : Nat) : Int))), (3, .int (zI s)), (4, .long (zJ w)), (6, .int (zI (((V ((j : Nat) : Int)).toNat : Nat) : Int))), (7, .int (zI ((min (T ((j : Nat) : Int)).toNat (R - a) : Nat) : Int))), (8, .int (zI (((((lo (clL T V (j + 1) 3) (R - a)) + k) : Nat) : Int) + 1)))] [1, 2, 3, 4, 5, 6, 7, 0] rfl ?_
    refine w_lv (lv' := [(0, .ref (B + sb)), (1, .int (zI ((j : Nat) : Int))), (2, .int (zI ((a : Nat) : Int))), (3, .int (zI s)), (4, .long (zJ w)), (6, .int (zI (((V ((j : Nat) : Int)).toNat : Nat) : Int))), (7, .int (zI ((min (T ((j : Nat) : Int)).toNat (R - a) : Nat) : Int))), (8, .int (zI ((((lo (clL T V (j + 1) 3) (R - a)) + (k + 1)) : Nat) : Int)))]) (lc_s (lc_s (lc_s (lc_s (lc_s (lc_s (lc_s (lc_i (by first | omega | with_reducible rfl) rfl)))))))) ?_
    exact ih_32 (k + 1) g_14 ⟨(by have h9 := hs_16; rw [Nat.sub_add_eq, gW_s, gT_s] at h9; exact h9), hn_18, hc_19, hfr_20, (by unfold lo nn at *; omega)⟩ (by unfold lo nn at *; omega)
set_option maxHeartbeats 4000000 in
set_option maxRecDepth 100000 in
theorem c_X8_walkFrom_t5 {l : Launch} {D : va_G} {cy : Nat → ClassId} {B N : Nat} {g : Nat → va_E} {sb : Nat} {W Tb : Int → Int} {le gr sver : Int} {nb cb : Nat} {tf : Int → Int} {nver : Int} {G : Nat → Int → Int} {sets n R : Nat} {cver : Int} {T X V : Int → Int} {Wy : Nat → Int → Int} {j a : Nat} {s w : Int} (hs : vSum cy B g sb cb nb W Tb le gr sver) (hn : vNet cy B g nb cb tf ((R : Nat) : Int) nver G) (hc : vCol cy B g cb sets n cver T X V Wy) (hSB : sb + 3 ≤ N) (hd1 : sb + 3 ≤ nb ∨ nb + 11 ≤ sb) (hd2 : sb + 3 ≤ cb ∨ cb + 10 ≤ sb) (hNB : nb + 11 ≤ N) (hCB : cb + 10 ≤ N) (hok : okT T V n) (hR : R ≤ 60) (hNF : NF T V n R G) (htf : ∀ j : Nat, j ≤ 5 → tf ((j : Nat) : Int) = ((tsum (clL T V j (n - j)) : Nat) : Int)) (hWy : ∀ j : Nat, j < n → ∀ x : Nat, x ≤ 12 → Wy j ((x : Nat) : Int) = ((ch (T ((j : Nat) : Int)).toNat x : Nat) : Int)) (hjm : j + 5 = n) (hth : thr T V n R j a) (hsr : 0 ≤ s ∧ s + 9 * ((tsum (clL T V j 5) : Nat) : Int) ≤ 540) : CTv l yX8_walkFrom wsX8_walkFrom (rmo 10 274) D cy B N g [.ref (B + sb), .int (zI ((j : Nat) : Int)), .int (zI ((a : Nat) : Int)), .int (zI s), .long (zJ w)] (fun g' => vSum cy B g' sb cb nb (aW W (clL T V j 5) (R - a) s w) (aT Tb (clL T V j 5) (R - a) s) le gr sver ∧ (∀ q, (q < sb ∨ sb + 3 ≤ q) → g' q = g q)) := by
  refine WW_of (cc := cX8_walkFrom) (maxL := 9) (ret := none) (own := RX8) (by decide) rfl rfl (Nat.le_of_ble_eq_true rfl) rfl ?_
  intro pp ee ss mm bl me co hmn
  have hfr_0 : ∀ q, (q < sb ∨ sb + 3 ≤ q) → g q = g q := fun _ _ => rfl
  have hn5 : n ≤ 5 := hok.1
  have htR := hth.2.1
  have hq1 := hok.2 ((j : Nat) : Int) (by omega) (by omega)
  have ht3 : tf (((j : Nat) : Int) + 1) = ((tsum (clL T V (j + 1) 4) : Nat) : Int) := by
    have h9 := htf (j + 1) (by omega)
    rw [show n - (j + 1) = 4 by omega] at h9
    exact h9
  have htfr : ∀ i : Int, 0 ≤ i → i ≤ 5 → 0 ≤ tf i ∧ tf i ≤ 60 := fun i h1 h2 => by
    obtain ⟨k, rfl⟩ := Int.eq_ofNat_of_zero_le h1
    have h3 := htf k (by omega)
    by_cases hk : k ≤ n
    · have h4 := okT_ts hok (m := n - k) (j := k) (by omega)
      omega
    · rw [show n - k = 0 by omega] at h3
      rw [clL, tsum] at h3
      omega
  have hts := thr_ts hth hjm
  have hts2 : tsum (clL T V j 5) = (T ((j : Nat) : Int)).toNat + tsum (clL T V (j + 1) 4) := rfl
  refine w_aload_n dX8_walkFrom_0 rfl 0 rfl ?_
  refine w_get (i := 0) (T := TX8) (NF := 7) sb (by first | omega | with_reducible rfl) hs.1 rfl (fun _ h => (List.mem_cons_of_mem _ (List.mem_append_left _ (List.mem_append_left _ (List.mem_append_right _ h))))) (by decide) (List.mem_of_getElem? (i := 1) rfl) rfl dX8_walkFrom_1 ?_
  refine w_iload_n dX8_walkFrom_4 rfl 1 rfl ?_
  refine w_calli (As := [.int (zI ((j : Nat) : Int))]) (rest := []) (n := 1) (c_X0_scoreOf hc (by first | omega | with_reducible rfl) (by first | omega | with_reducible rfl) (by first | omega | with_reducible rfl)) gX8_walkFrom_X0_scoreOf rfl rfl rfl (by decide +kernel) ⟨Nat.le_of_ble_eq_true rfl, Nat.le_of_ble_eq_true rfl⟩ rfl (by first | omega | with_reducible rfl) hc.1 rfl (Nat.le_of_ble_eq_true rfl) ⟨Nat.zero_le _, Nat.zero_le _⟩ dX8_walkFrom_5 rfl (fun g_1 hp_2 => ?_)
  subst g_1
  refine w_as (st' := [.int (zI (((V ((j : Nat) : Int)).toNat : Nat) : Int))]) (sc_i (by rw [inA_in (by omega)]; omega) rfl) ?_
  refine w_istore [(6, .int (zI (((V ((j : Nat) : Int)).toNat : Nat) : Int))), (0, .ref (B + sb)), (1, .int (zI ((j : Nat) : Int))), (2, .int (zI ((a : Nat) : Int))), (3, .int (zI s)), (4, .long (zJ w))] dX8_walkFrom_8 (by decide) rfl ?_
  refine w_aload_n dX8_walkFrom_10 rfl 1 rfl ?_
  refine w_get (i := 1) (T := TX8) (NF := 7) sb (by first | omega | with_reducible rfl) hs.1 rfl (fun _ h => (List.mem_cons_of_mem _ (List.mem_append_left _ (List.mem_append_left _ (List.mem_append_right _ h))))) (by decide) (List.mem_of_getElem? (i := 2) rfl) rfl dX8_walkFrom_11 ?_
  refine w_iload_n dX8_walkFrom_14 rfl 2 rfl ?_
  refine w_iload_n dX8_walkFrom_15 rfl 3 rfl ?_
  refine w_calli (As := [.int (zI ((j : Nat) : Int)), .int (zI ((a : Nat) : Int))]) (rest := []) (n := 2) (c_X2_most hn hc (by first | omega | with_reducible rfl) (by first | omega | with_reducible rfl) hn5 (by omega) (by omega) (by first | omega | with_reducible rfl) (by first | omega | with_reducible rfl)) gX8_walkFrom_X2_most rfl rfl rfl (by decide +kernel) ⟨Nat.le_of_ble_eq_true rfl, Nat.le_of_ble_eq_true rfl⟩ rfl (by first | omega | with_reducible rfl) hn.1 rfl (Nat.le_of_ble_eq_true rfl) ⟨Nat.zero_le _, Nat.zero_le _⟩ dX8_walkFrom_16 rfl (fun g_3 hp_4 => ?_)
  subst g_3
  refine w_as (st' := [.int (zI ((min (T ((j : Nat) : Int)).toNat (R - a) : Nat) : Int))]) (sc_i (by first | omega | with_reducible rfl) rfl) ?_
  refine w_istore [(7, .int (zI ((min (T ((j : Nat) : Int)).toNat (R - a) : Nat) : Int))), (6, .int (zI (((V ((j : Nat) : Int)).toNat : Nat) : Int))), (0, .ref (B + sb)), (1, .int (zI ((j : Nat) : Int))), (2, .int (zI ((a : Nat) : Int))), (3, .int (zI s)), (4, .long (zJ w))] dX8_walkFrom_19 (by decide) rfl ?_
  refine w_aload_n dX8_walkFrom_21 rfl 2 rfl ?_
  refine w_get (i := 1) (T := TX8) (NF := 7) sb (by first | omega | with_reducible rfl) hs.1 rfl (fun _ h => (List.mem_cons_of_mem _ (List.mem_append_left _ (List.mem_append_left _ (List.mem_append_right _ h))))) (by decide) (List.mem_of_getElem? (i := 2) rfl) rfl dX8_walkFrom_22 ?_
  refine w_iload_n dX8_walkFrom_25 rfl 3 rfl ?_
  refine w_iload_n dX8_walkFrom_26 rfl 4 rfl ?_
  refine w_calli (As := [.int (zI ((j : Nat) : Int)), .int (zI ((a : Nat) : Int))]) (rest := []) (n := 2) (c_X2_fewest hn (by first | omega | with_reducible rfl) (by omega) htfr (by first | omega | with_reducible rfl) (by first | omega | with_reducible rfl)) gX8_walkFrom_X2_fewest rfl rfl rfl (by decide +kernel) ⟨Nat.le_of_ble_eq_true rfl, Nat.le_of_ble_eq_true rfl⟩ rfl (by first | omega | with_reducible rfl) hn.1 rfl (Nat.le_of_ble_eq_true rfl) ⟨Nat.zero_le _, Nat.zero_le _⟩ dX8_walkFrom_27 rfl (fun g_5 hp_6 => ?_)
  subst g_5
  refine w_as (st' := [.int (zI (((lo (clL T V (j + 1) 4) (R - a)) : Nat) : Int))]) (sc_i (by rw [ht3]; unfold lo; omega) rfl) ?_
  refine w_istore [(8, .int (zI (((lo (clL T V (j + 1) 4) (R - a)) : Nat) : Int))), (7, .int (zI ((min (T ((j : Nat) : Int)).toNat (R - a) : Nat) : Int))), (6, .int (zI (((V ((j : Nat) : Int)).toNat : Nat) : Int))), (0, .ref (B + sb)), (1, .int (zI ((j : Nat) : Int))), (2, .int (zI ((a : Nat) : Int))), (3, .int (zI s)), (4, .long (zJ w))] dX8_walkFrom_30 (by decide) rfl ?_
  refine w_sub [(0, .ref (B + sb)), (1, .int (zI ((j : Nat) : Int))), (2, .int (zI ((a : Nat) : Int))), (3, .int (zI s)), (4, .long (zJ w)), (6, .int (zI (((V ((j : Nat) : Int)).toNat : Nat) : Int))), (7, .int (zI ((min (T ((j : Nat) : Int)).toNat (R - a) : Nat) : Int))), (8, .int (zI (((lo (clL T V (j + 1) 4) (R - a)) : Nat) : Int)))] [3, 4, 5, 6, 7, 2, 1, 0] rfl ?_
  refine w_lv (lv' := [(0, .ref (B + sb)), (1, .int (zI ((j : Nat) : Int))), (2, .int (zI ((a : Nat) : Int))), (3, .int (zI s)), (4, .long (zJ w)), (6, .int (zI (((V ((j : Nat) : Int)).toNat : Nat) : Int))), (7, .int (zI ((min (T ((j : Nat) : Int)).toNat (R - a) : Nat) : Int))), (8, .int (zI ((((lo (clL T V (j + 1) 4) (R - a)) + 0) : Nat) : Int)))]) (lc_s (lc_s (lc_s (lc_s (lc_s (lc_s (lc_s (lc_i (by first | omega | with_reducible rfl) rfl)))))))) ?_
  refine w_loop2 (fun (k : Nat) (gl_7 : (Nat → va_E)) => vSum cy B gl_7 sb cb nb (gW W ((T ((j : Nat) : Int)).toNat, (V ((j : Nat) : Int)).toNat) (clL T V (j + 1) 4) (R - a) s w k) (gT Tb ((T ((j : Nat) : Int)).toNat, (V ((j : Nat) : Int)).toNat) (clL T V (j + 1) 4) (R - a) s k) le gr sver ∧ vNet cy B gl_7 nb cb tf ((R : Nat) : Int) nver G ∧ vCol cy B gl_7 cb sets n cver T X V Wy ∧ (∀ q, (q < sb ∨ sb + 3 ≤ q) → gl_7 q = g q) ∧ k ≤ nn ((T ((j : Nat) : Int)).toNat, (V ((j : Nat) : Int)).toNat) (clL T V (j + 1) 4) (R - a)) (fun (k : Nat) (gl_7 : (Nat → va_E)) => nn ((T ((j : Nat) : Int)).toNat, (V ((j : Nat) : Int)).toNat) (clL T V (j + 1) 4) (R - a) - k) (fun (k : Nat) (gl_7 : (Nat → va_E)) => gl_7) (fun (k : Nat) (gl_7 : (Nat → va_E)) => [(0, .ref (B + sb)), (1, .int (zI ((j : Nat) : Int))), (2, .int (zI ((a : Nat) : Int))), (3, .int (zI s)), (4, .long (zJ w)), (6, .int (zI (((V ((j : Nat) : Int)).toNat : Nat) : Int))), (7, .int (zI ((min (T ((j : Nat) : Int)).toNat (R - a) : Nat) : Int))), (8, .int (zI ((((lo (clL T V (j + 1) 4) (R - a)) + k) : Nat) : Int)))]) ?_ 0 g ⟨(by have h9 := hs; rw [gW_0, gT_0]; exact h9), hn, hc, hfr_0, (Nat.zero_le _)⟩
  rintro k gl_7 ⟨hs_8, hn_9, hc_10, hfr_11, hk⟩ ih_32
  have hlo : lo (clL T V (j + 1) 4) (R - a) ≤ R - a ∧ nn ((T ((j : Nat) : Int)).toNat, (V ((j : Nat) : Int)).toNat) (clL T V (j + 1) 4) (R - a) ≤ 13 := by unfold lo nn; omega
  refine w_iload dX8_walkFrom_32 7 rfl ?_
  refine w_iload dX8_walkFrom_34 6 rfl ?_
  refine w_icmp_gt 76 dX8_walkFrom_36 (by decide) (by first | omega | with_reducible rfl) (by first | omega | with_reducible rfl) (fun c_36 => ?_) (fun c_36 => ?_)
  · have hk9 : k = nn ((T ((j : Nat) : Int)).toNat, (V ((j : Nat) : Int)).toNat) (clL T V (j + 1) 4) (R - a) := by unfold lo nn at *; omega
    exact w_vret dX8_walkFrom_76 rfl ⟨(by have h9 := hs_8; rw [hk9] at h9; exact h9), hfr_11⟩
  · have hx : lo (clL T V (j + 1) 4) (R - a) + k ≤ (T ((j : Nat) : Int)).toNat := by omega
    have hxv : 0 ≤ ((((lo (clL T V (j + 1) 4) (R - a)) + k) : Nat) : Int) * (((V ((j : Nat) : Int)).toNat : Nat) : Int) ∧ ((((lo (clL T V (j + 1) 4) (R - a)) + k) : Nat) : Int) * (((V ((j : Nat) : Int)).toNat : Nat) : Int) ≤ ((((lo (clL T V (j + 1) 4) (R - a)) + k) : Nat) : Int) * 9 := ⟨Int.mul_nonneg (by omega) (by omega), Int.mul_le_mul_of_nonneg_left (by omega) (by omega)⟩
    refine w_aload_n dX8_walkFrom_39 rfl 0 rfl ?_
    refine w_iload_n dX8_walkFrom_40 rfl 1 rfl ?_
    refine w_iconst dX8_walkFrom_41 ?_
    refine w_iadd dX8_walkFrom_42 ?_
    refine w_iload_n dX8_walkFrom_43 rfl 2 rfl ?_
    refine w_iload dX8_walkFrom_44 7 rfl ?_
    refine w_iadd dX8_walkFrom_46 ?_
    refine w_iload_n dX8_walkFrom_47 rfl 3 rfl ?_
    refine w_iload dX8_walkFrom_48 7 rfl ?_
    refine w_iload dX8_walkFrom_50 5 rfl ?_
    refine w_imul dX8_walkFrom_52 ?_
    refine w_iadd dX8_walkFrom_53 ?_
    refine w_lload dX8_walkFrom_54 4 rfl ?_
    refine w_aload_n dX8_walkFrom_56 rfl 0 rfl ?_
    refine w_get (i := 0) (T := TX8) (NF := 7) sb (by first | omega | with_reducible rfl) hs_8.1 rfl (fun _ h => (List.mem_cons_of_mem _ (List.mem_append_left _ (List.mem_append_left _ (List.mem_append_right _ h))))) (by decide) (List.mem_of_getElem? (i := 1) rfl) rfl dX8_walkFrom_57 ?_
    refine w_iload_n dX8_walkFrom_60 rfl 1 rfl ?_
    refine w_iload dX8_walkFrom_61 7 rfl ?_
    refine w_calll (As := [.int (zI ((j : Nat) : Int)), .int (zI ((((lo (clL T V (j + 1) 4) (R - a)) + k) : Nat) : Int))]) (rest := [.long (zJ w), .int (zI (s + (((((lo (clL T V (j + 1) 4) (R - a)) + k) : Nat) : Int) * (((V ((j : Nat) : Int)).toNat : Nat) : Int)))), .int (zI (((a : Nat) : Int) + ((((lo (clL T V (j + 1) 4) (R - a)) + k) : Nat) : Int))), .int (zI (((j : Nat) : Int) + 1)), .ref (B + sb)]) (n := 2) (c_X0_waysOf hc_10 (by first | omega | with_reducible rfl) (by first | omega | with_reducible rfl) (by first | omega | with_reducible rfl) (by first | omega | with_reducible rfl)) gX8_walkFrom_X0_waysOf rfl rfl rfl (by decide +kernel) ⟨Nat.le_of_ble_eq_true rfl, Nat.le_of_ble_eq_true rfl⟩ rfl (by first | omega | with_reducible rfl) hc_10.1 rfl (Nat.le_of_ble_eq_true rfl) ⟨Nat.zero_le _, Nat.zero_le _⟩ dX8_walkFrom_63 rfl (fun g_12 hp_13 => ?_)
    subst g_12
    refine w_as (st' := [.long (zJ ((ch (T ((j : Nat) : Int)).toNat (lo (clL T V (j + 1) 4) (R - a) + k) : Nat) : Int)), .long (zJ w), .int (zI (s + (((((lo (clL T V (j + 1) 4) (R - a)) + k) : Nat) : Int) * (((V ((j : Nat) : Int)).toNat : Nat) : Int)))), .int (zI (((a : Nat) : Int) + ((((lo (clL T V (j + 1) 4) (R - a)) + k) : Nat) : Int))), .int (zI (((j : Nat) : Int) + 1)), .ref (B + sb)]) (sc_l (by rw [wyA_in (by omega), Int.toNat_natCast]; exact hWy _ (by omega) _ (by omega)) rfl) ?_
    refine w_lmul dX8_walkFrom_66 ?_
    refine w_as (st' := [.long (zJ (w * ((ch (T ((j : Nat) : Int)).toNat (lo (clL T V (j + 1) 4) (R - a) + k) : Nat) : Int))), .int (zI (s + (((((lo (clL T V (j + 1) 4) (R - a)) + k) : Nat) : Int) * (((V ((j : Nat) : Int)).toNat : Nat) : Int)))), .int (zI (((a + (lo (clL T V (j + 1) 4) (R - a) + k)) : Nat) : Int)), .int (zI (((j + 1) : Nat) : Int)), .ref (B + sb)]) (lc_s (lc_s (sc_i (by first | omega | with_reducible rfl) (sc_i (by first | omega | with_reducible rfl) rfl)))) ?_
    refine w_callv (As := [.int (zI (((j + 1) : Nat) : Int)), .int (zI (((a + (lo (clL T V (j + 1) 4) (R - a) + k)) : Nat) : Int)), .int (zI (s + (((((lo (clL T V (j + 1) 4) (R - a)) + k) : Nat) : Int) * (((V ((j : Nat) : Int)).toNat : Nat) : Int)))), .long (zJ (w * ((ch (T ((j : Nat) : Int)).toNat (lo (clL T V (j + 1) 4) (R - a) + k) : Nat) : Int)))]) (rest := []) (n := 4) (c_X8_comeTo_4 (j := (j + 1)) (a := (a + (lo (clL T V (j + 1) 4) (R - a) + k))) hs_8 hn_9 hc_10 (by first | omega | with_reducible rfl) (by first | omega | with_reducible rfl) (by first | omega | with_reducible rfl) (by first | omega | with_reducible rfl) (by first | omega | with_reducible rfl) hok (by first | omega | with_reducible rfl) hNF htf hWy (by first | omega | with_reducible rfl) (thr_next hth hjm (by omega) hx (by omega)) (by first | omega | with_reducible rfl)) gX8_walkFrom_X8_comeTo rfl rfl rfl (by decide +kernel) ⟨Nat.le_of_ble_eq_true rfl, Nat.le_of_ble_eq_true rfl⟩ rfl (by first | omega | with_reducible rfl) hs_8.1 rfl (Nat.le_of_ble_eq_true rfl) ⟨Nat.zero_le _, Nat.zero_le _⟩ dX8_walkFrom_67 rfl (fun g_14 hp_15 => ?_)
    obtain ⟨hs_16, hf_17⟩ := hp_15
    have hn_18 : vNet cy B g_14 nb cb tf ((R : Nat) : Int) nver G := vNet_fr hn_9 (fun q h1 h2 => hf_17 q (by omega))
    have hc_19 : vCol cy B g_14 cb sets n cver T X V Wy := vCol_fr hc_10 (fun q h1 h2 => hf_17 q (by omega))
    have hfr_20 : ∀ q, (q < sb ∨ sb + 3 ≤ q) → g_14 q = g q := fun q hq => (hf_17 q (by omega)).trans (hfr_11 q hq)
    refine w_iinc 7 [(8, .int (zI (((((lo (clL T V (j + 1) 4) (R - a)) + k) : Nat) : Int) + 1))), (0, .ref (B + sb)), (1, .int (zI ((j : Nat) : Int))), (2, .int (zI ((a : Nat) : Int))), (3, .int (zI s)), (4, .long (zJ w)), (6, .int (zI (((V ((j : Nat) : Int)).toNat : Nat) : Int))), (7, .int (zI ((min (T ((j : Nat) : Int)).toNat (R - a) : Nat) : Int)))] dX8_walkFrom_70 rfl (by decide) rfl ?_
    refine w_goto 32 dX8_walkFrom_73 (by decide) ?_
    refine w_sub [(0, .ref (B + sb)), (1, .int (zI ((j : Nat) : Int))), (2, .int (zI ((a : Nat) : Int))), (3, .int (zI s)), (4, .long (zJ w)), (6, .int (zI (((V ((j : Nat) : Int)).toNat : Nat) : Int))), (7, .int (zI ((min (T ((j : Nat) : Int)).toNat (R - a) : Nat) : Int))), (8, .int (zI (((((lo (clL T V (j + 1) 4) (R - a)) + k) : Nat) : Int) + 1)))] [1, 2, 3, 4, 5, 6, 7, 0] rfl ?_
    refine w_lv (lv' := [(0, .ref (B + sb)), (1, .int (zI ((j : Nat) : Int))), (2, .int (zI ((a : Nat) : Int))), (3, .int (zI s)), (4, .long (zJ w)), (6, .int (zI (((V ((j : Nat) : Int)).toNat : Nat) : Int))), (7, .int (zI ((min (T ((j : Nat) : Int)).toNat (R - a) : Nat) : Int))), (8, .int (zI ((((lo (clL T V (j + 1) 4) (R - a)) + (k + 1)) : Nat) : Int)))]) (lc_s (lc_s (lc_s (lc_s (lc_s (lc_s (lc_s (lc_i (by first | omega | with_reducible rfl) rfl)))))))) ?_
    exact ih_32 (k + 1) g_14 ⟨(by have h9 := hs_16; rw [Nat.sub_add_eq, gW_s, gT_s] at h9; exact h9), hn_18, hc_19, hfr_20, (by unfold lo nn at *; omega)⟩ (by unfold lo nn at *; omega)
theorem c_X8_walkFrom_top {l : Launch} {D : va_G} {cy : Nat → ClassId} {B N : Nat} {g : Nat → va_E} {sb : Nat} {W Tb : Int → Int} {le gr sver : Int} {nb cb : Nat} {tf : Int → Int} {nver : Int} {G : Nat → Int → Int} {sets n R : Nat} {cver : Int} {T X V : Int → Int} {Wy : Nat → Int → Int} (hs : vSum cy B g sb cb nb W Tb le gr sver) (hn : vNet cy B g nb cb tf ((R : Nat) : Int) nver G) (hc : vCol cy B g cb sets n cver T X V Wy) (hSB : sb + 3 ≤ N) (hd1 : sb + 3 ≤ nb ∨ nb + 11 ≤ sb) (hd2 : sb + 3 ≤ cb ∨ cb + 10 ≤ sb) (hNB : nb + 11 ≤ N) (hCB : cb + 10 ≤ N) (hok : okT T V n) (hR : R ≤ 60) (hNF : NF T V n R G) (htf : ∀ j : Nat, j ≤ 5 → tf ((j : Nat) : Int) = ((tsum (clL T V j (n - j)) : Nat) : Int)) (hWy : ∀ j : Nat, j < n → ∀ x : Nat, x ≤ 12 → Wy j ((x : Nat) : Int) = ((ch (T ((j : Nat) : Int)).toNat x : Nat) : Int)) (hn1 : 1 ≤ n) (hRt : R ≤ tsum (clL T V 0 n)) : CTv l yX8_walkFrom wsX8_walkFrom (rmo 10 274) D cy B N g [.ref (B + sb), .int (zI 0), .int (zI 0), .int (zI 0), .long (zJ 1)] (fun g' => vSum cy B g' sb cb nb (aW W (clL T V 0 n) R 0 1) (aT Tb (clL T V 0 n) R 0) le gr sver ∧ (∀ q, (q < sb ∨ sb + 3 ≤ q) → g' q = g q)) := by
  have hth : thr T V n R 0 0 := ⟨by omega, by omega, by omega, by simpa using hRt⟩
  have hn5 : n ≤ 5 := hok.1
  have hwk : 0 ≤ (0 : Int) ∧ 0 + 9 * ((tsum (clL T V 0 n) : Nat) : Int) ≤ 540 := by have h9 := okT_ts hok (m := n) (j := 0) (by omega); omega
  rcases (show n = 1 ∨ n = 2 ∨ n = 3 ∨ n = 4 ∨ n = 5 by omega) with hm | hm | hm | hm | hm
  · subst hm
    exact c_X8_walkFrom_t1 (j := 0) (a := 0) hs hn hc hSB hd1 hd2 hNB hCB hok hR hNF htf hWy (by omega) hth hwk
  · subst hm
    exact c_X8_walkFrom_t2 (j := 0) (a := 0) hs hn hc hSB hd1 hd2 hNB hCB hok hR hNF htf hWy (by omega) hth hwk
  · subst hm
    exact c_X8_walkFrom_t3 (j := 0) (a := 0) hs hn hc hSB hd1 hd2 hNB hCB hok hR hNF htf hWy (by omega) hth hwk
  · subst hm
    exact c_X8_walkFrom_t4 (j := 0) (a := 0) hs hn hc hSB hd1 hd2 hNB hCB hok hR hNF htf hWy (by omega) hth hwk
  · subst hm
    exact c_X8_walkFrom_t5 (j := 0) (a := 0) hs hn hc hSB hd1 hd2 hNB hCB hok hR hNF htf hWy (by omega) hth hwk
set_option maxHeartbeats 4000000 in
set_option maxRecDepth 100000 in
theorem c_X8_refresh {l : Launch} {D : va_G} {cy : Nat → ClassId} {B N : Nat} {g : Nat → va_E} {sb : Nat} {W Tb : Int → Int} {le gr sver : Int} {nb cb : Nat} {tf : Int → Int} {nver : Int} {G : Nat → Int → Int} {sets n R : Nat} {cver : Int} {T X V : Int → Int} {Wy : Nat → Int → Int} (hs : vSum cy B g sb cb nb W Tb le gr sver) (hn : vNet cy B g nb cb tf ((R : Nat) : Int) nver G) (hc : vCol cy B g cb sets n cver T X V Wy) (hSB : sb + 3 ≤ N) (hd1 : sb + 3 ≤ nb ∨ nb + 11 ≤ sb) (hd2 : sb + 3 ≤ cb ∨ cb + 10 ≤ sb) (hNB : nb + 11 ≤ N) (hCB : cb + 10 ≤ N) (hok : okT T V n) (hR : R ≤ 60) (hNF : NF T V n R G) (htf : ∀ j : Nat, j ≤ 5 → tf ((j : Nat) : Int) = ((tsum (clL T V j (n - j)) : Nat) : Int)) (hWy : ∀ j : Nat, j < n → ∀ x : Nat, x ≤ 12 → Wy j ((x : Nat) : Int) = ((ch (T ((j : Nat) : Int)).toNat x : Nat) : Int)) (hn1 : 1 ≤ n) (hRt : R ≤ tsum (clL T V 0 n)) (hv : (0 ≤ sver ∧ sver ≤ cver) ∧ cver < 2147483648) (h0 : sver = cver → (le = (les (clL T V 0 n) R) ∧ gr = (grs (clL T V 0 n) R) ∧ (∀ y : Int, 0 ≤ y → y ≤ 540 → W y = sW (clL T V 0 n) R 0 1 y) ∧ (∀ y : Int, 0 ≤ y → y ≤ 540 → Tb y = sT (clL T V 0 n) R 0 y))) : CTv l yX8_refresh wsX8_refresh (rmo 11 302) D cy B N g [.ref (B + sb)] (fun g' => ∃ W2 : Int → Int, ∃ T2 : Int → Int, vSum cy B g' sb cb nb W2 T2 (les (clL T V 0 n) R) (grs (clL T V 0 n) R) cver ∧ (∀ y : Int, 0 ≤ y → y ≤ 540 → W2 y = sW (clL T V 0 n) R 0 1 y) ∧ (∀ y : Int, 0 ≤ y → y ≤ 540 → T2 y = sT (clL T V 0 n) R 0 y) ∧ (∀ q, (q < sb ∨ sb + 3 ≤ q) → g' q = g q)) := by
  refine WW_of (cc := cX8_refresh) (maxL := 1) (ret := none) (own := RX8) (by decide) rfl rfl (Nat.le_of_ble_eq_true rfl) rfl ?_
  intro pp ee ss mm bl me co hmn
  have hfr_0 : ∀ q, (q < sb ∨ sb + 3 ≤ q) → g q = g q := fun _ _ => rfl
  have hn5 : n ≤ 5 := hok.1
  have hth : thr T V n R 0 0 := ⟨by omega, by omega, by omega, by simpa using hRt⟩
  have hle := les_rg (cs := clL T V 0 n) (r := R)
  have hgr := grs_rg (cs := clL T V 0 n) (r := R) (okT_S hok (by omega))
  have hts := okT_ts hok (m := n) (j := 0) (by omega)
  refine w_aload_n dX8_refresh_0 rfl 0 rfl ?_
  refine w_get (i := 6) (T := TX8) (NF := 7) sb (by first | omega | with_reducible rfl) hs.1 rfl (fun _ h => (List.mem_cons_of_mem _ (List.mem_append_left _ (List.mem_append_left _ (List.mem_append_right _ h))))) (by decide) (List.mem_of_getElem? (i := 1) rfl) rfl dX8_refresh_1 ?_
  refine w_aload_n dX8_refresh_4 rfl 0 rfl ?_
  refine w_get (i := 0) (T := TX8) (NF := 7) sb (by first | omega | with_reducible rfl) hs.1 rfl (fun _ h => (List.mem_cons_of_mem _ (List.mem_append_left _ (List.mem_append_left _ (List.mem_append_right _ h))))) (by decide) (List.mem_of_getElem? (i := 2) rfl) rfl dX8_refresh_5 ?_
  refine w_calli (As := []) (rest := [.int (zI sver)]) (n := 0) (c_X0_version hc (by first | omega | with_reducible rfl)) gX8_refresh_X0_version rfl rfl rfl (by decide +kernel) ⟨Nat.le_of_ble_eq_true rfl, Nat.le_of_ble_eq_true rfl⟩ rfl (by first | omega | with_reducible rfl) hc.1 rfl (Nat.le_of_ble_eq_true rfl) ⟨Nat.zero_le _, Nat.zero_le _⟩ dX8_refresh_8 rfl (fun g_1 hp_2 => ?_)
  subst g_1
  refine w_icmp_ne 15 dX8_refresh_11 (by decide) (by first | omega | with_reducible rfl) (by first | omega | with_reducible rfl) (fun c_11 => ?_) (fun c_11 => ?_)
  · refine w_aload_n dX8_refresh_15 rfl 0 rfl ?_
    refine w_aload_n dX8_refresh_16 rfl 0 rfl ?_
    refine w_get (i := 0) (T := TX8) (NF := 7) sb (by first | omega | with_reducible rfl) hs.1 rfl (fun _ h => (List.mem_cons_of_mem _ (List.mem_append_left _ (List.mem_append_left _ (List.mem_append_right _ h))))) (by decide) (List.mem_of_getElem? (i := 2) rfl) rfl dX8_refresh_17 ?_
    refine w_calli (As := []) (rest := [.ref (B + sb)]) (n := 0) (c_X0_version hc (by first | omega | with_reducible rfl)) gX8_refresh_X0_version rfl rfl rfl (by decide +kernel) ⟨Nat.le_of_ble_eq_true rfl, Nat.le_of_ble_eq_true rfl⟩ rfl (by first | omega | with_reducible rfl) hc.1 rfl (Nat.le_of_ble_eq_true rfl) ⟨Nat.zero_le _, Nat.zero_le _⟩ dX8_refresh_20 rfl (fun g_3 hp_4 => ?_)
    subst g_3
    refine w_put (i := 6) (T := TX8) (NF := 7) sb (by first | omega | with_reducible rfl) hs.1 rfl (fun _ h => (List.mem_cons_of_mem _ (List.mem_append_left _ (List.mem_append_left _ (List.mem_append_right _ h))))) tyX8 tyX8_ok nmX8 (by decide) (List.mem_of_getElem? (i := 1) rfl) rfl rfl rfl (Nat.le_of_ble_eq_true rfl) dX8_refresh_23 (fun g_5 he_6 hn_7 => ?_)
    have hs_8 : vSum cy B g_5 sb cb nb W Tb le gr cver := ⟨he_6, ((hn_7 _ (by omega)).trans hs.2.1), ((hn_7 _ (by omega)).trans hs.2.2)⟩
    have hn_9 : vNet cy B g_5 nb cb tf ((R : Nat) : Int) nver G := vNet_fr hn (fun q h1 h2 => hn_7 q (by omega))
    have hc_10 : vCol cy B g_5 cb sets n cver T X V Wy := vCol_fr hc (fun q h1 h2 => hn_7 q (by omega))
    have hfr_11 : ∀ q, (q < sb ∨ sb + 3 ≤ q) → g_5 q = g q := fun q hq => (hn_7 q (by omega)).trans (hfr_0 q hq)
    refine w_aload_n dX8_refresh_26 rfl 0 rfl ?_
    refine w_aload_n dX8_refresh_27 rfl 0 rfl ?_
    refine w_get (i := 1) (T := TX8) (NF := 7) sb (by first | omega | with_reducible rfl) hs_8.1 rfl (fun _ h => (List.mem_cons_of_mem _ (List.mem_append_left _ (List.mem_append_left _ (List.mem_append_right _ h))))) (by decide) (List.mem_of_getElem? (i := 3) rfl) rfl dX8_refresh_28 ?_
    refine w_bipush dX8_refresh_31 (by decide) ?_
    refine w_iconst dX8_refresh_33 ?_
    refine w_iconst dX8_refresh_34 ?_
    refine w_calll (As := [.int (zI 6), .int (zI 0), .int (zI 0)]) (rest := [.ref (B + sb)]) (n := 3) (c_X2_at hn_9 (by first | omega | with_reducible rfl) (by first | omega | with_reducible rfl) (by first | omega | with_reducible rfl) (by first | omega | with_reducible rfl)) gX8_refresh_X2_at rfl rfl rfl (by decide +kernel) ⟨Nat.le_of_ble_eq_true rfl, Nat.le_of_ble_eq_true rfl⟩ rfl (by first | omega | with_reducible rfl) hn_9.1 rfl (Nat.le_of_ble_eq_true rfl) ⟨Nat.zero_le _, Nat.zero_le _⟩ dX8_refresh_35 rfl (fun g_12 hp_13 => ?_)
    subst g_12
    refine w_as (st' := [.long (zJ (les (clL T V 0 n) R)), .ref (B + sb)]) (sc_l (NF_at (kd := 6) (j := 0) (a := 0) (m := n) hNF hth (by omega) hn5 hR (by omega) (by omega) rfl) rfl) ?_
    refine w_l2i dX8_refresh_38 (by first | omega | with_reducible rfl) ?_
    refine w_put (i := 4) (T := TX8) (NF := 7) sb (by first | omega | with_reducible rfl) hs_8.1 rfl (fun _ h => (List.mem_cons_of_mem _ (List.mem_append_left _ (List.mem_append_left _ (List.mem_append_right _ h))))) tyX8 tyX8_ok nmX8 (by decide) (List.mem_of_getElem? (i := 4) rfl) rfl rfl rfl (Nat.le_of_ble_eq_true rfl) dX8_refresh_39 (fun g_14 he_15 hn_16 => ?_)
    have hs_17 : vSum cy B g_14 sb cb nb W Tb (les (clL T V 0 n) R) gr cver := ⟨he_15, ((hn_16 _ (by omega)).trans hs_8.2.1), ((hn_16 _ (by omega)).trans hs_8.2.2)⟩
    have hn_18 : vNet cy B g_14 nb cb tf ((R : Nat) : Int) nver G := vNet_fr hn_9 (fun q h1 h2 => hn_16 q (by omega))
    have hc_19 : vCol cy B g_14 cb sets n cver T X V Wy := vCol_fr hc_10 (fun q h1 h2 => hn_16 q (by omega))
    have hfr_20 : ∀ q, (q < sb ∨ sb + 3 ≤ q) → g_14 q = g q := fun q hq => (hn_16 q (by omega)).trans (hfr_11 q hq)
    refine w_aload_n dX8_refresh_42 rfl 0 rfl ?_
    refine w_aload_n dX8_refresh_43 rfl 0 rfl ?_
    refine w_get (i := 1) (T := TX8) (NF := 7) sb (by first | omega | with_reducible rfl) hs_17.1 rfl (fun _ h => (List.mem_cons_of_mem _ (List.mem_append_left _ (List.mem_append_left _ (List.mem_append_right _ h))))) (by decide) (List.mem_of_getElem? (i := 3) rfl) rfl dX8_refresh_44 ?_
    refine w_bipush dX8_refresh_47 (by decide) ?_
    refine w_iconst dX8_refresh_49 ?_
    refine w_iconst dX8_refresh_50 ?_
    refine w_calll (As := [.int (zI 7), .int (zI 0), .int (zI 0)]) (rest := [.ref (B + sb)]) (n := 3) (c_X2_at hn_18 (by first | omega | with_reducible rfl) (by first | omega | with_reducible rfl) (by first | omega | with_reducible rfl) (by first | omega | with_reducible rfl)) gX8_refresh_X2_at rfl rfl rfl (by decide +kernel) ⟨Nat.le_of_ble_eq_true rfl, Nat.le_of_ble_eq_true rfl⟩ rfl (by first | omega | with_reducible rfl) hn_18.1 rfl (Nat.le_of_ble_eq_true rfl) ⟨Nat.zero_le _, Nat.zero_le _⟩ dX8_refresh_51 rfl (fun g_21 hp_22 => ?_)
    subst g_21
    refine w_as (st' := [.long (zJ (grs (clL T V 0 n) R)), .ref (B + sb)]) (sc_l (NF_at (kd := 7) (j := 0) (a := 0) (m := n) hNF hth (by omega) hn5 hR (by omega) (by omega) rfl) rfl) ?_
    refine w_l2i dX8_refresh_54 (by first | omega | with_reducible rfl) ?_
    refine w_put (i := 5) (T := TX8) (NF := 7) sb (by first | omega | with_reducible rfl) hs_17.1 rfl (fun _ h => (List.mem_cons_of_mem _ (List.mem_append_left _ (List.mem_append_left _ (List.mem_append_right _ h))))) tyX8 tyX8_ok nmX8 (by decide) (List.mem_of_getElem? (i := 5) rfl) rfl rfl rfl (Nat.le_of_ble_eq_true rfl) dX8_refresh_55 (fun g_23 he_24 hn_25 => ?_)
    have hs_26 : vSum cy B g_23 sb cb nb W Tb (les (clL T V 0 n) R) (grs (clL T V 0 n) R) cver := ⟨he_24, ((hn_25 _ (by omega)).trans hs_17.2.1), ((hn_25 _ (by omega)).trans hs_17.2.2)⟩
    have hn_27 : vNet cy B g_23 nb cb tf ((R : Nat) : Int) nver G := vNet_fr hn_18 (fun q h1 h2 => hn_25 q (by omega))
    have hc_28 : vCol cy B g_23 cb sets n cver T X V Wy := vCol_fr hc_19 (fun q h1 h2 => hn_25 q (by omega))
    have hfr_29 : ∀ q, (q < sb ∨ sb + 3 ≤ q) → g_23 q = g q := fun q hq => (hn_25 q (by omega)).trans (hfr_20 q hq)
    refine w_aload_n dX8_refresh_58 rfl 0 rfl ?_
    refine w_get (i := 2) (T := TX8) (NF := 7) sb (by first | omega | with_reducible rfl) hs_26.1 rfl (fun _ h => (List.mem_cons_of_mem _ (List.mem_append_left _ (List.mem_append_left _ (List.mem_append_right _ h))))) (by decide) (List.mem_of_getElem? (i := 6) rfl) rfl dX8_refresh_59 ?_
    refine w_lconst0 dX8_refresh_62 ?_
    refine w_callvS (As := [.ref (B + (sb + 1)), .long (zJ 0)]) (rest := []) (n := 2) (c_J7_fill_d0a16 hs_26.2.1 (by first | omega | with_reducible rfl) (by first | omega | with_reducible rfl)) gX8_refresh_J7_fill_d0a16 rfl rfl rfl (by decide +kernel) ⟨Nat.le_of_ble_eq_true rfl, Nat.le_of_ble_eq_true rfl⟩ rfl (Nat.le_of_ble_eq_true rfl) ⟨Nat.zero_le _, Nat.zero_le _⟩ dX8_refresh_63 rfl (fun g_30 hp_31 => ?_)
    obtain ⟨W1_32, fi_33, hfl_63, hf_34⟩ := hp_31
    have hq_35 : ∀ q, q ≠ (sb + 1) → g_30 q = g_23 q := fun q h9 => hf_34 q (by omega)
    have hs_36 : vSum cy B g_30 sb cb nb W1_32 Tb (les (clL T V 0 n) R) (grs (clL T V 0 n) R) cver := ⟨((hq_35 _ (by omega)).trans hs_26.1), fi_33, ((hq_35 _ (by omega)).trans hs_26.2.2)⟩
    have hn_37 : vNet cy B g_30 nb cb tf ((R : Nat) : Int) nver G := vNet_fr hn_27 (fun q h1 h2 => hq_35 q (by omega))
    have hc_38 : vCol cy B g_30 cb sets n cver T X V Wy := vCol_fr hc_28 (fun q h1 h2 => hq_35 q (by omega))
    have hfr_39 : ∀ q, (q < sb ∨ sb + 3 ≤ q) → g_30 q = g q := fun q hq => (hq_35 q (by omega)).trans (hfr_29 q hq)
    refine w_aload_n dX8_refresh_66 rfl 0 rfl ?_
    refine w_get (i := 3) (T := TX8) (NF := 7) sb (by first | omega | with_reducible rfl) hs_36.1 rfl (fun _ h => (List.mem_cons_of_mem _ (List.mem_append_left _ (List.mem_append_left _ (List.mem_append_right _ h))))) (by decide) (List.mem_of_getElem? (i := 7) rfl) rfl dX8_refresh_67 ?_
    refine w_iconst dX8_refresh_70 ?_
    refine w_callvS (As := [.ref (B + (sb + 2)), .int (zI 0)]) (rest := []) (n := 2) (c_J7_fill_53178 hs_36.2.2 (by first | omega | with_reducible rfl) (by first | omega | with_reducible rfl)) gX8_refresh_J7_fill_53178 rfl rfl rfl (by decide +kernel) ⟨Nat.le_of_ble_eq_true rfl, Nat.le_of_ble_eq_true rfl⟩ rfl (Nat.le_of_ble_eq_true rfl) ⟨Nat.zero_le _, Nat.zero_le _⟩ dX8_refresh_71 rfl (fun g_40 hp_41 => ?_)
    obtain ⟨W1_42, fi_43, hfl_71, hf_44⟩ := hp_41
    have hq_45 : ∀ q, q ≠ (sb + 2) → g_40 q = g_30 q := fun q h9 => hf_44 q (by omega)
    have hs_46 : vSum cy B g_40 sb cb nb W1_32 W1_42 (les (clL T V 0 n) R) (grs (clL T V 0 n) R) cver := ⟨((hq_45 _ (by omega)).trans hs_36.1), ((hq_45 _ (by omega)).trans hs_36.2.1), fi_43⟩
    have hn_47 : vNet cy B g_40 nb cb tf ((R : Nat) : Int) nver G := vNet_fr hn_37 (fun q h1 h2 => hq_45 q (by omega))
    have hc_48 : vCol cy B g_40 cb sets n cver T X V Wy := vCol_fr hc_38 (fun q h1 h2 => hq_45 q (by omega))
    have hfr_49 : ∀ q, (q < sb ∨ sb + 3 ≤ q) → g_40 q = g q := fun q hq => (hq_45 q (by omega)).trans (hfr_39 q hq)
    refine w_aload_n dX8_refresh_74 rfl 0 rfl ?_
    refine w_iconst dX8_refresh_75 ?_
    refine w_iconst dX8_refresh_76 ?_
    refine w_iconst dX8_refresh_77 ?_
    refine w_lconst1 dX8_refresh_78 ?_
    refine w_callv (As := [.int (zI 0), .int (zI 0), .int (zI 0), .long (zJ 1)]) (rest := []) (n := 4) (c_X8_walkFrom_top hs_46 hn_47 hc_48 (by first | omega | with_reducible rfl) (by first | omega | with_reducible rfl) (by first | omega | with_reducible rfl) (by first | omega | with_reducible rfl) (by first | omega | with_reducible rfl) hok (by first | omega | with_reducible rfl) hNF htf hWy (by first | omega | with_reducible rfl) hRt) gX8_refresh_X8_walkFrom rfl rfl rfl (by decide +kernel) ⟨Nat.le_of_ble_eq_true rfl, Nat.le_of_ble_eq_true rfl⟩ rfl (by first | omega | with_reducible rfl) hs_46.1 rfl (Nat.le_of_ble_eq_true rfl) ⟨Nat.zero_le _, Nat.zero_le _⟩ dX8_refresh_79 rfl (fun g_50 hp_51 => ?_)
    obtain ⟨hs_52, hf_53⟩ := hp_51
    have hn_54 : vNet cy B g_50 nb cb tf ((R : Nat) : Int) nver G := vNet_fr hn_47 (fun q h1 h2 => hf_53 q (by omega))
    have hc_55 : vCol cy B g_50 cb sets n cver T X V Wy := vCol_fr hc_48 (fun q h1 h2 => hf_53 q (by omega))
    have hfr_56 : ∀ q, (q < sb ∨ sb + 3 ≤ q) → g_50 q = g q := fun q hq => (hf_53 q (by omega)).trans (hfr_49 q hq)
    exact w_vret dX8_refresh_82 rfl ⟨(aW W1_32 (clL T V 0 n) R 0 1), (aT W1_42 (clL T V 0 n) R 0), hs_52, (fun y h1 h2 => by show _ + _ = _; rw [hfl_63 y h1 (by omega), Int.zero_add]), (fun y h1 h2 => by show _ + _ = _; rw [hfl_71 y h1 (by omega), Int.zero_add]), hfr_56⟩
  · obtain ⟨h01, h02, h03, h04⟩ := h0 c_11
    exact w_vret dX8_refresh_14 rfl ⟨W, Tb, (by have h9 := hs; rw [h01, h02, c_11] at h9; exact h9), h03, h04, hfr_0⟩
