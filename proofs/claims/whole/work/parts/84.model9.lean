/-! ===== the model: looks asked, strata joined ===== -/
abbrev Zt := Int × Int × Int × Int × Int × Int × Int × Int × Int × Int
theorem cv_jW2 {cs : Nat → List Co} {k : Nat} {y : Int} (hc : ∀ i, i < k + 1 → cok (cs i)) : sm (cvT (jW cs k) (swF (coL (cs k)) (coR (cs k))) 0 540 y) (540 * k + 1) = jW cs (k + 1) y := by
  have hk := grs_540 (hc k (by omega))
  have hg := jG_rg (k := k) (fun i hi => hc i (by omega))
  have e1 : sm (cvT (jW cs k) (swF (coL (cs k)) (coR (cs k))) 0 540 y) (540 * k + 1) = sm (fun a => sumL (fun u => if sc (coL (cs k)) u = y - a then wt (coL (cs k)) u * jW cs k a else 0) (tb (coL (cs k)) (coR (cs k)))) (540 * k + 1) := by
    refine sm_congr (fun a h1 h2 => ?_)
    unfold cvT
    by_cases h3 : 0 ≤ y - a ∧ y - a ≤ 540
    · rw [if_pos h3]
      unfold swF
      rw [sW_tb, ← sumL_mul]
      refine sumL_congr (fun u _ => ?_)
      rw [Int.zero_add, Int.one_mul]
      by_cases h4 : sc (coL (cs k)) u = y - a
      · rw [if_pos h4, if_pos h4, Int.mul_comm]
      · rw [if_neg h4, if_neg h4, Int.mul_zero]
    · rw [if_neg h3]
      refine (sumL_zero (fun u hu => ?_)).symm
      have h5 := sc_540 (hc k (by omega)) hu
      rw [if_neg (fun q => h3 (by omega))]
  rw [e1, sm_sumL, jW]
  refine sumL_congr (fun u hu => ?_)
  have h5 := sc_540 (hc k (by omega)) hu
  by_cases h6 : 0 ≤ y - sc (coL (cs k)) u ∧ y - sc (coL (cs k)) u ≤ 540 * k
  · rw [sm_one (z := y - sc (coL (cs k)) u) (fun i hi => if_neg (fun q => hi (by omega))) h6.1 (by omega), if_pos (by omega)]
  · rw [jW_out (k := k) (fun i hi => hc i (by omega)) (by omega), Int.mul_zero]
    refine sm_zero (fun a h1 h2 => if_neg (fun q => h6 (by omega)))
noncomputable def wiJ (cs : Nat → List Co) (k K E : Nat) (y : Int) : Int := sm (cvT (jW cs k) (swF (coL (cs k)) (coR (cs k))) 0 540 y) K + (if 0 ≤ y - ((K : Nat) : Int) ∧ y - ((K : Nat) : Int) < ((E : Nat) : Int) then jW cs k ((K : Nat) : Int) * swF (coL (cs k)) (coR (cs k)) (y - ((K : Nat) : Int)) else 0)
theorem wiJ_e {cs : Nat → List Co} {k K E : Nat} {W : Int → Int} {v : Int} (h : ∀ y : Int, 0 ≤ y → y < 1621 → W y = wiJ cs k K E y) (hr : ((K : Nat) : Int) + ((E : Nat) : Int) < 1621) (hv : v = jW cs k ((K : Nat) : Int) * swF (coL (cs k)) (coR (cs k)) ((E : Nat) : Int)) : ∀ y : Int, 0 ≤ y → y < 1621 → uZ W (((K : Nat) : Int) + ((E : Nat) : Int)) (W (((K : Nat) : Int) + ((E : Nat) : Int)) + v) y = wiJ cs k K (E + 1) y := fun y h1 h2 => by
  by_cases q : y = ((K : Nat) : Int) + ((E : Nat) : Int)
  · rw [q, uZ_same, h _ (by omega) (by omega)]
    unfold wiJ
    rw [if_neg (by omega), if_pos (by omega), hv, show ((K : Nat) : Int) + ((E : Nat) : Int) - ((K : Nat) : Int) = ((E : Nat) : Int) by omega]
    omega
  · rw [uZ_ne q, h y h1 h2]
    unfold wiJ
    by_cases z : 0 ≤ y - ((K : Nat) : Int) ∧ y - ((K : Nat) : Int) < ((E : Nat) : Int)
    · rw [if_pos z, if_pos (by omega)]
    · rw [if_neg z, if_neg (by omega)]
theorem wiJ_k {cs : Nat → List Co} {k K E : Nat} {W : Int → Int} (h : ∀ y : Int, 0 ≤ y → y < 1621 → W y = wiJ cs k K E y) (hE : E = 541 ∨ jW cs k ((K : Nat) : Int) = 0) : ∀ y : Int, 0 ≤ y → y < 1621 → W y = wiJ cs k (K + 1) 0 y := fun y h1 h2 => by
  rw [h y h1 h2]
  unfold wiJ
  rw [sm_1, if_neg (show ¬ (0 ≤ y - (((K + 1 : Nat)) : Int) ∧ y - (((K + 1 : Nat)) : Int) < ((0 : Nat) : Int)) by omega), Int.add_zero]
  congr 1
  unfold cvT
  rcases hE with hE | hE
  · by_cases z : 0 ≤ y - ((K : Nat) : Int) ∧ y - ((K : Nat) : Int) ≤ 540
    · rw [if_pos (by omega), if_pos z]
    · rw [if_neg (by omega), if_neg z]
  · rw [hE]
    simp
theorem wiJ_0 {cs : Nat → List Co} {k : Nat} {W : Int → Int} (h : ∀ y : Int, 0 ≤ y → y < 1621 → W y = 0) : ∀ y : Int, 0 ≤ y → y < 1621 → W y = wiJ cs k 0 0 y := fun y h1 h2 => by
  rw [h y h1 h2]
  unfold wiJ
  rw [if_neg (by omega)]
  rfl
theorem wiJ_fin {cs : Nat → List Co} {k K : Nat} {y : Int} : wiJ cs k K 0 y = sm (cvT (jW cs k) (swF (coL (cs k)) (coR (cs k))) 0 540 y) K := by
  unfold wiJ
  rw [if_neg (by omega), Int.add_zero]
set_option maxHeartbeats 4000000 in
set_option maxRecDepth 100000 in
theorem m_n_X11_looks {l : Launch} {D : va_G} {cy : Nat → ClassId} {B N : Nat} {g : Nat → va_E} {cg le sp va o0 tn aw mw fw ls gs sn sw kr : Int} {Nw : Int → Int} {S : St} {s what : Int} (hm : vM cy B g 141 cg le sp va o0 tn aw mw fw ls gs sn sw kr) (hnow : vIA cy B g 142 49 Nw) (hN : 160 ≤ N) (hER : ER Nw S) (h_s : -2147483648 ≤ s ∧ s < 2147483648) (h_what : -2147483648 ≤ what ∧ what < 2147483648) (hb : ¬ ((0 ≤ s ∧ s < S.length) ∧ 0 ≤ what ∧ what ≤ 1)) : CTi l yX11_looks wsX11_looks (rmo 6 152) D cy B N g [.ref (B + 141), .int (zI s), .int (zI what)] (-1) (fun g' => g' = g) := by
  refine WW_of (cc := cX11_looks) (maxL := 3) (ret := (some .int)) (own := RX11) (by decide) rfl rfl (Nat.le_of_ble_eq_true rfl) rfl ?_
  intro pp ee ss mm bl me co hmn
  refine w_aload_n dX11_looks_0 rfl 0 rfl ?_
  refine w_iload_n dX11_looks_1 rfl 1 rfl ?_
  refine w_calli (As := [.int (zI s)]) (rest := []) (n := 1) (c_X11_isStratum hm hnow (by first | omega | with_reducible rfl) (by first | omega | with_reducible rfl) (by first | omega | with_reducible rfl)) gX11_looks_X11_isStratum rfl rfl rfl (by decide +kernel) ⟨Nat.le_of_ble_eq_true rfl, Nat.le_of_ble_eq_true rfl⟩ rfl (by first | omega | with_reducible rfl) hm rfl (Nat.le_of_ble_eq_true rfl) ⟨Nat.zero_le _, Nat.zero_le _⟩ dX11_looks_2 rfl (fun g_1 hp_2 => ?_)
  subst g_1
  refine w_ifeqB 34 dX11_looks_5 (by decide) (fun c_5 => ?_) (fun c_5 => ?_)
  · refine w_iconst dX11_looks_34 ?_
    exact w_iret dX11_looks_35 rfl (by first | with_reducible rfl | omega | (split <;> omega)) rfl
  · refine w_iload_n dX11_looks_8 rfl 2 rfl ?_
    refine w_iconst dX11_looks_9 ?_
    refine w_iconst dX11_looks_10 ?_
    refine w_calliS (As := [.int (zI what), .int (zI 0), .int (zI 1)]) (rest := []) (n := 3) (c_X11_in (by first | omega | with_reducible rfl) (by first | omega | with_reducible rfl) (by first | omega | with_reducible rfl)) gX11_looks_X11_in rfl rfl rfl (by decide +kernel) ⟨Nat.le_of_ble_eq_true rfl, Nat.le_of_ble_eq_true rfl⟩ rfl (Nat.le_of_ble_eq_true rfl) ⟨Nat.zero_le _, Nat.zero_le _⟩ dX11_looks_11 rfl (fun g_3 hp_4 => ?_)
    subst g_3
    refine w_ifeqB 34 dX11_looks_14 (by decide) (fun c_14 => ?_) (fun c_14 => ?_)
    · refine w_iconst dX11_looks_34 ?_
      exact w_iret dX11_looks_35 rfl (by first | with_reducible rfl | omega | (split <;> omega)) rfl
    · exfalso; omega
set_option maxHeartbeats 4000000 in
set_option maxRecDepth 100000 in
theorem m_y_X11_looks {l : Launch} {D : va_G} {cy : Nat → ClassId} {B N : Nat} {g : Nat → va_E} {cg le sp va o0 tn aw mw fw ls gs sn sw kr : Int} {Nw Sv Tr Su So : Int → Int} {Be Lo Sh Ro : Int → Int} {S : St} {k : Nat} {c : List Co} {what : Int} (hm : vM cy B g 141 cg le sp va o0 tn aw mw fw ls gs sn sw kr) (hnow : vIA cy B g 142 49 Nw) (hse : vLA cy B g 146 169 Sv) (hbe : vLA cy B g 153 366 Be) (hlo : vLA cy B g 154 366 Lo) (hsh : vLA cy B g 155 366 Sh) (hro : vIA cy B g 156 366 Ro) (htr : vIA cy B g 157 5 Tr) (hsu : vIA cy B g 158 6 Su) (hso : vLA cy B g 159 6 So) (hN : 160 ≤ N) (hER : ER Nw S) (hkS : k < S.length) (hcS : S.getD k [] = c) (hc : cok c) (h2 : 2 ≤ c.length) (hSv : SvOK Sv) (h_what : -2147483648 ≤ what ∧ what < 2147483648) (hw : 0 ≤ what ∧ what ≤ 1) : CTi l yX11_looks wsX11_looks (rmo 6 152) D cy B N g [.ref (B + 141), .int (zI ((k : Nat) : Int)), .int (zI what)] (aLoo c what) (fun g' => ∃ Be1 : Int → Int, ∃ Lo1 : Int → Int, ∃ Sh1 : Int → Int, ∃ Ro1 : Int → Int, ∃ Tr1 : Int → Int, ∃ Su1 : Int → Int, ∃ So1 : Int → Int, vLA cy B g' 153 366 Be1 ∧ vLA cy B g' 154 366 Lo1 ∧ vLA cy B g' 155 366 Sh1 ∧ vIA cy B g' 156 366 Ro1 ∧ vIA cy B g' 157 5 Tr1 ∧ vIA cy B g' 158 6 Su1 ∧ vLA cy B g' 159 6 So1 ∧ (∀ q, (q ≠ 153 ∧ q ≠ 154 ∧ q ≠ 155 ∧ q ≠ 156 ∧ q ≠ 157 ∧ q ≠ 158 ∧ q ≠ 159) → g' q = g q)) := by
  refine WW_of (cc := cX11_looks) (maxL := 3) (ret := (some .int)) (own := RX11) (by decide) rfl rfl (Nat.le_of_ble_eq_true rfl) rfl ?_
  intro pp ee ss mm bl me co hmn
  have hfr_0 : ∀ q, (q ≠ 153 ∧ q ≠ 154 ∧ q ≠ 155 ∧ q ≠ 156 ∧ q ≠ 157 ∧ q ≠ 158 ∧ q ≠ 159) → g q = g q := fun _ _ => rfl
  have hmc : MC Nw k c := by have h := hER.2 k hkS; rw [hcS] at h; exact h
  have hk3 := hmc.1
  refine w_aload_n dX11_looks_0 rfl 0 rfl ?_
  refine w_iload_n dX11_looks_1 rfl 1 rfl ?_
  refine w_calli (As := [.int (zI ((k : Nat) : Int))]) (rest := []) (n := 1) (c_X11_isStratum hm hnow (by first | omega | with_reducible rfl) (by first | omega | with_reducible rfl) (by first | omega | with_reducible rfl)) gX11_looks_X11_isStratum rfl rfl rfl (by decide +kernel) ⟨Nat.le_of_ble_eq_true rfl, Nat.le_of_ble_eq_true rfl⟩ rfl (by first | omega | with_reducible rfl) hm rfl (Nat.le_of_ble_eq_true rfl) ⟨Nat.zero_le _, Nat.zero_le _⟩ dX11_looks_2 rfl (fun g_1 hp_2 => ?_)
  subst g_1
  refine w_ifeqB 34 dX11_looks_5 (by decide) (fun c_5 => ?_) (fun c_5 => ?_)
  · exfalso; omega
  · refine w_iload_n dX11_looks_8 rfl 2 rfl ?_
    refine w_iconst dX11_looks_9 ?_
    refine w_iconst dX11_looks_10 ?_
    refine w_calliS (As := [.int (zI what), .int (zI 0), .int (zI 1)]) (rest := []) (n := 3) (c_X11_in (by first | omega | with_reducible rfl) (by first | omega | with_reducible rfl) (by first | omega | with_reducible rfl)) gX11_looks_X11_in rfl rfl rfl (by decide +kernel) ⟨Nat.le_of_ble_eq_true rfl, Nat.le_of_ble_eq_true rfl⟩ rfl (Nat.le_of_ble_eq_true rfl) ⟨Nat.zero_le _, Nat.zero_le _⟩ dX11_looks_11 rfl (fun g_3 hp_4 => ?_)
    subst g_3
    refine w_ifeqB 34 dX11_looks_14 (by decide) (fun c_14 => ?_) (fun c_14 => ?_)
    · exfalso; omega
    · refine w_aload_n dX11_looks_17 rfl 0 rfl ?_
      refine w_iload_n dX11_looks_18 rfl 1 rfl ?_
      refine w_iload_n dX11_looks_19 rfl 2 rfl ?_
      refine w_if_ne 27 dX11_looks_20 (by decide) (by first | omega | with_reducible rfl) (fun c_20 => ?_) (fun c_20 => ?_)
      · refine w_iconst dX11_looks_27 ?_
        refine w_calli (As := [.int (zI ((k : Nat) : Int)), .int (zI 0)]) (rest := []) (n := 2) (m_walks_0 (k := k) hm hnow hse hbe hlo hsh hro htr hsu hso (by first | omega | with_reducible rfl) (by first | omega | with_reducible rfl) (by first | omega | with_reducible rfl) (by first | omega | with_reducible rfl) (by first | omega | with_reducible rfl)) gX11_looks_X11_walks rfl rfl rfl (by decide +kernel) ⟨Nat.le_of_ble_eq_true rfl, Nat.le_of_ble_eq_true rfl⟩ rfl (by first | omega | with_reducible rfl) hm rfl (Nat.le_of_ble_eq_true rfl) ⟨Nat.zero_le _, Nat.zero_le _⟩ dX11_looks_28 rfl (fun g_5 hp_6 => ?_)
        obtain ⟨Be1_7, Lo1_8, Sh1_9, Ro1_10, Tr1_11, Su1_12, So1_13, hbe_14, hlo_15, hsh_16, hro_17, htr_18, hsu_19, hso_20, hf_21⟩ := hp_6
        have hm_22 : vM cy B g_5 141 cg le sp va o0 tn aw mw fw ls gs sn sw kr := vM_fr hm (fun q h1 h2 => hf_21 q (by omega))
        have hnow_23 : vIA cy B g_5 142 49 Nw := vIA_fr hnow (fun q h1 h2 => hf_21 q (by omega))
        have hse_24 : vLA cy B g_5 146 169 Sv := vLA_fr hse (fun q h1 h2 => hf_21 q (by omega))
        have hfr_25 : ∀ q, (q ≠ 153 ∧ q ≠ 154 ∧ q ≠ 155 ∧ q ≠ 156 ∧ q ≠ 157 ∧ q ≠ 158 ∧ q ≠ 159) → g_5 q = g q := fun q hq => (hf_21 q (by omega)).trans (hfr_0 q hq)
        refine w_goto 35 dX11_looks_31 (by decide) ?_
        refine w_as (st' := [.int (zI (lk (coL c) (coR c)))]) (sc_i (wk_lk _ _ _) rfl) ?_
        exact w_iret dX11_looks_35 rfl (by unfold aLoo; first | (rw [if_pos (by omega)]; done) | (rw [if_neg (by omega), if_pos (by omega)]; done)) ⟨Be1_7, Lo1_8, Sh1_9, Ro1_10, Tr1_11, Su1_12, So1_13, hbe_14, hlo_15, hsh_16, hro_17, htr_18, hsu_19, hso_20, hfr_25⟩
      · refine w_iconst dX11_looks_23 ?_
        refine w_goto 28 dX11_looks_24 (by decide) ?_
        refine w_calli (As := [.int (zI ((k : Nat) : Int)), .int (zI 1)]) (rest := []) (n := 2) (m_walks_1 (k := k) hm hnow hse hbe hlo hsh hro htr hsu hso (by first | omega | with_reducible rfl) (by first | omega | with_reducible rfl) (by first | omega | with_reducible rfl) (by first | omega | with_reducible rfl) (by first | omega | with_reducible rfl)) gX11_looks_X11_walks rfl rfl rfl (by decide +kernel) ⟨Nat.le_of_ble_eq_true rfl, Nat.le_of_ble_eq_true rfl⟩ rfl (by first | omega | with_reducible rfl) hm rfl (Nat.le_of_ble_eq_true rfl) ⟨Nat.zero_le _, Nat.zero_le _⟩ dX11_looks_28 rfl (fun g_26 hp_27 => ?_)
        obtain ⟨Be1_28, Lo1_29, Sh1_30, Ro1_31, Tr1_32, Su1_33, So1_34, hbe_35, hlo_36, hsh_37, hro_38, htr_39, hsu_40, hso_41, hf_42⟩ := hp_27
        have hm_43 : vM cy B g_26 141 cg le sp va o0 tn aw mw fw ls gs sn sw kr := vM_fr hm (fun q h1 h2 => hf_42 q (by omega))
        have hnow_44 : vIA cy B g_26 142 49 Nw := vIA_fr hnow (fun q h1 h2 => hf_42 q (by omega))
        have hse_45 : vLA cy B g_26 146 169 Sv := vLA_fr hse (fun q h1 h2 => hf_42 q (by omega))
        have hfr_46 : ∀ q, (q ≠ 153 ∧ q ≠ 154 ∧ q ≠ 155 ∧ q ≠ 156 ∧ q ≠ 157 ∧ q ≠ 158 ∧ q ≠ 159) → g_26 q = g q := fun q hq => (hf_42 q (by omega)).trans (hfr_0 q hq)
        refine w_goto 35 dX11_looks_31 (by decide) ?_
        refine w_as (st' := [.int (zI (rk 2 (coP c) (coL c) (coR c) 1))]) (sc_i (wk_rk _ _ _) rfl) ?_
        exact w_iret dX11_looks_35 rfl (by unfold aLoo; first | (rw [if_pos (by omega)]; done) | (rw [if_neg (by omega), if_pos (by omega)]; done)) ⟨Be1_28, Lo1_29, Sh1_30, Ro1_31, Tr1_32, Su1_33, So1_34, hbe_35, hlo_36, hsh_37, hro_38, htr_39, hsu_40, hso_41, hfr_46⟩

set_option maxHeartbeats 4000000 in
set_option maxRecDepth 100000 in
theorem c_X11_joins {l : Launch} {D : va_G} {cy : Nat → ClassId} {B N : Nat} {g : Nat → va_E} {cg le sp va o0 tn aw mw fw ls gs sn sw kr : Int} {Nw Sv Tb Lk Bs Jo Wi : Int → Int} {S : St} (hm : vM cy B g 141 cg le sp va o0 tn aw mw fw ls gs sn sw kr) (hnow : vIA cy B g 142 49 Nw) (hse : vLA cy B g 146 169 Sv) (htb : vIA cy B g 147 5 Tb) (hlk : vIA cy B g 148 5 Lk) (hbs : vLA cy B g 149 541 Bs) (hjo : vLA cy B g 150 1621 Jo) (hwi : vLA cy B g 151 1621 Wi) (hN : 160 ≤ N) (hER : ER Nw S) (hck : ∀ i : Nat, i < S.length → cok (S.getD i []) ∧ 2 ≤ (S.getD i []).length) (hSv : SvOK Sv) (hrg : rgM mw fw ls gs) : CTi l yX11_joins wsX11_joins (rmo 6 145) D cy B N g [.ref (B + 141)] (if jA (fun ss => S.getD ss []) S.length ≤ 9223372036854775807 then 1 else 0) (fun g' => ∃ o01 : Int, ∃ tn1 : Int, ∃ aw1 : Int, ∃ mw1 : Int, ∃ fw1 : Int, ∃ ls1 : Int, ∃ gs1 : Int, ∃ sn1 : Int, ∃ sw1 : Int, ∃ kr1 : Int, ∃ Tb1 : Int → Int, ∃ Lk1 : Int → Int, ∃ Bs1 : Int → Int, ∃ Jo1 : Int → Int, ∃ Wi1 : Int → Int, vM cy B g' 141 cg le sp va o01 tn1 aw1 mw1 fw1 ls1 gs1 sn1 sw1 kr1 ∧ vIA cy B g' 147 5 Tb1 ∧ vIA cy B g' 148 5 Lk1 ∧ vLA cy B g' 149 541 Bs1 ∧ vLA cy B g' 150 1621 Jo1 ∧ vLA cy B g' 151 1621 Wi1 ∧ (rgM mw1 fw1 ls1 gs1) ∧ (jA (fun ss => S.getD ss []) S.length ≤ 9223372036854775807 → ∀ y : Int, 0 ≤ y → y < 1621 → Jo1 y = jW (fun ss => S.getD ss []) S.length y) ∧ (∀ q, (q ≠ 141 ∧ q ≠ 147 ∧ q ≠ 148 ∧ q ≠ 149 ∧ q ≠ 150 ∧ q ≠ 151) → g' q = g q)) := by
  refine WW_of (cc := cX11_joins) (maxL := 6) (ret := (some .boolean)) (own := RX11) (by decide) rfl rfl (Nat.le_of_ble_eq_true rfl) rfl ?_
  intro pp ee ss mm bl me co hmn
  have hfr_0 : ∀ q, (q ≠ 141 ∧ q ≠ 147 ∧ q ≠ 148 ∧ q ≠ 149 ∧ q ≠ 150 ∧ q ≠ 151) → g q = g q := fun _ _ => rfl
  have hS3 := hER.1
  have hck1 : ∀ i : Nat, i < S.length → cok (S.getD i []) := fun i hi => (hck i hi).1
  refine w_iconst dX11_joins_0 ?_
  refine w_istore_n [(1, .int (zI 0)), (0, .ref (B + 141))] dX11_joins_1 rfl (by decide) rfl ?_
  refine w_sub [(0, .ref (B + 141)), (1, .int (zI 0))] [1, 0] rfl ?_
  refine w_lv (lv' := [(0, .ref (B + 141)), (1, .int (zI ((0 : Nat) : Int)))]) (lc_s (lc_i (by first | omega | with_reducible rfl) rfl)) ?_
  refine w_loop3 (fun (i : Nat) (Joi : Int → Int) (gl_1 : (Nat → va_E)) => vM cy B gl_1 141 cg le sp va o0 tn aw mw fw ls gs sn sw kr ∧ vIA cy B gl_1 142 49 Nw ∧ vLA cy B gl_1 146 169 Sv ∧ vIA cy B gl_1 147 5 Tb ∧ vIA cy B gl_1 148 5 Lk ∧ vLA cy B gl_1 149 541 Bs ∧ vLA cy B gl_1 150 1621 Joi ∧ vLA cy B gl_1 151 1621 Wi ∧ (∀ q, (q ≠ 141 ∧ q ≠ 147 ∧ q ≠ 148 ∧ q ≠ 149 ∧ q ≠ 150 ∧ q ≠ 151) → gl_1 q = g q) ∧ i ≤ 1621 ∧ (∀ y : Int, 0 ≤ y → y < i → Joi y = if y = 0 then 1 else 0)) (fun (i : Nat) (Joi : Int → Int) (gl_1 : (Nat → va_E)) => 1621 - i) (fun (i : Nat) (Joi : Int → Int) (gl_1 : (Nat → va_E)) => gl_1) (fun (i : Nat) (Joi : Int → Int) (gl_1 : (Nat → va_E)) => [(0, .ref (B + 141)), (1, .int (zI ((i : Nat) : Int)))]) ?_ 0 Jo g ⟨hm, hnow, hse, htb, hlk, hbs, hjo, hwi, hfr_0, (by first | omega | with_reducible rfl), (fun y h1 h2 => by omega)⟩
  rintro i Joi gl_1 ⟨hm_2, hnow_3, hse_4, htb_5, hlk_6, hbs_7, hjo_8, hwi_9, hfr_10, hi, hz9⟩ ih_2
  refine w_iload_n dX11_joins_2 rfl 1 rfl ?_
  refine w_sipush dX11_joins_3 (by decide) ?_
  refine w_icmp_ge 30 dX11_joins_6 (by decide) (by first | omega | with_reducible rfl) (by first | omega | with_reducible rfl) (fun c_6 => ?_) (fun c_6 => ?_)
  · refine w_lconst1 dX11_joins_30 ?_
    refine w_lstore_n [(1, .long (zJ 1)), (0, .ref (B + 141))] dX11_joins_31 rfl (by decide) rfl ?_
    refine w_iconst dX11_joins_32 ?_
    refine w_istore_n [(3, .int (zI 0)), (1, .long (zJ 1)), (0, .ref (B + 141))] dX11_joins_33 rfl (by decide) rfl ?_
    refine w_sub [(0, .ref (B + 141)), (1, .long (zJ 1)), (3, .int (zI 0))] [2, 1, 0] rfl ?_
    refine w_lv (lv' := [(0, .ref (B + 141)), (1, .long (zJ (jA (fun ss => S.getD ss []) 0))), (3, .int (zI ((0 : Nat) : Int)))]) (lc_s (lc_l rfl (lc_i (by first | omega | with_reducible rfl) rfl))) ?_
    refine w_loop8 (fun (k : Nat) (Z : Zt) (Tbj : Int → Int) (Lkj : Int → Int) (Bsj : Int → Int) (Joj : Int → Int) (Wij : Int → Int) (gl_11 : (Nat → va_E)) => vM cy B gl_11 141 cg le sp va (Z.1) (Z.2.1) (Z.2.2.1) (Z.2.2.2.1) (Z.2.2.2.2.1) (Z.2.2.2.2.2.1) (Z.2.2.2.2.2.2.1) (Z.2.2.2.2.2.2.2.1) (Z.2.2.2.2.2.2.2.2.1) (Z.2.2.2.2.2.2.2.2.2) ∧ vIA cy B gl_11 142 49 Nw ∧ vLA cy B gl_11 146 169 Sv ∧ vIA cy B gl_11 147 5 Tbj ∧ vIA cy B gl_11 148 5 Lkj ∧ vLA cy B gl_11 149 541 Bsj ∧ vLA cy B gl_11 150 1621 Joj ∧ vLA cy B gl_11 151 1621 Wij ∧ (∀ q, (q ≠ 141 ∧ q ≠ 147 ∧ q ≠ 148 ∧ q ≠ 149 ∧ q ≠ 150 ∧ q ≠ 151) → gl_11 q = g q) ∧ k ≤ S.length ∧ (∀ y : Int, 0 ≤ y → y < 1621 → Joj y = jW (fun ss => S.getD ss []) k y) ∧ jA (fun ss => S.getD ss []) k ≤ 9223372036854775807 ∧ rgM Z.2.2.2.1 Z.2.2.2.2.1 Z.2.2.2.2.2.1 Z.2.2.2.2.2.2.1) (fun (k : Nat) (Z : Zt) (Tbj : Int → Int) (Lkj : Int → Int) (Bsj : Int → Int) (Joj : Int → Int) (Wij : Int → Int) (gl_11 : (Nat → va_E)) => S.length - k) (fun (k : Nat) (Z : Zt) (Tbj : Int → Int) (Lkj : Int → Int) (Bsj : Int → Int) (Joj : Int → Int) (Wij : Int → Int) (gl_11 : (Nat → va_E)) => gl_11) (fun (k : Nat) (Z : Zt) (Tbj : Int → Int) (Lkj : Int → Int) (Bsj : Int → Int) (Joj : Int → Int) (Wij : Int → Int) (gl_11 : (Nat → va_E)) => [(0, .ref (B + 141)), (1, .long (zJ (jA (fun ss => S.getD ss []) k))), (3, .int (zI ((k : Nat) : Int)))]) ?_ 0 (o0, tn, aw, mw, fw, ls, gs, sn, sw, kr) Tb Lk Bs Joi Wi gl_1 ⟨(by have h9 := hm_2; exact h9), hnow_3, hse_4, htb_5, hlk_6, hbs_7, hjo_8, hwi_9, hfr_10, (by first | omega | with_reducible rfl), (fun y h1 h2 => by rw [jW]; exact hz9 y h1 (by omega)), (by rw [jA]; omega), hrg⟩
    rintro k Z Tbj Lkj Bsj Joj Wij gl_11 ⟨hm_12, hnow_13, hse_14, htb_15, hlk_16, hbs_17, hjo_18, hwi_19, hfr_20, hk, hJ9, hA, hrz⟩ ih_34
    have hckk : ∀ i : Nat, i < k → cok ((fun ss => S.getD ss []) i) := fun i hi => hck1 i (by omega)
    have hA1 := jA_pos hckk
    refine w_iload_n dX11_joins_34 rfl 2 rfl ?_
    refine w_aload_n dX11_joins_35 rfl 0 rfl ?_
    refine w_get (i := 0) (T := TX11) (NF := 32) 141 (by first | omega | with_reducible rfl) hm_12 rfl (fun _ h => (List.mem_cons_of_mem _ (List.mem_append_right _ h))) (by decide) (List.mem_of_getElem? (i := 2) rfl) rfl dX11_joins_36 ?_
    refine w_iconst dX11_joins_39 ?_
    refine w_iald 142 (by first | omega | with_reducible rfl) hnow_13 (by first | omega | with_reducible rfl) dX11_joins_40 ?_
    refine w_as (st' := [.int (zI ((S.length : Nat) : Int)), .int (zI ((k : Nat) : Int))]) (sc_i (by first | omega | with_reducible rfl) rfl) ?_
    refine w_icmp_ge 210 dX11_joins_41 (by decide) (by first | omega | with_reducible rfl) (by first | omega | with_reducible rfl) (fun c_41 => ?_) (fun c_41 => ?_)
    · have hke : k = S.length := by omega
      refine w_iconst dX11_joins_210 ?_
      exact w_zret dX11_joins_211 rfl rfl (by rw [if_pos (by rw [← hke]; exact hA)]) ⟨(Z.1), (Z.2.1), (Z.2.2.1), (Z.2.2.2.1), (Z.2.2.2.2.1), (Z.2.2.2.2.2.1), (Z.2.2.2.2.2.2.1), (Z.2.2.2.2.2.2.2.1), (Z.2.2.2.2.2.2.2.2.1), (Z.2.2.2.2.2.2.2.2.2), Tbj, Lkj, Bsj, Joj, Wij, hm_12, htb_15, hlk_16, hbs_17, hjo_18, hwi_19, hrz, (fun _ => by rw [← hke]; exact hJ9), hfr_20⟩
    · have hbd := stW_bd (hck1 k (by omega)) 0
      have hdv := dv_rg hbd.2.2.1
      refine w_aload_n dX11_joins_44 rfl 0 rfl ?_
      refine w_iload_n dX11_joins_45 rfl 2 rfl ?_
      refine w_iconst dX11_joins_46 ?_
      refine w_callv (As := [.int (zI ((k : Nat) : Int)), .int (zI 0)]) (rest := []) (n := 2) (c_X11_goesThrough (k := k) (law := 0) hm_12 hnow_13 hse_14 htb_15 hlk_16 hbs_17 (by first | omega | with_reducible rfl) (hER.2 k (by omega)) (hck1 k (by omega)) (hck k (by omega)).2 (by first | omega | with_reducible rfl) hrz (by first | omega | with_reducible rfl)) gX11_joins_X11_goesThrough rfl rfl rfl (by decide +kernel) ⟨Nat.le_of_ble_eq_true rfl, Nat.le_of_ble_eq_true rfl⟩ rfl (by first | omega | with_reducible rfl) hm_12 rfl (Nat.le_of_ble_eq_true rfl) ⟨Nat.zero_le _, Nat.zero_le _⟩ dX11_joins_47 rfl (fun g_21 hp_22 => ?_)
      obtain ⟨Tb1_23, Lk1_24, Bs1_25, hm_26, htb_27, hlk_28, hbs_29, hLk1_47, hBs1_47, hf_30⟩ := hp_22
      have hnow_31 : vIA cy B g_21 142 49 Nw := vIA_fr hnow_13 (fun q h1 h2 => hf_30 q (by omega))
      have hse_32 : vLA cy B g_21 146 169 Sv := vLA_fr hse_14 (fun q h1 h2 => hf_30 q (by omega))
      have hjo_33 : vLA cy B g_21 150 1621 Joj := vLA_fr hjo_18 (fun q h1 h2 => hf_30 q (by omega))
      have hwi_34 : vLA cy B g_21 151 1621 Wij := vLA_fr hwi_19 (fun q h1 h2 => hf_30 q (by omega))
      have hfr_35 : ∀ q, (q ≠ 141 ∧ q ≠ 147 ∧ q ≠ 148 ∧ q ≠ 149 ∧ q ≠ 150 ∧ q ≠ 151) → g_21 q = g q := fun q hq => (hf_30 q (by omega)).trans (hfr_20 q hq)
      refine w_lload_n dX11_joins_50 rfl 1 rfl ?_
      refine w_ldc2 (z := 9223372036854775807) (List.mem_of_getElem? (i := 3) rfl) dX11_joins_51 ?_
      refine w_aload_n dX11_joins_54 rfl 0 rfl ?_
      refine w_get (i := 12) (T := TX11) (NF := 32) 141 (by first | omega | with_reducible rfl) hm_26 rfl (fun _ h => (List.mem_cons_of_mem _ (List.mem_append_right _ h))) (by decide) (List.mem_of_getElem? (i := 4) rfl) rfl dX11_joins_55 ?_
      refine w_ldiv dX11_joins_58 (by first | omega | with_reducible rfl) (by first | omega | with_reducible rfl) ?_
      refine w_lcmp_le 65 dX11_joins_59 dX11_joins_60 (by decide) (by first | omega | with_reducible rfl) (by first | omega | with_reducible rfl) (fun c_59 => ?_) (fun c_59 => ?_)
      · refine w_lload_n dX11_joins_65 rfl 1 rfl ?_
        refine w_aload_n dX11_joins_66 rfl 0 rfl ?_
        refine w_get (i := 12) (T := TX11) (NF := 32) 141 (by first | omega | with_reducible rfl) hm_26 rfl (fun _ h => (List.mem_cons_of_mem _ (List.mem_append_right _ h))) (by decide) (List.mem_of_getElem? (i := 4) rfl) rfl dX11_joins_67 ?_
        refine w_lmul dX11_joins_70 ?_
        refine w_lstore_n [(1, .long (zJ ((jA (fun ss => S.getD ss []) k) * (bh (coL (S.getD k [])) (coR (S.getD k [])))))), (0, .ref (B + 141)), (3, .int (zI ((k : Nat) : Int)))] dX11_joins_71 rfl (by decide) rfl ?_
        refine w_iconst dX11_joins_72 ?_
        refine w_istore [(4, .int (zI 0)), (1, .long (zJ ((jA (fun ss => S.getD ss []) k) * (bh (coL (S.getD k [])) (coR (S.getD k [])))))), (0, .ref (B + 141)), (3, .int (zI ((k : Nat) : Int)))] dX11_joins_73 (by decide) rfl ?_
        refine w_sub [(0, .ref (B + 141)), (1, .long (zJ ((jA (fun ss => S.getD ss []) k) * (bh (coL (S.getD k [])) (coR (S.getD k [])))))), (3, .int (zI ((k : Nat) : Int))), (4, .int (zI 0))] [2, 1, 3, 0] rfl ?_
        refine w_lv (lv' := [(0, .ref (B + 141)), (1, .long (zJ ((jA (fun ss => S.getD ss []) k) * (bh (coL (S.getD k [])) (coR (S.getD k [])))))), (3, .int (zI ((k : Nat) : Int))), (4, .int (zI ((0 : Nat) : Int)))]) (lc_s (lc_s (lc_s (lc_i (by first | omega | with_reducible rfl) rfl)))) ?_
        refine w_loop3 (fun (i : Nat) (Wii : Int → Int) (gl_36 : (Nat → va_E)) => vM cy B gl_36 141 cg le sp va ((k : Nat) : Int) (tc (coL (S.getD k [])) (coR (S.getD k []))) (bh (coL (S.getD k [])) (coR (S.getD k []))) (lg (coL (S.getD k [])) (coR (S.getD k []))) (sh (coL (S.getD k [])) (coR (S.getD k []))) (les (coL (S.getD k [])) (coR (S.getD k []))) (grs (coL (S.getD k [])) (coR (S.getD k []))) (stT (S.getD k []) 0) (stW (S.getD k []) 0) (aRan (S.getD k [])) ∧ vIA cy B gl_36 142 49 Nw ∧ vLA cy B gl_36 146 169 Sv ∧ vIA cy B gl_36 147 5 Tb1_23 ∧ vIA cy B gl_36 148 5 Lk1_24 ∧ vLA cy B gl_36 149 541 Bs1_25 ∧ vLA cy B gl_36 150 1621 Joj ∧ vLA cy B gl_36 151 1621 Wii ∧ (∀ q, (q ≠ 141 ∧ q ≠ 147 ∧ q ≠ 148 ∧ q ≠ 149 ∧ q ≠ 150 ∧ q ≠ 151) → gl_36 q = g q) ∧ i ≤ 1621 ∧ (∀ y : Int, 0 ≤ y → y < i → Wii y = 0)) (fun (i : Nat) (Wii : Int → Int) (gl_36 : (Nat → va_E)) => 1621 - i) (fun (i : Nat) (Wii : Int → Int) (gl_36 : (Nat → va_E)) => gl_36) (fun (i : Nat) (Wii : Int → Int) (gl_36 : (Nat → va_E)) => [(0, .ref (B + 141)), (1, .long (zJ ((jA (fun ss => S.getD ss []) k) * (bh (coL (S.getD k [])) (coR (S.getD k [])))))), (3, .int (zI ((k : Nat) : Int))), (4, .int (zI ((i : Nat) : Int)))]) ?_ 0 Wij g_21 ⟨hm_26, hnow_31, hse_32, htb_27, hlk_28, hbs_29, hjo_33, hwi_34, hfr_35, (by first | omega | with_reducible rfl), (fun y h1 h2 => by omega)⟩
        rintro i Wii gl_36 ⟨hm_37, hnow_38, hse_39, htb_40, hlk_41, hbs_42, hjo_43, hwi_44, hfr_45, hi, hz8⟩ ih_75
        refine w_iload dX11_joins_75 3 rfl ?_
        refine w_sipush dX11_joins_77 (by decide) ?_
        refine w_icmp_ge 97 dX11_joins_80 (by decide) (by first | omega | with_reducible rfl) (by first | omega | with_reducible rfl) (fun c_80 => ?_) (fun c_80 => ?_)
        · refine w_iconst dX11_joins_97 ?_
          refine w_istore [(4, .int (zI 0)), (0, .ref (B + 141)), (1, .long (zJ ((jA (fun ss => S.getD ss []) k) * (bh (coL (S.getD k [])) (coR (S.getD k [])))))), (3, .int (zI ((k : Nat) : Int)))] dX11_joins_98 (by decide) rfl ?_
          refine w_sub [(0, .ref (B + 141)), (1, .long (zJ ((jA (fun ss => S.getD ss []) k) * (bh (coL (S.getD k [])) (coR (S.getD k [])))))), (3, .int (zI ((k : Nat) : Int))), (4, .int (zI 0))] [1, 2, 3, 0] rfl ?_
          refine w_lv (lv' := [(0, .ref (B + 141)), (1, .long (zJ ((jA (fun ss => S.getD ss []) k) * (bh (coL (S.getD k [])) (coR (S.getD k [])))))), (3, .int (zI ((k : Nat) : Int))), (4, .int (zI ((0 : Nat) : Int)))]) (lc_s (lc_s (lc_s (lc_i (by first | omega | with_reducible rfl) rfl)))) ?_
          refine w_loop3 (fun (K : Nat) (WiK : Int → Int) (gl_46 : (Nat → va_E)) => vM cy B gl_46 141 cg le sp va ((k : Nat) : Int) (tc (coL (S.getD k [])) (coR (S.getD k []))) (bh (coL (S.getD k [])) (coR (S.getD k []))) (lg (coL (S.getD k [])) (coR (S.getD k []))) (sh (coL (S.getD k [])) (coR (S.getD k []))) (les (coL (S.getD k [])) (coR (S.getD k []))) (grs (coL (S.getD k [])) (coR (S.getD k []))) (stT (S.getD k []) 0) (stW (S.getD k []) 0) (aRan (S.getD k [])) ∧ vIA cy B gl_46 142 49 Nw ∧ vLA cy B gl_46 146 169 Sv ∧ vIA cy B gl_46 147 5 Tb1_23 ∧ vIA cy B gl_46 148 5 Lk1_24 ∧ vLA cy B gl_46 149 541 Bs1_25 ∧ vLA cy B gl_46 150 1621 Joj ∧ vLA cy B gl_46 151 1621 WiK ∧ (∀ q, (q ≠ 141 ∧ q ≠ 147 ∧ q ≠ 148 ∧ q ≠ 149 ∧ q ≠ 150 ∧ q ≠ 151) → gl_46 q = g q) ∧ K ≤ 540 * k + 1 ∧ (∀ y : Int, 0 ≤ y → y < 1621 → WiK y = wiJ (fun ss => S.getD ss []) k K 0 y)) (fun (K : Nat) (WiK : Int → Int) (gl_46 : (Nat → va_E)) => 540 * k + 1 - K) (fun (K : Nat) (WiK : Int → Int) (gl_46 : (Nat → va_E)) => gl_46) (fun (K : Nat) (WiK : Int → Int) (gl_46 : (Nat → va_E)) => [(0, .ref (B + 141)), (1, .long (zJ ((jA (fun ss => S.getD ss []) k) * (bh (coL (S.getD k [])) (coR (S.getD k [])))))), (3, .int (zI ((k : Nat) : Int))), (4, .int (zI ((K : Nat) : Int)))]) ?_ 0 Wii gl_36 ⟨hm_37, hnow_38, hse_39, htb_40, hlk_41, hbs_42, hjo_43, hwi_44, hfr_45, (by first | omega | with_reducible rfl), (wiJ_0 (fun y h1 h2 => hz8 y h1 (by omega)))⟩
          rintro K WiK gl_46 ⟨hm_47, hnow_48, hse_49, htb_50, hlk_51, hbs_52, hjo_53, hwi_54, hfr_55, hK, hW9⟩ ih_100
          refine w_iload dX11_joins_100 3 rfl ?_
          refine w_sipush dX11_joins_102 (by decide) ?_
          refine w_iload_n dX11_joins_105 rfl 2 rfl ?_
          refine w_imul dX11_joins_106 ?_
          refine w_icmp_gt 173 dX11_joins_107 (by decide) (by first | omega | with_reducible rfl) (by first | omega | with_reducible rfl) (fun c_107 => ?_) (fun c_107 => ?_)
          · refine w_iconst dX11_joins_173 ?_
            refine w_istore [(4, .int (zI 0)), (0, .ref (B + 141)), (1, .long (zJ ((jA (fun ss => S.getD ss []) k) * (bh (coL (S.getD k [])) (coR (S.getD k [])))))), (3, .int (zI ((k : Nat) : Int)))] dX11_joins_174 (by decide) rfl ?_
            refine w_sub [(0, .ref (B + 141)), (1, .long (zJ ((jA (fun ss => S.getD ss []) k) * (bh (coL (S.getD k [])) (coR (S.getD k [])))))), (3, .int (zI ((k : Nat) : Int))), (4, .int (zI 0))] [1, 2, 3, 0] rfl ?_
            refine w_lv (lv' := [(0, .ref (B + 141)), (1, .long (zJ ((jA (fun ss => S.getD ss []) k) * (bh (coL (S.getD k [])) (coR (S.getD k [])))))), (3, .int (zI ((k : Nat) : Int))), (4, .int (zI ((0 : Nat) : Int)))]) (lc_s (lc_s (lc_s (lc_i (by first | omega | with_reducible rfl) rfl)))) ?_
            refine w_loop3 (fun (i : Nat) (Joc : Int → Int) (gl_56 : (Nat → va_E)) => vM cy B gl_56 141 cg le sp va ((k : Nat) : Int) (tc (coL (S.getD k [])) (coR (S.getD k []))) (bh (coL (S.getD k [])) (coR (S.getD k []))) (lg (coL (S.getD k [])) (coR (S.getD k []))) (sh (coL (S.getD k [])) (coR (S.getD k []))) (les (coL (S.getD k [])) (coR (S.getD k []))) (grs (coL (S.getD k [])) (coR (S.getD k []))) (stT (S.getD k []) 0) (stW (S.getD k []) 0) (aRan (S.getD k [])) ∧ vIA cy B gl_56 142 49 Nw ∧ vLA cy B gl_56 146 169 Sv ∧ vIA cy B gl_56 147 5 Tb1_23 ∧ vIA cy B gl_56 148 5 Lk1_24 ∧ vLA cy B gl_56 149 541 Bs1_25 ∧ vLA cy B gl_56 150 1621 Joc ∧ vLA cy B gl_56 151 1621 WiK ∧ (∀ q, (q ≠ 141 ∧ q ≠ 147 ∧ q ≠ 148 ∧ q ≠ 149 ∧ q ≠ 150 ∧ q ≠ 151) → gl_56 q = g q) ∧ i ≤ 1621 ∧ (∀ y : Int, 0 ≤ y → y < i → Joc y = WiK y)) (fun (i : Nat) (Joc : Int → Int) (gl_56 : (Nat → va_E)) => 1621 - i) (fun (i : Nat) (Joc : Int → Int) (gl_56 : (Nat → va_E)) => gl_56) (fun (i : Nat) (Joc : Int → Int) (gl_56 : (Nat → va_E)) => [(0, .ref (B + 141)), (1, .long (zJ ((jA (fun ss => S.getD ss []) k) * (bh (coL (S.getD k [])) (coR (S.getD k [])))))), (3, .int (zI ((k : Nat) : Int))), (4, .int (zI ((i : Nat) : Int)))]) ?_ 0 Joj gl_46 ⟨hm_47, hnow_48, hse_49, htb_50, hlk_51, hbs_52, hjo_53, hwi_54, hfr_55, (by first | omega | with_reducible rfl), (fun y h1 h2 => by omega)⟩
            rintro i Joc gl_56 ⟨hm_57, hnow_58, hse_59, htb_60, hlk_61, hbs_62, hjo_63, hwi_64, hfr_65, hi, hc9⟩ ih_176
            refine w_iload dX11_joins_176 3 rfl ?_
            refine w_sipush dX11_joins_178 (by decide) ?_
            refine w_icmp_ge 204 dX11_joins_181 (by decide) (by first | omega | with_reducible rfl) (by first | omega | with_reducible rfl) (fun c_181 => ?_) (fun c_181 => ?_)
            · refine w_iinc 2 [(3, .int (zI (((k : Nat) : Int) + 1))), (0, .ref (B + 141)), (1, .long (zJ ((jA (fun ss => S.getD ss []) k) * (bh (coL (S.getD k [])) (coR (S.getD k [])))))), (4, .int (zI ((i : Nat) : Int)))] dX11_joins_204 rfl (by decide) rfl ?_
              refine w_goto 34 dX11_joins_207 (by decide) ?_
              refine w_sub [(0, .ref (B + 141)), (1, .long (zJ ((jA (fun ss => S.getD ss []) k) * (bh (coL (S.getD k [])) (coR (S.getD k [])))))), (3, .int (zI (((k : Nat) : Int) + 1)))] [1, 2, 0] rfl ?_
              refine w_lv (lv' := [(0, .ref (B + 141)), (1, .long (zJ (jA (fun ss => S.getD ss []) (k + 1)))), (3, .int (zI (((k + 1) : Nat) : Int)))]) (lc_s (lc_l rfl (lc_i (by first | omega | with_reducible rfl) rfl))) ?_
              exact ih_34 (k + 1) (((k : Nat) : Int), (tc (coL (S.getD k [])) (coR (S.getD k []))), (bh (coL (S.getD k [])) (coR (S.getD k []))), (lg (coL (S.getD k [])) (coR (S.getD k []))), (sh (coL (S.getD k [])) (coR (S.getD k []))), (les (coL (S.getD k [])) (coR (S.getD k []))), (grs (coL (S.getD k [])) (coR (S.getD k []))), (stT (S.getD k []) 0), (stW (S.getD k []) 0), (aRan (S.getD k []))) Tb1_23 Lk1_24 Bs1_25 Joc WiK gl_56 ⟨(by have h9 := hm_57; exact h9), hnow_58, hse_59, htb_60, hlk_61, hbs_62, hjo_63, hwi_64, hfr_65, (by first | omega | with_reducible rfl), (fun y h1 h2 => by rw [hc9 y h1 (by omega), hW9 y h1 h2, ← cv_jW2 (fun i hi => hck1 i (by omega)), show K = 540 * k + 1 by omega]; exact wiJ_fin), (jA_ok (cs := (fun ss => S.getD ss [])) (hck1 k (by omega)) c_59), (GTrg (hck1 k (by omega)))⟩ (by first | omega | with_reducible rfl)
            · refine w_aload_n dX11_joins_184 rfl 0 rfl ?_
              refine w_get (i := 22) (T := TX11) (NF := 32) 141 (by first | omega | with_reducible rfl) hm_57 rfl (fun _ h => (List.mem_cons_of_mem _ (List.mem_append_right _ h))) (by decide) (List.mem_of_getElem? (i := 1) rfl) rfl dX11_joins_185 ?_
              refine w_iload dX11_joins_188 3 rfl ?_
              refine w_aload_n dX11_joins_190 rfl 0 rfl ?_
              refine w_get (i := 23) (T := TX11) (NF := 32) 141 (by first | omega | with_reducible rfl) hm_57 rfl (fun _ h => (List.mem_cons_of_mem _ (List.mem_append_right _ h))) (by decide) (List.mem_of_getElem? (i := 5) rfl) rfl dX11_joins_191 ?_
              refine w_iload dX11_joins_194 3 rfl ?_
              refine w_lald 151 (by first | omega | with_reducible rfl) hwi_64 (by first | omega | with_reducible rfl) dX11_joins_196 ?_
              refine w_last 150 (by first | omega | with_reducible rfl) hjo_63 (by first | omega | with_reducible rfl) dX11_joins_197 (fun g_66 he_67 hn_68 => ?_)
              have hm_69 : vM cy B g_66 141 cg le sp va ((k : Nat) : Int) (tc (coL (S.getD k [])) (coR (S.getD k []))) (bh (coL (S.getD k [])) (coR (S.getD k []))) (lg (coL (S.getD k [])) (coR (S.getD k []))) (sh (coL (S.getD k [])) (coR (S.getD k []))) (les (coL (S.getD k [])) (coR (S.getD k []))) (grs (coL (S.getD k [])) (coR (S.getD k []))) (stT (S.getD k []) 0) (stW (S.getD k []) 0) (aRan (S.getD k [])) := vM_fr hm_57 (fun q h1 h2 => hn_68 q (by omega))
              have hnow_70 : vIA cy B g_66 142 49 Nw := vIA_fr hnow_58 (fun q h1 h2 => hn_68 q (by omega))
              have hse_71 : vLA cy B g_66 146 169 Sv := vLA_fr hse_59 (fun q h1 h2 => hn_68 q (by omega))
              have htb_72 : vIA cy B g_66 147 5 Tb1_23 := vIA_fr htb_60 (fun q h1 h2 => hn_68 q (by omega))
              have hlk_73 : vIA cy B g_66 148 5 Lk1_24 := vIA_fr hlk_61 (fun q h1 h2 => hn_68 q (by omega))
              have hbs_74 : vLA cy B g_66 149 541 Bs1_25 := vLA_fr hbs_62 (fun q h1 h2 => hn_68 q (by omega))
              have hjo_75 : vLA cy B g_66 150 1621 (uZ Joc ((i : Nat) : Int) (WiK ((i : Nat) : Int))) := he_67
              have hwi_76 : vLA cy B g_66 151 1621 WiK := vLA_fr hwi_64 (fun q h1 h2 => hn_68 q (by omega))
              have hfr_77 : ∀ q, (q ≠ 141 ∧ q ≠ 147 ∧ q ≠ 148 ∧ q ≠ 149 ∧ q ≠ 150 ∧ q ≠ 151) → g_66 q = g q := fun q hq => (hn_68 q (by omega)).trans (hfr_65 q hq)
              refine w_iinc 3 [(4, .int (zI (((i : Nat) : Int) + 1))), (0, .ref (B + 141)), (1, .long (zJ ((jA (fun ss => S.getD ss []) k) * (bh (coL (S.getD k [])) (coR (S.getD k [])))))), (3, .int (zI ((k : Nat) : Int)))] dX11_joins_198 rfl (by decide) rfl ?_
              refine w_goto 176 dX11_joins_201 (by decide) ?_
              refine w_sub [(0, .ref (B + 141)), (1, .long (zJ ((jA (fun ss => S.getD ss []) k) * (bh (coL (S.getD k [])) (coR (S.getD k [])))))), (3, .int (zI ((k : Nat) : Int))), (4, .int (zI (((i : Nat) : Int) + 1)))] [1, 2, 3, 0] rfl ?_
              refine w_lv (lv' := [(0, .ref (B + 141)), (1, .long (zJ ((jA (fun ss => S.getD ss []) k) * (bh (coL (S.getD k [])) (coR (S.getD k [])))))), (3, .int (zI ((k : Nat) : Int))), (4, .int (zI (((i + 1) : Nat) : Int)))]) (lc_s (lc_s (lc_s (lc_i (by first | omega | with_reducible rfl) rfl)))) ?_
              exact ih_176 (i + 1) (uZ Joc ((i : Nat) : Int) (WiK ((i : Nat) : Int))) g_66 ⟨hm_69, hnow_70, hse_71, htb_72, hlk_73, hbs_74, hjo_75, hwi_76, hfr_77, (by first | omega | with_reducible rfl), (step_uz hc9 rfl)⟩ (by first | omega | with_reducible rfl)
          · have hjk := jW_nn (cs := (fun ss => S.getD ss [])) k ((K : Nat) : Int)
            have hjl := jW_le hckk (y := ((K : Nat) : Int)) (by omega)
            refine w_iconst dX11_joins_110 ?_
            refine w_istore [(5, .int (zI 0)), (0, .ref (B + 141)), (1, .long (zJ ((jA (fun ss => S.getD ss []) k) * (bh (coL (S.getD k [])) (coR (S.getD k [])))))), (3, .int (zI ((k : Nat) : Int))), (4, .int (zI ((K : Nat) : Int)))] dX11_joins_111 (by decide) rfl ?_
            refine w_sub [(0, .ref (B + 141)), (1, .long (zJ ((jA (fun ss => S.getD ss []) k) * (bh (coL (S.getD k [])) (coR (S.getD k [])))))), (3, .int (zI ((k : Nat) : Int))), (4, .int (zI ((K : Nat) : Int))), (5, .int (zI 0))] [1, 2, 3, 4, 0] rfl ?_
            refine w_lv (lv' := [(0, .ref (B + 141)), (1, .long (zJ ((jA (fun ss => S.getD ss []) k) * (bh (coL (S.getD k [])) (coR (S.getD k [])))))), (3, .int (zI ((k : Nat) : Int))), (4, .int (zI ((K : Nat) : Int))), (5, .int (zI ((0 : Nat) : Int)))]) (lc_s (lc_s (lc_s (lc_s (lc_i (by first | omega | with_reducible rfl) rfl))))) ?_
            refine w_loop3 (fun (E : Nat) (WiE : Int → Int) (gl_78 : (Nat → va_E)) => vM cy B gl_78 141 cg le sp va ((k : Nat) : Int) (tc (coL (S.getD k [])) (coR (S.getD k []))) (bh (coL (S.getD k [])) (coR (S.getD k []))) (lg (coL (S.getD k [])) (coR (S.getD k []))) (sh (coL (S.getD k [])) (coR (S.getD k []))) (les (coL (S.getD k [])) (coR (S.getD k []))) (grs (coL (S.getD k [])) (coR (S.getD k []))) (stT (S.getD k []) 0) (stW (S.getD k []) 0) (aRan (S.getD k [])) ∧ vIA cy B gl_78 142 49 Nw ∧ vLA cy B gl_78 146 169 Sv ∧ vIA cy B gl_78 147 5 Tb1_23 ∧ vIA cy B gl_78 148 5 Lk1_24 ∧ vLA cy B gl_78 149 541 Bs1_25 ∧ vLA cy B gl_78 150 1621 Joj ∧ vLA cy B gl_78 151 1621 WiE ∧ (∀ q, (q ≠ 141 ∧ q ≠ 147 ∧ q ≠ 148 ∧ q ≠ 149 ∧ q ≠ 150 ∧ q ≠ 151) → gl_78 q = g q) ∧ E ≤ 541 ∧ (∀ y : Int, 0 ≤ y → y < 1621 → WiE y = wiJ (fun ss => S.getD ss []) k K E y)) (fun (E : Nat) (WiE : Int → Int) (gl_78 : (Nat → va_E)) => 541 - E) (fun (E : Nat) (WiE : Int → Int) (gl_78 : (Nat → va_E)) => gl_78) (fun (E : Nat) (WiE : Int → Int) (gl_78 : (Nat → va_E)) => [(0, .ref (B + 141)), (1, .long (zJ ((jA (fun ss => S.getD ss []) k) * (bh (coL (S.getD k [])) (coR (S.getD k [])))))), (3, .int (zI ((k : Nat) : Int))), (4, .int (zI ((K : Nat) : Int))), (5, .int (zI ((E : Nat) : Int)))]) ?_ 0 WiK gl_46 ⟨hm_47, hnow_48, hse_49, htb_50, hlk_51, hbs_52, hjo_53, hwi_54, hfr_55, (by first | omega | with_reducible rfl), hW9⟩
            rintro E WiE gl_78 ⟨hm_79, hnow_80, hse_81, htb_82, hlk_83, hbs_84, hjo_85, hwi_86, hfr_87, hE, hE9⟩ ih_113
            refine w_iload dX11_joins_113 4 rfl ?_
            refine w_sipush dX11_joins_115 (by decide) ?_
            refine w_icmp_ge 167 dX11_joins_118 (by decide) (by first | omega | with_reducible rfl) (by first | omega | with_reducible rfl) (fun c_118 => ?_) (fun c_118 => ?_)
            · refine w_iinc 3 [(4, .int (zI (((K : Nat) : Int) + 1))), (0, .ref (B + 141)), (1, .long (zJ ((jA (fun ss => S.getD ss []) k) * (bh (coL (S.getD k [])) (coR (S.getD k [])))))), (3, .int (zI ((k : Nat) : Int))), (5, .int (zI ((E : Nat) : Int)))] dX11_joins_167 rfl (by decide) rfl ?_
              refine w_goto 100 dX11_joins_170 (by decide) ?_
              refine w_sub [(0, .ref (B + 141)), (1, .long (zJ ((jA (fun ss => S.getD ss []) k) * (bh (coL (S.getD k [])) (coR (S.getD k [])))))), (3, .int (zI ((k : Nat) : Int))), (4, .int (zI (((K : Nat) : Int) + 1)))] [1, 2, 3, 0] rfl ?_
              refine w_lv (lv' := [(0, .ref (B + 141)), (1, .long (zJ ((jA (fun ss => S.getD ss []) k) * (bh (coL (S.getD k [])) (coR (S.getD k [])))))), (3, .int (zI ((k : Nat) : Int))), (4, .int (zI (((K + 1) : Nat) : Int)))]) (lc_s (lc_s (lc_s (lc_i (by first | omega | with_reducible rfl) rfl)))) ?_
              exact ih_100 (K + 1) WiE gl_78 ⟨hm_79, hnow_80, hse_81, htb_82, hlk_83, hbs_84, hjo_85, hwi_86, hfr_87, (by first | omega | with_reducible rfl), (wiJ_k hE9 (by first | exact Or.inl (by omega) | (refine Or.inr ?_; have := jW_nn (cs := (fun ss => S.getD ss [])) k ((K : Nat) : Int); omega)))⟩ (by first | omega | with_reducible rfl)
            · refine w_aload_n dX11_joins_121 rfl 0 rfl ?_
              refine w_get (i := 22) (T := TX11) (NF := 32) 141 (by first | omega | with_reducible rfl) hm_79 rfl (fun _ h => (List.mem_cons_of_mem _ (List.mem_append_right _ h))) (by decide) (List.mem_of_getElem? (i := 1) rfl) rfl dX11_joins_122 ?_
              refine w_iload dX11_joins_125 3 rfl ?_
              refine w_lald 150 (by first | omega | with_reducible rfl) hjo_85 (by first | omega | with_reducible rfl) dX11_joins_127 ?_
              refine w_as (st' := [.long (zJ (jW (fun ss => S.getD ss []) k ((K : Nat) : Int)))]) (sc_l (hJ9 _ (by omega) (by omega)) rfl) ?_
              refine w_lconst0 dX11_joins_128 ?_
              refine w_lcmp_le 167 dX11_joins_129 dX11_joins_130 (by decide) (by first | omega | with_reducible rfl) (by first | omega | with_reducible rfl) (fun c_129 => ?_) (fun c_129 => ?_)
              · refine w_iinc 3 [(4, .int (zI (((K : Nat) : Int) + 1))), (0, .ref (B + 141)), (1, .long (zJ ((jA (fun ss => S.getD ss []) k) * (bh (coL (S.getD k [])) (coR (S.getD k [])))))), (3, .int (zI ((k : Nat) : Int))), (5, .int (zI ((E : Nat) : Int)))] dX11_joins_167 rfl (by decide) rfl ?_
                refine w_goto 100 dX11_joins_170 (by decide) ?_
                refine w_sub [(0, .ref (B + 141)), (1, .long (zJ ((jA (fun ss => S.getD ss []) k) * (bh (coL (S.getD k [])) (coR (S.getD k [])))))), (3, .int (zI ((k : Nat) : Int))), (4, .int (zI (((K : Nat) : Int) + 1)))] [1, 2, 3, 0] rfl ?_
                refine w_lv (lv' := [(0, .ref (B + 141)), (1, .long (zJ ((jA (fun ss => S.getD ss []) k) * (bh (coL (S.getD k [])) (coR (S.getD k [])))))), (3, .int (zI ((k : Nat) : Int))), (4, .int (zI (((K + 1) : Nat) : Int)))]) (lc_s (lc_s (lc_s (lc_i (by first | omega | with_reducible rfl) rfl)))) ?_
                exact ih_100 (K + 1) WiE gl_78 ⟨hm_79, hnow_80, hse_81, htb_82, hlk_83, hbs_84, hjo_85, hwi_86, hfr_87, (by first | omega | with_reducible rfl), (wiJ_k hE9 (by first | exact Or.inl (by omega) | (refine Or.inr ?_; have := jW_nn (cs := (fun ss => S.getD ss [])) k ((K : Nat) : Int); omega)))⟩ (by first | omega | with_reducible rfl)
              · refine w_aload_n dX11_joins_133 rfl 0 rfl ?_
                refine w_get (i := 23) (T := TX11) (NF := 32) 141 (by first | omega | with_reducible rfl) hm_79 rfl (fun _ h => (List.mem_cons_of_mem _ (List.mem_append_right _ h))) (by decide) (List.mem_of_getElem? (i := 5) rfl) rfl dX11_joins_134 ?_
                refine w_iload dX11_joins_137 3 rfl ?_
                refine w_iload dX11_joins_139 4 rfl ?_
                refine w_iadd dX11_joins_141 ?_
                refine w_dup2 dX11_joins_142 rfl rfl ?_
                refine w_lald 151 (by first | omega | with_reducible rfl) hwi_86 (by first | omega | with_reducible rfl) dX11_joins_143 ?_
                refine w_aload_n dX11_joins_144 rfl 0 rfl ?_
                refine w_get (i := 22) (T := TX11) (NF := 32) 141 (by first | omega | with_reducible rfl) hm_79 rfl (fun _ h => (List.mem_cons_of_mem _ (List.mem_append_right _ h))) (by decide) (List.mem_of_getElem? (i := 1) rfl) rfl dX11_joins_145 ?_
                refine w_iload dX11_joins_148 3 rfl ?_
                refine w_lald 150 (by first | omega | with_reducible rfl) hjo_85 (by first | omega | with_reducible rfl) dX11_joins_150 ?_
                refine w_as (st' := [.long (zJ (jW (fun ss => S.getD ss []) k ((K : Nat) : Int))), .long (zJ (WiE (((K : Nat) : Int) + ((E : Nat) : Int)))), .int (zI (((K : Nat) : Int) + ((E : Nat) : Int))), .ref (B + 151)]) (sc_l (hJ9 _ (by omega) (by omega)) rfl) ?_
                refine w_aload_n dX11_joins_151 rfl 0 rfl ?_
                refine w_get (i := 21) (T := TX11) (NF := 32) 141 (by first | omega | with_reducible rfl) hm_79 rfl (fun _ h => (List.mem_cons_of_mem _ (List.mem_append_right _ h))) (by decide) (List.mem_of_getElem? (i := 6) rfl) rfl dX11_joins_152 ?_
                refine w_iload dX11_joins_155 4 rfl ?_
                refine w_lald 149 (by first | omega | with_reducible rfl) hbs_84 (by first | omega | with_reducible rfl) dX11_joins_157 ?_
                refine w_as (st' := [.long (zJ (swF (coL (S.getD k [])) (coR (S.getD k [])) ((E : Nat) : Int))), .long (zJ (jW (fun ss => S.getD ss []) k ((K : Nat) : Int))), .long (zJ (WiE (((K : Nat) : Int) + ((E : Nat) : Int)))), .int (zI (((K : Nat) : Int) + ((E : Nat) : Int))), .ref (B + 151)]) (sc_l (hBs1_47 _ (by omega) (by omega)) rfl) ?_
                refine w_lmul dX11_joins_158 ?_
                refine w_ladd dX11_joins_159 ?_
                refine w_last 151 (by first | omega | with_reducible rfl) hwi_86 (by first | omega | with_reducible rfl) dX11_joins_160 (fun g_88 he_89 hn_90 => ?_)
                have hm_91 : vM cy B g_88 141 cg le sp va ((k : Nat) : Int) (tc (coL (S.getD k [])) (coR (S.getD k []))) (bh (coL (S.getD k [])) (coR (S.getD k []))) (lg (coL (S.getD k [])) (coR (S.getD k []))) (sh (coL (S.getD k [])) (coR (S.getD k []))) (les (coL (S.getD k [])) (coR (S.getD k []))) (grs (coL (S.getD k [])) (coR (S.getD k []))) (stT (S.getD k []) 0) (stW (S.getD k []) 0) (aRan (S.getD k [])) := vM_fr hm_79 (fun q h1 h2 => hn_90 q (by omega))
                have hnow_92 : vIA cy B g_88 142 49 Nw := vIA_fr hnow_80 (fun q h1 h2 => hn_90 q (by omega))
                have hse_93 : vLA cy B g_88 146 169 Sv := vLA_fr hse_81 (fun q h1 h2 => hn_90 q (by omega))
                have htb_94 : vIA cy B g_88 147 5 Tb1_23 := vIA_fr htb_82 (fun q h1 h2 => hn_90 q (by omega))
                have hlk_95 : vIA cy B g_88 148 5 Lk1_24 := vIA_fr hlk_83 (fun q h1 h2 => hn_90 q (by omega))
                have hbs_96 : vLA cy B g_88 149 541 Bs1_25 := vLA_fr hbs_84 (fun q h1 h2 => hn_90 q (by omega))
                have hjo_97 : vLA cy B g_88 150 1621 Joj := vLA_fr hjo_85 (fun q h1 h2 => hn_90 q (by omega))
                have hwi_98 : vLA cy B g_88 151 1621 (uZ WiE (((K : Nat) : Int) + ((E : Nat) : Int)) ((WiE (((K : Nat) : Int) + ((E : Nat) : Int))) + ((jW (fun ss => S.getD ss []) k ((K : Nat) : Int)) * (swF (coL (S.getD k [])) (coR (S.getD k [])) ((E : Nat) : Int))))) := he_89
                have hfr_99 : ∀ q, (q ≠ 141 ∧ q ≠ 147 ∧ q ≠ 148 ∧ q ≠ 149 ∧ q ≠ 150 ∧ q ≠ 151) → g_88 q = g q := fun q hq => (hn_90 q (by omega)).trans (hfr_87 q hq)
                refine w_iinc 4 [(5, .int (zI (((E : Nat) : Int) + 1))), (0, .ref (B + 141)), (1, .long (zJ ((jA (fun ss => S.getD ss []) k) * (bh (coL (S.getD k [])) (coR (S.getD k [])))))), (3, .int (zI ((k : Nat) : Int))), (4, .int (zI ((K : Nat) : Int)))] dX11_joins_161 rfl (by decide) rfl ?_
                refine w_goto 113 dX11_joins_164 (by decide) ?_
                refine w_sub [(0, .ref (B + 141)), (1, .long (zJ ((jA (fun ss => S.getD ss []) k) * (bh (coL (S.getD k [])) (coR (S.getD k [])))))), (3, .int (zI ((k : Nat) : Int))), (4, .int (zI ((K : Nat) : Int))), (5, .int (zI (((E : Nat) : Int) + 1)))] [1, 2, 3, 4, 0] rfl ?_
                refine w_lv (lv' := [(0, .ref (B + 141)), (1, .long (zJ ((jA (fun ss => S.getD ss []) k) * (bh (coL (S.getD k [])) (coR (S.getD k [])))))), (3, .int (zI ((k : Nat) : Int))), (4, .int (zI ((K : Nat) : Int))), (5, .int (zI (((E + 1) : Nat) : Int)))]) (lc_s (lc_s (lc_s (lc_s (lc_i (by first | omega | with_reducible rfl) rfl))))) ?_
                exact ih_113 (E + 1) (uZ WiE (((K : Nat) : Int) + ((E : Nat) : Int)) ((WiE (((K : Nat) : Int) + ((E : Nat) : Int))) + ((jW (fun ss => S.getD ss []) k ((K : Nat) : Int)) * (swF (coL (S.getD k [])) (coR (S.getD k [])) ((E : Nat) : Int))))) g_88 ⟨hm_91, hnow_92, hse_93, htb_94, hlk_95, hbs_96, hjo_97, hwi_98, hfr_99, (by first | omega | with_reducible rfl), (wiJ_e hE9 (by omega) rfl)⟩ (by first | omega | with_reducible rfl)
        · refine w_aload_n dX11_joins_83 rfl 0 rfl ?_
          refine w_get (i := 23) (T := TX11) (NF := 32) 141 (by first | omega | with_reducible rfl) hm_37 rfl (fun _ h => (List.mem_cons_of_mem _ (List.mem_append_right _ h))) (by decide) (List.mem_of_getElem? (i := 5) rfl) rfl dX11_joins_84 ?_
          refine w_iload dX11_joins_87 3 rfl ?_
          refine w_lconst0 dX11_joins_89 ?_
          refine w_last 151 (by first | omega | with_reducible rfl) hwi_44 (by first | omega | with_reducible rfl) dX11_joins_90 (fun g_100 he_101 hn_102 => ?_)
          have hm_103 : vM cy B g_100 141 cg le sp va ((k : Nat) : Int) (tc (coL (S.getD k [])) (coR (S.getD k []))) (bh (coL (S.getD k [])) (coR (S.getD k []))) (lg (coL (S.getD k [])) (coR (S.getD k []))) (sh (coL (S.getD k [])) (coR (S.getD k []))) (les (coL (S.getD k [])) (coR (S.getD k []))) (grs (coL (S.getD k [])) (coR (S.getD k []))) (stT (S.getD k []) 0) (stW (S.getD k []) 0) (aRan (S.getD k [])) := vM_fr hm_37 (fun q h1 h2 => hn_102 q (by omega))
          have hnow_104 : vIA cy B g_100 142 49 Nw := vIA_fr hnow_38 (fun q h1 h2 => hn_102 q (by omega))
          have hse_105 : vLA cy B g_100 146 169 Sv := vLA_fr hse_39 (fun q h1 h2 => hn_102 q (by omega))
          have htb_106 : vIA cy B g_100 147 5 Tb1_23 := vIA_fr htb_40 (fun q h1 h2 => hn_102 q (by omega))
          have hlk_107 : vIA cy B g_100 148 5 Lk1_24 := vIA_fr hlk_41 (fun q h1 h2 => hn_102 q (by omega))
          have hbs_108 : vLA cy B g_100 149 541 Bs1_25 := vLA_fr hbs_42 (fun q h1 h2 => hn_102 q (by omega))
          have hjo_109 : vLA cy B g_100 150 1621 Joj := vLA_fr hjo_43 (fun q h1 h2 => hn_102 q (by omega))
          have hwi_110 : vLA cy B g_100 151 1621 (uZ Wii ((i : Nat) : Int) 0) := he_101
          have hfr_111 : ∀ q, (q ≠ 141 ∧ q ≠ 147 ∧ q ≠ 148 ∧ q ≠ 149 ∧ q ≠ 150 ∧ q ≠ 151) → g_100 q = g q := fun q hq => (hn_102 q (by omega)).trans (hfr_45 q hq)
          refine w_iinc 3 [(4, .int (zI (((i : Nat) : Int) + 1))), (0, .ref (B + 141)), (1, .long (zJ ((jA (fun ss => S.getD ss []) k) * (bh (coL (S.getD k [])) (coR (S.getD k [])))))), (3, .int (zI ((k : Nat) : Int)))] dX11_joins_91 rfl (by decide) rfl ?_
          refine w_goto 75 dX11_joins_94 (by decide) ?_
          refine w_sub [(0, .ref (B + 141)), (1, .long (zJ ((jA (fun ss => S.getD ss []) k) * (bh (coL (S.getD k [])) (coR (S.getD k [])))))), (3, .int (zI ((k : Nat) : Int))), (4, .int (zI (((i : Nat) : Int) + 1)))] [1, 2, 3, 0] rfl ?_
          refine w_lv (lv' := [(0, .ref (B + 141)), (1, .long (zJ ((jA (fun ss => S.getD ss []) k) * (bh (coL (S.getD k [])) (coR (S.getD k [])))))), (3, .int (zI ((k : Nat) : Int))), (4, .int (zI (((i + 1) : Nat) : Int)))]) (lc_s (lc_s (lc_s (lc_i (by first | omega | with_reducible rfl) rfl)))) ?_
          exact ih_75 (i + 1) (uZ Wii ((i : Nat) : Int) 0) g_100 ⟨hm_103, hnow_104, hse_105, htb_106, hlk_107, hbs_108, hjo_109, hwi_110, hfr_111, (by first | omega | with_reducible rfl), (step_uz (f := fun _ => 0) hz8 rfl)⟩ (by first | omega | with_reducible rfl)
      · refine w_iconst dX11_joins_63 ?_
        exact w_zret dX11_joins_64 rfl rfl (by rw [if_neg (fun q => by have := jA_over (cs := (fun ss => S.getD ss [])) hck1 (by omega) c_59; omega)]) ⟨((k : Nat) : Int), (tc (coL (S.getD k [])) (coR (S.getD k []))), (bh (coL (S.getD k [])) (coR (S.getD k []))), (lg (coL (S.getD k [])) (coR (S.getD k []))), (sh (coL (S.getD k [])) (coR (S.getD k []))), (les (coL (S.getD k [])) (coR (S.getD k []))), (grs (coL (S.getD k [])) (coR (S.getD k []))), (stT (S.getD k []) 0), (stW (S.getD k []) 0), (aRan (S.getD k [])), Tb1_23, Lk1_24, Bs1_25, Joj, Wij, hm_26, htb_27, hlk_28, hbs_29, hjo_33, hwi_34, (GTrg (hck1 k (by omega))), (fun q => by have := jA_over (cs := (fun ss => S.getD ss [])) hck1 (by omega) c_59; omega), hfr_35⟩
  · refine w_aload_n dX11_joins_9 rfl 0 rfl ?_
    refine w_get (i := 22) (T := TX11) (NF := 32) 141 (by first | omega | with_reducible rfl) hm_2 rfl (fun _ h => (List.mem_cons_of_mem _ (List.mem_append_right _ h))) (by decide) (List.mem_of_getElem? (i := 1) rfl) rfl dX11_joins_10 ?_
    refine w_iload_n dX11_joins_13 rfl 1 rfl ?_
    refine w_iload_n dX11_joins_14 rfl 1 rfl ?_
    refine w_if_ne 22 dX11_joins_15 (by decide) (by first | omega | with_reducible rfl) (fun c_15 => ?_) (fun c_15 => ?_)
    · refine w_lconst0 dX11_joins_22 ?_
      refine w_last 150 (by first | omega | with_reducible rfl) hjo_8 (by first | omega | with_reducible rfl) dX11_joins_23 (fun g_112 he_113 hn_114 => ?_)
      have hm_115 : vM cy B g_112 141 cg le sp va o0 tn aw mw fw ls gs sn sw kr := vM_fr hm_2 (fun q h1 h2 => hn_114 q (by omega))
      have hnow_116 : vIA cy B g_112 142 49 Nw := vIA_fr hnow_3 (fun q h1 h2 => hn_114 q (by omega))
      have hse_117 : vLA cy B g_112 146 169 Sv := vLA_fr hse_4 (fun q h1 h2 => hn_114 q (by omega))
      have htb_118 : vIA cy B g_112 147 5 Tb := vIA_fr htb_5 (fun q h1 h2 => hn_114 q (by omega))
      have hlk_119 : vIA cy B g_112 148 5 Lk := vIA_fr hlk_6 (fun q h1 h2 => hn_114 q (by omega))
      have hbs_120 : vLA cy B g_112 149 541 Bs := vLA_fr hbs_7 (fun q h1 h2 => hn_114 q (by omega))
      have hjo_121 : vLA cy B g_112 150 1621 (uZ Joi ((i : Nat) : Int) 0) := he_113
      have hwi_122 : vLA cy B g_112 151 1621 Wi := vLA_fr hwi_9 (fun q h1 h2 => hn_114 q (by omega))
      have hfr_123 : ∀ q, (q ≠ 141 ∧ q ≠ 147 ∧ q ≠ 148 ∧ q ≠ 149 ∧ q ≠ 150 ∧ q ≠ 151) → g_112 q = g q := fun q hq => (hn_114 q (by omega)).trans (hfr_10 q hq)
      refine w_iinc 1 [(1, .int (zI (((i : Nat) : Int) + 1))), (0, .ref (B + 141))] dX11_joins_24 rfl (by decide) rfl ?_
      refine w_goto 2 dX11_joins_27 (by decide) ?_
      refine w_sub [(0, .ref (B + 141)), (1, .int (zI (((i : Nat) : Int) + 1)))] [1, 0] rfl ?_
      refine w_lv (lv' := [(0, .ref (B + 141)), (1, .int (zI (((i + 1) : Nat) : Int)))]) (lc_s (lc_i (by first | omega | with_reducible rfl) rfl)) ?_
      exact ih_2 (i + 1) (uZ Joi ((i : Nat) : Int) 0) g_112 ⟨hm_115, hnow_116, hse_117, htb_118, hlk_119, hbs_120, hjo_121, hwi_122, hfr_123, (by first | omega | with_reducible rfl), (step_uz hz9 (by first | exact (if_pos (by omega)).symm | exact (if_neg (by omega)).symm))⟩ (by first | omega | with_reducible rfl)
    · refine w_lconst1 dX11_joins_18 ?_
      refine w_goto 23 dX11_joins_19 (by decide) ?_
      refine w_last 150 (by first | omega | with_reducible rfl) hjo_8 (by first | omega | with_reducible rfl) dX11_joins_23 (fun g_124 he_125 hn_126 => ?_)
      have hm_127 : vM cy B g_124 141 cg le sp va o0 tn aw mw fw ls gs sn sw kr := vM_fr hm_2 (fun q h1 h2 => hn_126 q (by omega))
      have hnow_128 : vIA cy B g_124 142 49 Nw := vIA_fr hnow_3 (fun q h1 h2 => hn_126 q (by omega))
      have hse_129 : vLA cy B g_124 146 169 Sv := vLA_fr hse_4 (fun q h1 h2 => hn_126 q (by omega))
      have htb_130 : vIA cy B g_124 147 5 Tb := vIA_fr htb_5 (fun q h1 h2 => hn_126 q (by omega))
      have hlk_131 : vIA cy B g_124 148 5 Lk := vIA_fr hlk_6 (fun q h1 h2 => hn_126 q (by omega))
      have hbs_132 : vLA cy B g_124 149 541 Bs := vLA_fr hbs_7 (fun q h1 h2 => hn_126 q (by omega))
      have hjo_133 : vLA cy B g_124 150 1621 (uZ Joi ((i : Nat) : Int) 1) := he_125
      have hwi_134 : vLA cy B g_124 151 1621 Wi := vLA_fr hwi_9 (fun q h1 h2 => hn_126 q (by omega))
      have hfr_135 : ∀ q, (q ≠ 141 ∧ q ≠ 147 ∧ q ≠ 148 ∧ q ≠ 149 ∧ q ≠ 150 ∧ q ≠ 151) → g_124 q = g q := fun q hq => (hn_126 q (by omega)).trans (hfr_10 q hq)
      refine w_iinc 1 [(1, .int (zI (((i : Nat) : Int) + 1))), (0, .ref (B + 141))] dX11_joins_24 rfl (by decide) rfl ?_
      refine w_goto 2 dX11_joins_27 (by decide) ?_
      refine w_sub [(0, .ref (B + 141)), (1, .int (zI (((i : Nat) : Int) + 1)))] [1, 0] rfl ?_
      refine w_lv (lv' := [(0, .ref (B + 141)), (1, .int (zI (((i + 1) : Nat) : Int)))]) (lc_s (lc_i (by first | omega | with_reducible rfl) rfl)) ?_
      exact ih_2 (i + 1) (uZ Joi ((i : Nat) : Int) 1) g_124 ⟨hm_127, hnow_128, hse_129, htb_130, hlk_131, hbs_132, hjo_133, hwi_134, hfr_135, (by first | omega | with_reducible rfl), (step_uz hz9 (by first | exact (if_pos (by omega)).symm | exact (if_neg (by omega)).symm))⟩ (by first | omega | with_reducible rfl)

set_option maxHeartbeats 4000000 in
set_option maxRecDepth 100000 in
theorem m_n_X11_joined {l : Launch} {D : va_G} {cy : Nat → ClassId} {B N : Nat} {g : Nat → va_E} {cg le sp va o0 tn aw mw fw ls gs sn sw kr : Int} {Nw Sv Tb Lk Bs Jo Wi : Int → Int} {S : St} {law part : Int} (hm : vM cy B g 141 cg le sp va o0 tn aw mw fw ls gs sn sw kr) (hnow : vIA cy B g 142 49 Nw) (hse : vLA cy B g 146 169 Sv) (htb : vIA cy B g 147 5 Tb) (hlk : vIA cy B g 148 5 Lk) (hbs : vLA cy B g 149 541 Bs) (hjo : vLA cy B g 150 1621 Jo) (hwi : vLA cy B g 151 1621 Wi) (hN : 160 ≤ N) (hER : ER Nw S) (hck : ∀ i : Nat, i < S.length → cok (S.getD i []) ∧ 2 ≤ (S.getD i []).length) (hSv : SvOK Sv) (hrg : rgM mw fw ls gs) (h_law : -2147483648 ≤ law ∧ law < 2147483648) (h_part : -2147483648 ≤ part ∧ part < 2147483648) (hb : ¬ (1 ≤ law ∧ law ≤ 2 ∧ 0 ≤ part ∧ part ≤ 1)) : CTl l yX11_joined wsX11_joined (rmo 7 170) D cy B N g [.ref (B + 141), .int (zI law), .int (zI part)] (-1) (fun g' => g' = g) := by
  refine WW_of (cc := cX11_joined) (maxL := 9) (ret := (some .long)) (own := RX11) (by decide) rfl rfl (Nat.le_of_ble_eq_true rfl) rfl ?_
  intro pp ee ss mm bl me co hmn
  refine w_iload_n dX11_joined_0 rfl 1 rfl ?_
  refine w_iconst dX11_joined_1 ?_
  refine w_iconst dX11_joined_2 ?_
  refine w_calliS (As := [.int (zI law), .int (zI 1), .int (zI 2)]) (rest := []) (n := 3) (c_X11_in (by first | omega | with_reducible rfl) (by first | omega | with_reducible rfl) (by first | omega | with_reducible rfl)) gX11_joined_X11_in rfl rfl rfl (by decide +kernel) ⟨Nat.le_of_ble_eq_true rfl, Nat.le_of_ble_eq_true rfl⟩ rfl (Nat.le_of_ble_eq_true rfl) ⟨Nat.zero_le _, Nat.zero_le _⟩ dX11_joined_3 rfl (fun g_1 hp_2 => ?_)
  subst g_1
  refine w_ifeqB 18 dX11_joined_6 (by decide) (fun c_6 => ?_) (fun c_6 => ?_)
  · refine w_ldc2 (z := -1) (List.mem_of_getElem? (i := 1) rfl) dX11_joined_18 ?_
    exact w_lret dX11_joined_21 rfl (by first | with_reducible rfl | omega | (split <;> omega)) rfl
  · refine w_iload_n dX11_joined_9 rfl 2 rfl ?_
    refine w_iconst dX11_joined_10 ?_
    refine w_iconst dX11_joined_11 ?_
    refine w_calliS (As := [.int (zI part), .int (zI 0), .int (zI 1)]) (rest := []) (n := 3) (c_X11_in (by first | omega | with_reducible rfl) (by first | omega | with_reducible rfl) (by first | omega | with_reducible rfl)) gX11_joined_X11_in rfl rfl rfl (by decide +kernel) ⟨Nat.le_of_ble_eq_true rfl, Nat.le_of_ble_eq_true rfl⟩ rfl (Nat.le_of_ble_eq_true rfl) ⟨Nat.zero_le _, Nat.zero_le _⟩ dX11_joined_12 rfl (fun g_3 hp_4 => ?_)
    subst g_3
    refine w_ifneB 22 dX11_joined_15 (by decide) (fun c_15 => ?_) (fun c_15 => ?_)
    · exfalso; omega
    · refine w_ldc2 (z := -1) (List.mem_of_getElem? (i := 1) rfl) dX11_joined_18 ?_
      exact w_lret dX11_joined_21 rfl (by first | with_reducible rfl | omega | (split <;> omega)) rfl
set_option maxHeartbeats 4000000 in
set_option maxRecDepth 100000 in
theorem m_y_X11_joined {l : Launch} {D : va_G} {cy : Nat → ClassId} {B N : Nat} {g : Nat → va_E} {cg le sp va o0 tn aw mw fw ls gs sn sw kr : Int} {Nw Sv Tb Lk Bs Jo Wi : Int → Int} {S : St} {law part : Int} (hm : vM cy B g 141 cg le sp va o0 tn aw mw fw ls gs sn sw kr) (hnow : vIA cy B g 142 49 Nw) (hse : vLA cy B g 146 169 Sv) (htb : vIA cy B g 147 5 Tb) (hlk : vIA cy B g 148 5 Lk) (hbs : vLA cy B g 149 541 Bs) (hjo : vLA cy B g 150 1621 Jo) (hwi : vLA cy B g 151 1621 Wi) (hN : 160 ≤ N) (hER : ER Nw S) (hck : ∀ i : Nat, i < S.length → cok (S.getD i []) ∧ 2 ≤ (S.getD i []).length) (hSv : SvOK Sv) (hrg : rgM mw fw ls gs) (h_law : -2147483648 ≤ law ∧ law < 2147483648) (h_part : -2147483648 ≤ part ∧ part < 2147483648) (hb : 1 ≤ law ∧ law ≤ 2 ∧ 0 ≤ part ∧ part ≤ 1) : CTl l yX11_joined wsX11_joined (rmo 7 170) D cy B N g [.ref (B + 141), .int (zI law), .int (zI part)] (aJoi (fun ss => S.getD ss []) S.length law part) (fun g' => ∃ o01 : Int, ∃ tn1 : Int, ∃ aw1 : Int, ∃ mw1 : Int, ∃ fw1 : Int, ∃ ls1 : Int, ∃ gs1 : Int, ∃ sn1 : Int, ∃ sw1 : Int, ∃ kr1 : Int, ∃ Tb1 : Int → Int, ∃ Lk1 : Int → Int, ∃ Bs1 : Int → Int, ∃ Jo1 : Int → Int, ∃ Wi1 : Int → Int, vM cy B g' 141 cg le sp va o01 tn1 aw1 mw1 fw1 ls1 gs1 sn1 sw1 kr1 ∧ vIA cy B g' 147 5 Tb1 ∧ vIA cy B g' 148 5 Lk1 ∧ vLA cy B g' 149 541 Bs1 ∧ vLA cy B g' 150 1621 Jo1 ∧ vLA cy B g' 151 1621 Wi1 ∧ (rgM mw1 fw1 ls1 gs1) ∧ (∀ q, (q ≠ 141 ∧ q ≠ 147 ∧ q ≠ 148 ∧ q ≠ 149 ∧ q ≠ 150 ∧ q ≠ 151) → g' q = g q)) := by
  refine WW_of (cc := cX11_joined) (maxL := 9) (ret := (some .long)) (own := RX11) (by decide) rfl rfl (Nat.le_of_ble_eq_true rfl) rfl ?_
  intro pp ee ss mm bl me co hmn
  have hfr_0 : ∀ q, (q ≠ 141 ∧ q ≠ 147 ∧ q ≠ 148 ∧ q ≠ 149 ∧ q ≠ 150 ∧ q ≠ 151) → g q = g q := fun _ _ => rfl
  have hS3 := hER.1
  have hck1 : ∀ i : Nat, i < S.length → cok ((fun ss => S.getD ss []) i) := fun i hi => (hck i hi).1
  refine w_iload_n dX11_joined_0 rfl 1 rfl ?_
  refine w_iconst dX11_joined_1 ?_
  refine w_iconst dX11_joined_2 ?_
  refine w_calliS (As := [.int (zI law), .int (zI 1), .int (zI 2)]) (rest := []) (n := 3) (c_X11_in (by first | omega | with_reducible rfl) (by first | omega | with_reducible rfl) (by first | omega | with_reducible rfl)) gX11_joined_X11_in rfl rfl rfl (by decide +kernel) ⟨Nat.le_of_ble_eq_true rfl, Nat.le_of_ble_eq_true rfl⟩ rfl (Nat.le_of_ble_eq_true rfl) ⟨Nat.zero_le _, Nat.zero_le _⟩ dX11_joined_3 rfl (fun g_1 hp_2 => ?_)
  subst g_1
  refine w_ifeqB 18 dX11_joined_6 (by decide) (fun c_6 => ?_) (fun c_6 => ?_)
  · exfalso; omega
  · refine w_iload_n dX11_joined_9 rfl 2 rfl ?_
    refine w_iconst dX11_joined_10 ?_
    refine w_iconst dX11_joined_11 ?_
    refine w_calliS (As := [.int (zI part), .int (zI 0), .int (zI 1)]) (rest := []) (n := 3) (c_X11_in (by first | omega | with_reducible rfl) (by first | omega | with_reducible rfl) (by first | omega | with_reducible rfl)) gX11_joined_X11_in rfl rfl rfl (by decide +kernel) ⟨Nat.le_of_ble_eq_true rfl, Nat.le_of_ble_eq_true rfl⟩ rfl (Nat.le_of_ble_eq_true rfl) ⟨Nat.zero_le _, Nat.zero_le _⟩ dX11_joined_12 rfl (fun g_3 hp_4 => ?_)
    subst g_3
    refine w_ifneB 22 dX11_joined_15 (by decide) (fun c_15 => ?_) (fun c_15 => ?_)
    · refine w_aload_n dX11_joined_22 rfl 0 rfl ?_
      refine w_calli (As := []) (rest := []) (n := 0) (c_X11_joins hm hnow hse htb hlk hbs hjo hwi (by first | omega | with_reducible rfl) (by first | omega | with_reducible rfl) hck (by first | omega | with_reducible rfl) hrg) gX11_joined_X11_joins rfl rfl rfl (by decide +kernel) ⟨Nat.le_of_ble_eq_true rfl, Nat.le_of_ble_eq_true rfl⟩ rfl (by first | omega | with_reducible rfl) hm rfl (Nat.le_of_ble_eq_true rfl) ⟨Nat.zero_le _, Nat.zero_le _⟩ dX11_joined_23 rfl (fun g_5 hp_6 => ?_)
      obtain ⟨o01_7, tn1_8, aw1_9, mw1_10, fw1_11, ls1_12, gs1_13, sn1_14, sw1_15, kr1_16, Tb1_17, Lk1_18, Bs1_19, Jo1_20, Wi1_21, hm_22, htb_23, hlk_24, hbs_25, hjo_26, hwi_27, hrg1_23, hJo_23, hf_28⟩ := hp_6
      have hnow_29 : vIA cy B g_5 142 49 Nw := vIA_fr hnow (fun q h1 h2 => hf_28 q (by omega))
      have hse_30 : vLA cy B g_5 146 169 Sv := vLA_fr hse (fun q h1 h2 => hf_28 q (by omega))
      have hfr_31 : ∀ q, (q ≠ 141 ∧ q ≠ 147 ∧ q ≠ 148 ∧ q ≠ 149 ∧ q ≠ 150 ∧ q ≠ 151) → g_5 q = g q := fun q hq => (hf_28 q (by omega)).trans (hfr_0 q hq)
      refine w_ifneB 33 dX11_joined_26 (by decide) (fun c_26 => ?_) (fun c_26 => ?_)
      · have hJ9 := hJo_23 c_26
        have hGl := jG_rg hck1
        have hsum := jW_sum (cs := (fun ss => S.getD ss [])) (k := S.length) (n := 1621) hck1 (by omega)
        have hjb := jB_rg (cs := (fun ss => S.getD ss [])) hck1 (by omega) law (jS (fun ss => S.getD ss []) S.length)
        have hA1 := jA_pos hck1
        have hSr := jS_rg hck1
        refine w_aload_n dX11_joined_33 rfl 0 rfl ?_
        refine w_calli (As := []) (rest := []) (n := 0) (c_X11_seenSums hm_22 hnow_29 (by first | omega | with_reducible rfl) (by first | omega | with_reducible rfl)) gX11_joined_X11_seenSums rfl rfl rfl (by decide +kernel) ⟨Nat.le_of_ble_eq_true rfl, Nat.le_of_ble_eq_true rfl⟩ rfl (by first | omega | with_reducible rfl) hm_22 rfl (Nat.le_of_ble_eq_true rfl) ⟨Nat.zero_le _, Nat.zero_le _⟩ dX11_joined_34 rfl (fun g_32 hp_33 => ?_)
        subst g_32
        refine w_istore_n [(3, .int (zI (jS (fun i => S.getD i []) S.length))), (0, .ref (B + 141)), (1, .int (zI law)), (2, .int (zI part))] dX11_joined_37 rfl (by decide) rfl ?_
        refine w_lconst0 dX11_joined_38 ?_
        refine w_lstore [(4, .long (zJ 0)), (3, .int (zI (jS (fun i => S.getD i []) S.length))), (0, .ref (B + 141)), (1, .int (zI law)), (2, .int (zI part))] dX11_joined_39 (by decide) rfl ?_
        refine w_lconst0 dX11_joined_41 ?_
        refine w_lstore [(6, .long (zJ 0)), (4, .long (zJ 0)), (3, .int (zI (jS (fun i => S.getD i []) S.length))), (0, .ref (B + 141)), (1, .int (zI law)), (2, .int (zI part))] dX11_joined_42 (by decide) rfl ?_
        refine w_iconst dX11_joined_44 ?_
        refine w_istore [(8, .int (zI 0)), (6, .long (zJ 0)), (4, .long (zJ 0)), (3, .int (zI (jS (fun i => S.getD i []) S.length))), (0, .ref (B + 141)), (1, .int (zI law)), (2, .int (zI part))] dX11_joined_45 (by decide) rfl ?_
        refine w_sub [(0, .ref (B + 141)), (1, .int (zI law)), (2, .int (zI part)), (3, .int (zI (jS (fun i => S.getD i []) S.length))), (4, .long (zJ 0)), (6, .long (zJ 0)), (8, .int (zI 0))] [4, 5, 6, 3, 2, 1, 0] rfl ?_
        refine w_lv (lv' := [(0, .ref (B + 141)), (1, .int (zI law)), (2, .int (zI part)), (3, .int (zI (jS (fun i => S.getD i []) S.length))), (4, .long (zJ (sm (bw (jW (fun ss => S.getD ss []) S.length) law (jS (fun ss => S.getD ss []) S.length)) 0))), (6, .long (zJ (sm (jW (fun ss => S.getD ss []) S.length) 0))), (8, .int (zI ((0 : Nat) : Int)))]) (lc_s (lc_s (lc_s (lc_s (lc_l rfl (lc_l rfl (lc_i (by first | omega | with_reducible rfl) rfl))))))) ?_
        refine w_loop1 (fun (i : Nat) => i ≤ 1621) (fun (i : Nat) => 1621 - i) (fun (i : Nat) => g_5) (fun (i : Nat) => [(0, .ref (B + 141)), (1, .int (zI law)), (2, .int (zI part)), (3, .int (zI (jS (fun i => S.getD i []) S.length))), (4, .long (zJ (sm (bw (jW (fun ss => S.getD ss []) S.length) law (jS (fun ss => S.getD ss []) S.length)) i))), (6, .long (zJ (sm (jW (fun ss => S.getD ss []) S.length) i))), (8, .int (zI ((i : Nat) : Int)))]) ?_ 0 (by first | omega | with_reducible rfl)
        rintro i hi ih_47
        refine w_iload dX11_joined_47 6 rfl ?_
        refine w_sipush dX11_joined_49 (by decide) ?_
        refine w_icmp_ge 109 dX11_joined_52 (by decide) (by first | omega | with_reducible rfl) (by first | omega | with_reducible rfl) (fun c_52 => ?_) (fun c_52 => ?_)
        · have hie : i = 1621 := by omega
          subst hie
          refine w_iload_n dX11_joined_109 rfl 2 rfl ?_
          refine w_if_ne 118 dX11_joined_110 (by decide) (by first | omega | with_reducible rfl) (fun c_110 => ?_) (fun c_110 => ?_)
          · refine w_lload dX11_joined_118 5 rfl ?_
            have hg0 : 0 < Nat.gcd (sm (bw (jW (fun ss => S.getD ss []) S.length) law (jS (fun ss => S.getD ss []) S.length)) 1621).toNat (jA (fun ss => S.getD ss []) S.length).toNat := Nat.gcd_pos_of_pos_right _ (by omega)
            have hg1 : Nat.gcd (sm (bw (jW (fun ss => S.getD ss []) S.length) law (jS (fun ss => S.getD ss []) S.length)) 1621).toNat (jA (fun ss => S.getD ss []) S.length).toNat ≤ (jA (fun ss => S.getD ss []) S.length).toNat := Nat.gcd_le_right _ (by omega)
            refine w_as (st' := [.long (zJ (((jA (fun ss => S.getD ss []) S.length).toNat : Nat) : Int))]) (sc_l (by rw [hsum]; omega) rfl) ?_
            refine w_lload dX11_joined_120 4 rfl ?_
            refine w_lload dX11_joined_122 5 rfl ?_
            refine w_as (st' := [.long (zJ (((jA (fun ss => S.getD ss []) S.length).toNat : Nat) : Int)), .long (zJ (((sm (bw (jW (fun ss => S.getD ss []) S.length) law (jS (fun ss => S.getD ss []) S.length)) 1621).toNat : Nat) : Int)), .long (zJ (((jA (fun ss => S.getD ss []) S.length).toNat : Nat) : Int))]) (sc_l (by rw [hsum]; omega) (sc_l (by omega) rfl)) ?_
            refine w_calllS (As := [.long (zJ (((sm (bw (jW (fun ss => S.getD ss []) S.length) law (jS (fun ss => S.getD ss []) S.length)) 1621).toNat : Nat) : Int)), .long (zJ (((jA (fun ss => S.getD ss []) S.length).toNat : Nat) : Int))]) (rest := [.long (zJ (((jA (fun ss => S.getD ss []) S.length).toNat : Nat) : Int))]) (n := 2) (c_X11_common (x := (sm (bw (jW (fun ss => S.getD ss []) S.length) law (jS (fun ss => S.getD ss []) S.length)) 1621).toNat) (y := (jA (fun ss => S.getD ss []) S.length).toNat) (by first | omega | with_reducible rfl) (by first | omega | with_reducible rfl)) gX11_joined_X11_common rfl rfl rfl (by decide +kernel) ⟨Nat.le_of_ble_eq_true rfl, Nat.le_of_ble_eq_true rfl⟩ rfl (Nat.le_of_ble_eq_true rfl) ⟨Nat.zero_le _, Nat.zero_le _⟩ dX11_joined_124 rfl (fun g_34 hp_35 => ?_)
            subst g_34
            refine w_ldiv dX11_joined_127 (by first | omega | with_reducible rfl) (by first | omega | with_reducible rfl) ?_
            exact w_lret dX11_joined_128 rfl (by unfold aJoi lowT; rw [if_pos hb, if_neg (by omega)]; first | (rw [if_pos (by omega)]; rfl) | (rw [if_neg (by omega)]; rfl)) ⟨o01_7, tn1_8, aw1_9, mw1_10, fw1_11, ls1_12, gs1_13, sn1_14, sw1_15, kr1_16, Tb1_17, Lk1_18, Bs1_19, Jo1_20, Wi1_21, hm_22, htb_23, hlk_24, hbs_25, hjo_26, hwi_27, hrg1_23, hfr_31⟩
          · refine w_lload dX11_joined_113 4 rfl ?_
            refine w_goto 120 dX11_joined_115 (by decide) ?_
            have hg0 : 0 < Nat.gcd (sm (bw (jW (fun ss => S.getD ss []) S.length) law (jS (fun ss => S.getD ss []) S.length)) 1621).toNat (jA (fun ss => S.getD ss []) S.length).toNat := Nat.gcd_pos_of_pos_right _ (by omega)
            have hg1 : Nat.gcd (sm (bw (jW (fun ss => S.getD ss []) S.length) law (jS (fun ss => S.getD ss []) S.length)) 1621).toNat (jA (fun ss => S.getD ss []) S.length).toNat ≤ (jA (fun ss => S.getD ss []) S.length).toNat := Nat.gcd_le_right _ (by omega)
            refine w_as (st' := [.long (zJ (((sm (bw (jW (fun ss => S.getD ss []) S.length) law (jS (fun ss => S.getD ss []) S.length)) 1621).toNat : Nat) : Int))]) (sc_l (by omega) rfl) ?_
            refine w_lload dX11_joined_120 4 rfl ?_
            refine w_lload dX11_joined_122 5 rfl ?_
            refine w_as (st' := [.long (zJ (((jA (fun ss => S.getD ss []) S.length).toNat : Nat) : Int)), .long (zJ (((sm (bw (jW (fun ss => S.getD ss []) S.length) law (jS (fun ss => S.getD ss []) S.length)) 1621).toNat : Nat) : Int)), .long (zJ (((sm (bw (jW (fun ss => S.getD ss []) S.length) law (jS (fun ss => S.getD ss []) S.length)) 1621).toNat : Nat) : Int))]) (sc_l (by rw [hsum]; omega) (sc_l (by omega) rfl)) ?_
            refine w_calllS (As := [.long (zJ (((sm (bw (jW (fun ss => S.getD ss []) S.length) law (jS (fun ss => S.getD ss []) S.length)) 1621).toNat : Nat) : Int)), .long (zJ (((jA (fun ss => S.getD ss []) S.length).toNat : Nat) : Int))]) (rest := [.long (zJ (((sm (bw (jW (fun ss => S.getD ss []) S.length) law (jS (fun ss => S.getD ss []) S.length)) 1621).toNat : Nat) : Int))]) (n := 2) (c_X11_common (x := (sm (bw (jW (fun ss => S.getD ss []) S.length) law (jS (fun ss => S.getD ss []) S.length)) 1621).toNat) (y := (jA (fun ss => S.getD ss []) S.length).toNat) (by first | omega | with_reducible rfl) (by first | omega | with_reducible rfl)) gX11_joined_X11_common rfl rfl rfl (by decide +kernel) ⟨Nat.le_of_ble_eq_true rfl, Nat.le_of_ble_eq_true rfl⟩ rfl (Nat.le_of_ble_eq_true rfl) ⟨Nat.zero_le _, Nat.zero_le _⟩ dX11_joined_124 rfl (fun g_36 hp_37 => ?_)
            subst g_36
            refine w_ldiv dX11_joined_127 (by first | omega | with_reducible rfl) (by first | omega | with_reducible rfl) ?_
            exact w_lret dX11_joined_128 rfl (by unfold aJoi lowT; rw [if_pos hb, if_neg (by omega)]; first | (rw [if_pos (by omega)]; rfl) | (rw [if_neg (by omega)]; rfl)) ⟨o01_7, tn1_8, aw1_9, mw1_10, fw1_11, ls1_12, gs1_13, sn1_14, sw1_15, kr1_16, Tb1_17, Lk1_18, Bs1_19, Jo1_20, Wi1_21, hm_22, htb_23, hlk_24, hbs_25, hjo_26, hwi_27, hrg1_23, hfr_31⟩
        · refine w_lload dX11_joined_55 4 rfl ?_
          refine w_iload_n dX11_joined_57 rfl 1 rfl ?_
          refine w_iconst dX11_joined_58 ?_
          refine w_icmp_ne 71 dX11_joined_59 (by decide) (by first | omega | with_reducible rfl) (by first | omega | with_reducible rfl) (fun c_59 => ?_) (fun c_59 => ?_)
          · refine w_iload dX11_joined_71 6 rfl ?_
            refine w_iload_n dX11_joined_73 rfl 3 rfl ?_
            refine w_icmp_gt 87 dX11_joined_74 (by decide) (by first | omega | with_reducible rfl) (by first | omega | with_reducible rfl) (fun c_74 => ?_) (fun c_74 => ?_)
            · refine w_lconst0 dX11_joined_87 ?_
              refine w_ladd dX11_joined_88 ?_
              refine w_lstore [(4, .long (zJ ((sm (bw (jW (fun ss => S.getD ss []) S.length) law (jS (fun ss => S.getD ss []) S.length)) i) + 0))), (0, .ref (B + 141)), (1, .int (zI law)), (2, .int (zI part)), (3, .int (zI (jS (fun i => S.getD i []) S.length))), (6, .long (zJ (sm (jW (fun ss => S.getD ss []) S.length) i))), (8, .int (zI ((i : Nat) : Int)))] dX11_joined_89 (by decide) rfl ?_
              refine w_lload dX11_joined_91 5 rfl ?_
              refine w_aload_n dX11_joined_93 rfl 1 rfl ?_
              refine w_get (i := 22) (T := TX11) (NF := 32) 141 (by first | omega | with_reducible rfl) hm_22 rfl (fun _ h => (List.mem_cons_of_mem _ (List.mem_append_right _ h))) (by decide) (List.mem_of_getElem? (i := 3) rfl) rfl dX11_joined_94 ?_
              refine w_iload dX11_joined_97 6 rfl ?_
              refine w_lald 150 (by first | omega | with_reducible rfl) hjo_26 (by first | omega | with_reducible rfl) dX11_joined_99 ?_
              refine w_as (st' := [.long (zJ (jW (fun ss => S.getD ss []) S.length ((i : Nat) : Int))), .long (zJ (sm (jW (fun ss => S.getD ss []) S.length) i))]) (sc_l (hJ9 _ (by omega) (by omega)) rfl) ?_
              refine w_ladd dX11_joined_100 ?_
              refine w_lstore [(6, .long (zJ ((sm (jW (fun ss => S.getD ss []) S.length) i) + (jW (fun ss => S.getD ss []) S.length ((i : Nat) : Int))))), (4, .long (zJ ((sm (bw (jW (fun ss => S.getD ss []) S.length) law (jS (fun ss => S.getD ss []) S.length)) i) + 0))), (0, .ref (B + 141)), (1, .int (zI law)), (2, .int (zI part)), (3, .int (zI (jS (fun i => S.getD i []) S.length))), (8, .int (zI ((i : Nat) : Int)))] dX11_joined_101 (by decide) rfl ?_
              refine w_iinc 6 [(8, .int (zI (((i : Nat) : Int) + 1))), (6, .long (zJ ((sm (jW (fun ss => S.getD ss []) S.length) i) + (jW (fun ss => S.getD ss []) S.length ((i : Nat) : Int))))), (4, .long (zJ ((sm (bw (jW (fun ss => S.getD ss []) S.length) law (jS (fun ss => S.getD ss []) S.length)) i) + 0))), (0, .ref (B + 141)), (1, .int (zI law)), (2, .int (zI part)), (3, .int (zI (jS (fun i => S.getD i []) S.length)))] dX11_joined_103 rfl (by decide) rfl ?_
              refine w_goto 47 dX11_joined_106 (by decide) ?_
              refine w_sub [(0, .ref (B + 141)), (1, .int (zI law)), (2, .int (zI part)), (3, .int (zI (jS (fun i => S.getD i []) S.length))), (4, .long (zJ ((sm (bw (jW (fun ss => S.getD ss []) S.length) law (jS (fun ss => S.getD ss []) S.length)) i) + 0))), (6, .long (zJ ((sm (jW (fun ss => S.getD ss []) S.length) i) + (jW (fun ss => S.getD ss []) S.length ((i : Nat) : Int))))), (8, .int (zI (((i : Nat) : Int) + 1)))] [3, 4, 5, 6, 2, 1, 0] rfl ?_
              refine w_lv (lv' := [(0, .ref (B + 141)), (1, .int (zI law)), (2, .int (zI part)), (3, .int (zI (jS (fun i => S.getD i []) S.length))), (4, .long (zJ (sm (bw (jW (fun ss => S.getD ss []) S.length) law (jS (fun ss => S.getD ss []) S.length)) (i + 1)))), (6, .long (zJ (sm (jW (fun ss => S.getD ss []) S.length) (i + 1)))), (8, .int (zI (((i + 1) : Nat) : Int)))]) (lc_s (lc_s (lc_s (lc_s (lc_l (by rw [sm_1]; unfold bw; first | (rw [if_pos (by omega)]; done) | (rw [if_neg (by omega)]; done)) (lc_l rfl (lc_i (by first | omega | with_reducible rfl) rfl))))))) ?_
              exact ih_47 (i + 1) (by first | omega | with_reducible rfl) (by first | omega | with_reducible rfl)
            · refine w_aload_n dX11_joined_77 rfl 0 rfl ?_
              refine w_get (i := 22) (T := TX11) (NF := 32) 141 (by first | omega | with_reducible rfl) hm_22 rfl (fun _ h => (List.mem_cons_of_mem _ (List.mem_append_right _ h))) (by decide) (List.mem_of_getElem? (i := 3) rfl) rfl dX11_joined_78 ?_
              refine w_iload dX11_joined_81 6 rfl ?_
              refine w_lald 150 (by first | omega | with_reducible rfl) hjo_26 (by first | omega | with_reducible rfl) dX11_joined_83 ?_
              refine w_as (st' := [.long (zJ (jW (fun ss => S.getD ss []) S.length ((i : Nat) : Int))), .long (zJ (sm (bw (jW (fun ss => S.getD ss []) S.length) law (jS (fun ss => S.getD ss []) S.length)) i))]) (sc_l (hJ9 _ (by omega) (by omega)) rfl) ?_
              refine w_goto 88 dX11_joined_84 (by decide) ?_
              refine w_ladd dX11_joined_88 ?_
              refine w_lstore [(4, .long (zJ ((sm (bw (jW (fun ss => S.getD ss []) S.length) law (jS (fun ss => S.getD ss []) S.length)) i) + (jW (fun ss => S.getD ss []) S.length ((i : Nat) : Int))))), (0, .ref (B + 141)), (1, .int (zI law)), (2, .int (zI part)), (3, .int (zI (jS (fun i => S.getD i []) S.length))), (6, .long (zJ (sm (jW (fun ss => S.getD ss []) S.length) i))), (8, .int (zI ((i : Nat) : Int)))] dX11_joined_89 (by decide) rfl ?_
              refine w_lload dX11_joined_91 5 rfl ?_
              refine w_aload_n dX11_joined_93 rfl 1 rfl ?_
              refine w_get (i := 22) (T := TX11) (NF := 32) 141 (by first | omega | with_reducible rfl) hm_22 rfl (fun _ h => (List.mem_cons_of_mem _ (List.mem_append_right _ h))) (by decide) (List.mem_of_getElem? (i := 3) rfl) rfl dX11_joined_94 ?_
              refine w_iload dX11_joined_97 6 rfl ?_
              refine w_lald 150 (by first | omega | with_reducible rfl) hjo_26 (by first | omega | with_reducible rfl) dX11_joined_99 ?_
              refine w_as (st' := [.long (zJ (jW (fun ss => S.getD ss []) S.length ((i : Nat) : Int))), .long (zJ (sm (jW (fun ss => S.getD ss []) S.length) i))]) (sc_l (hJ9 _ (by omega) (by omega)) rfl) ?_
              refine w_ladd dX11_joined_100 ?_
              refine w_lstore [(6, .long (zJ ((sm (jW (fun ss => S.getD ss []) S.length) i) + (jW (fun ss => S.getD ss []) S.length ((i : Nat) : Int))))), (4, .long (zJ ((sm (bw (jW (fun ss => S.getD ss []) S.length) law (jS (fun ss => S.getD ss []) S.length)) i) + (jW (fun ss => S.getD ss []) S.length ((i : Nat) : Int))))), (0, .ref (B + 141)), (1, .int (zI law)), (2, .int (zI part)), (3, .int (zI (jS (fun i => S.getD i []) S.length))), (8, .int (zI ((i : Nat) : Int)))] dX11_joined_101 (by decide) rfl ?_
              refine w_iinc 6 [(8, .int (zI (((i : Nat) : Int) + 1))), (6, .long (zJ ((sm (jW (fun ss => S.getD ss []) S.length) i) + (jW (fun ss => S.getD ss []) S.length ((i : Nat) : Int))))), (4, .long (zJ ((sm (bw (jW (fun ss => S.getD ss []) S.length) law (jS (fun ss => S.getD ss []) S.length)) i) + (jW (fun ss => S.getD ss []) S.length ((i : Nat) : Int))))), (0, .ref (B + 141)), (1, .int (zI law)), (2, .int (zI part)), (3, .int (zI (jS (fun i => S.getD i []) S.length)))] dX11_joined_103 rfl (by decide) rfl ?_
              refine w_goto 47 dX11_joined_106 (by decide) ?_
              refine w_sub [(0, .ref (B + 141)), (1, .int (zI law)), (2, .int (zI part)), (3, .int (zI (jS (fun i => S.getD i []) S.length))), (4, .long (zJ ((sm (bw (jW (fun ss => S.getD ss []) S.length) law (jS (fun ss => S.getD ss []) S.length)) i) + (jW (fun ss => S.getD ss []) S.length ((i : Nat) : Int))))), (6, .long (zJ ((sm (jW (fun ss => S.getD ss []) S.length) i) + (jW (fun ss => S.getD ss []) S.length ((i : Nat) : Int))))), (8, .int (zI (((i : Nat) : Int) + 1)))] [3, 4, 5, 6, 2, 1, 0] rfl ?_
              refine w_lv (lv' := [(0, .ref (B + 141)), (1, .int (zI law)), (2, .int (zI part)), (3, .int (zI (jS (fun i => S.getD i []) S.length))), (4, .long (zJ (sm (bw (jW (fun ss => S.getD ss []) S.length) law (jS (fun ss => S.getD ss []) S.length)) (i + 1)))), (6, .long (zJ (sm (jW (fun ss => S.getD ss []) S.length) (i + 1)))), (8, .int (zI (((i + 1) : Nat) : Int)))]) (lc_s (lc_s (lc_s (lc_s (lc_l (by rw [sm_1]; unfold bw; first | (rw [if_pos (by omega)]; done) | (rw [if_neg (by omega)]; done)) (lc_l rfl (lc_i (by first | omega | with_reducible rfl) rfl))))))) ?_
              exact ih_47 (i + 1) (by first | omega | with_reducible rfl) (by first | omega | with_reducible rfl)
          · refine w_iload dX11_joined_62 6 rfl ?_
            refine w_iload_n dX11_joined_64 rfl 3 rfl ?_
            refine w_icmp_lt 87 dX11_joined_65 (by decide) (by first | omega | with_reducible rfl) (by first | omega | with_reducible rfl) (fun c_65 => ?_) (fun c_65 => ?_)
            · refine w_lconst0 dX11_joined_87 ?_
              refine w_ladd dX11_joined_88 ?_
              refine w_lstore [(4, .long (zJ ((sm (bw (jW (fun ss => S.getD ss []) S.length) law (jS (fun ss => S.getD ss []) S.length)) i) + 0))), (0, .ref (B + 141)), (1, .int (zI law)), (2, .int (zI part)), (3, .int (zI (jS (fun i => S.getD i []) S.length))), (6, .long (zJ (sm (jW (fun ss => S.getD ss []) S.length) i))), (8, .int (zI ((i : Nat) : Int)))] dX11_joined_89 (by decide) rfl ?_
              refine w_lload dX11_joined_91 5 rfl ?_
              refine w_aload_n dX11_joined_93 rfl 1 rfl ?_
              refine w_get (i := 22) (T := TX11) (NF := 32) 141 (by first | omega | with_reducible rfl) hm_22 rfl (fun _ h => (List.mem_cons_of_mem _ (List.mem_append_right _ h))) (by decide) (List.mem_of_getElem? (i := 3) rfl) rfl dX11_joined_94 ?_
              refine w_iload dX11_joined_97 6 rfl ?_
              refine w_lald 150 (by first | omega | with_reducible rfl) hjo_26 (by first | omega | with_reducible rfl) dX11_joined_99 ?_
              refine w_as (st' := [.long (zJ (jW (fun ss => S.getD ss []) S.length ((i : Nat) : Int))), .long (zJ (sm (jW (fun ss => S.getD ss []) S.length) i))]) (sc_l (hJ9 _ (by omega) (by omega)) rfl) ?_
              refine w_ladd dX11_joined_100 ?_
              refine w_lstore [(6, .long (zJ ((sm (jW (fun ss => S.getD ss []) S.length) i) + (jW (fun ss => S.getD ss []) S.length ((i : Nat) : Int))))), (4, .long (zJ ((sm (bw (jW (fun ss => S.getD ss []) S.length) law (jS (fun ss => S.getD ss []) S.length)) i) + 0))), (0, .ref (B + 141)), (1, .int (zI law)), (2, .int (zI part)), (3, .int (zI (jS (fun i => S.getD i []) S.length))), (8, .int (zI ((i : Nat) : Int)))] dX11_joined_101 (by decide) rfl ?_
              refine w_iinc 6 [(8, .int (zI (((i : Nat) : Int) + 1))), (6, .long (zJ ((sm (jW (fun ss => S.getD ss []) S.length) i) + (jW (fun ss => S.getD ss []) S.length ((i : Nat) : Int))))), (4, .long (zJ ((sm (bw (jW (fun ss => S.getD ss []) S.length) law (jS (fun ss => S.getD ss []) S.length)) i) + 0))), (0, .ref (B + 141)), (1, .int (zI law)), (2, .int (zI part)), (3, .int (zI (jS (fun i => S.getD i []) S.length)))] dX11_joined_103 rfl (by decide) rfl ?_
              refine w_goto 47 dX11_joined_106 (by decide) ?_
              refine w_sub [(0, .ref (B + 141)), (1, .int (zI law)), (2, .int (zI part)), (3, .int (zI (jS (fun i => S.getD i []) S.length))), (4, .long (zJ ((sm (bw (jW (fun ss => S.getD ss []) S.length) law (jS (fun ss => S.getD ss []) S.length)) i) + 0))), (6, .long (zJ ((sm (jW (fun ss => S.getD ss []) S.length) i) + (jW (fun ss => S.getD ss []) S.length ((i : Nat) : Int))))), (8, .int (zI (((i : Nat) : Int) + 1)))] [3, 4, 5, 6, 2, 1, 0] rfl ?_
              refine w_lv (lv' := [(0, .ref (B + 141)), (1, .int (zI law)), (2, .int (zI part)), (3, .int (zI (jS (fun i => S.getD i []) S.length))), (4, .long (zJ (sm (bw (jW (fun ss => S.getD ss []) S.length) law (jS (fun ss => S.getD ss []) S.length)) (i + 1)))), (6, .long (zJ (sm (jW (fun ss => S.getD ss []) S.length) (i + 1)))), (8, .int (zI (((i + 1) : Nat) : Int)))]) (lc_s (lc_s (lc_s (lc_s (lc_l (by rw [sm_1]; unfold bw; first | (rw [if_pos (by omega)]; done) | (rw [if_neg (by omega)]; done)) (lc_l rfl (lc_i (by first | omega | with_reducible rfl) rfl))))))) ?_
              exact ih_47 (i + 1) (by first | omega | with_reducible rfl) (by first | omega | with_reducible rfl)
            · refine w_goto 77 dX11_joined_68 (by decide) ?_
              refine w_aload_n dX11_joined_77 rfl 0 rfl ?_
              refine w_get (i := 22) (T := TX11) (NF := 32) 141 (by first | omega | with_reducible rfl) hm_22 rfl (fun _ h => (List.mem_cons_of_mem _ (List.mem_append_right _ h))) (by decide) (List.mem_of_getElem? (i := 3) rfl) rfl dX11_joined_78 ?_
              refine w_iload dX11_joined_81 6 rfl ?_
              refine w_lald 150 (by first | omega | with_reducible rfl) hjo_26 (by first | omega | with_reducible rfl) dX11_joined_83 ?_
              refine w_as (st' := [.long (zJ (jW (fun ss => S.getD ss []) S.length ((i : Nat) : Int))), .long (zJ (sm (bw (jW (fun ss => S.getD ss []) S.length) law (jS (fun ss => S.getD ss []) S.length)) i))]) (sc_l (hJ9 _ (by omega) (by omega)) rfl) ?_
              refine w_goto 88 dX11_joined_84 (by decide) ?_
              refine w_ladd dX11_joined_88 ?_
              refine w_lstore [(4, .long (zJ ((sm (bw (jW (fun ss => S.getD ss []) S.length) law (jS (fun ss => S.getD ss []) S.length)) i) + (jW (fun ss => S.getD ss []) S.length ((i : Nat) : Int))))), (0, .ref (B + 141)), (1, .int (zI law)), (2, .int (zI part)), (3, .int (zI (jS (fun i => S.getD i []) S.length))), (6, .long (zJ (sm (jW (fun ss => S.getD ss []) S.length) i))), (8, .int (zI ((i : Nat) : Int)))] dX11_joined_89 (by decide) rfl ?_
              refine w_lload dX11_joined_91 5 rfl ?_
              refine w_aload_n dX11_joined_93 rfl 1 rfl ?_
              refine w_get (i := 22) (T := TX11) (NF := 32) 141 (by first | omega | with_reducible rfl) hm_22 rfl (fun _ h => (List.mem_cons_of_mem _ (List.mem_append_right _ h))) (by decide) (List.mem_of_getElem? (i := 3) rfl) rfl dX11_joined_94 ?_
              refine w_iload dX11_joined_97 6 rfl ?_
              refine w_lald 150 (by first | omega | with_reducible rfl) hjo_26 (by first | omega | with_reducible rfl) dX11_joined_99 ?_
              refine w_as (st' := [.long (zJ (jW (fun ss => S.getD ss []) S.length ((i : Nat) : Int))), .long (zJ (sm (jW (fun ss => S.getD ss []) S.length) i))]) (sc_l (hJ9 _ (by omega) (by omega)) rfl) ?_
              refine w_ladd dX11_joined_100 ?_
              refine w_lstore [(6, .long (zJ ((sm (jW (fun ss => S.getD ss []) S.length) i) + (jW (fun ss => S.getD ss []) S.length ((i : Nat) : Int))))), (4, .long (zJ ((sm (bw (jW (fun ss => S.getD ss []) S.length) law (jS (fun ss => S.getD ss []) S.length)) i) + (jW (fun ss => S.getD ss []) S.length ((i : Nat) : Int))))), (0, .ref (B + 141)), (1, .int (zI law)), (2, .int (zI part)), (3, .int (zI (jS (fun i => S.getD i []) S.length))), (8, .int (zI ((i : Nat) : Int)))] dX11_joined_101 (by decide) rfl ?_
              refine w_iinc 6 [(8, .int (zI (((i : Nat) : Int) + 1))), (6, .long (zJ ((sm (jW (fun ss => S.getD ss []) S.length) i) + (jW (fun ss => S.getD ss []) S.length ((i : Nat) : Int))))), (4, .long (zJ ((sm (bw (jW (fun ss => S.getD ss []) S.length) law (jS (fun ss => S.getD ss []) S.length)) i) + (jW (fun ss => S.getD ss []) S.length ((i : Nat) : Int))))), (0, .ref (B + 141)), (1, .int (zI law)), (2, .int (zI part)), (3, .int (zI (jS (fun i => S.getD i []) S.length)))] dX11_joined_103 rfl (by decide) rfl ?_
              refine w_goto 47 dX11_joined_106 (by decide) ?_
              refine w_sub [(0, .ref (B + 141)), (1, .int (zI law)), (2, .int (zI part)), (3, .int (zI (jS (fun i => S.getD i []) S.length))), (4, .long (zJ ((sm (bw (jW (fun ss => S.getD ss []) S.length) law (jS (fun ss => S.getD ss []) S.length)) i) + (jW (fun ss => S.getD ss []) S.length ((i : Nat) : Int))))), (6, .long (zJ ((sm (jW (fun ss => S.getD ss []) S.length) i) + (jW (fun ss => S.getD ss []) S.length ((i : Nat) : Int))))), (8, .int (zI (((i : Nat) : Int) + 1)))] [3, 4, 5, 6, 2, 1, 0] rfl ?_
              refine w_lv (lv' := [(0, .ref (B + 141)), (1, .int (zI law)), (2, .int (zI part)), (3, .int (zI (jS (fun i => S.getD i []) S.length))), (4, .long (zJ (sm (bw (jW (fun ss => S.getD ss []) S.length) law (jS (fun ss => S.getD ss []) S.length)) (i + 1)))), (6, .long (zJ (sm (jW (fun ss => S.getD ss []) S.length) (i + 1)))), (8, .int (zI (((i + 1) : Nat) : Int)))]) (lc_s (lc_s (lc_s (lc_s (lc_l (by rw [sm_1]; unfold bw; first | (rw [if_pos (by omega)]; done) | (rw [if_neg (by omega)]; done)) (lc_l rfl (lc_i (by first | omega | with_reducible rfl) rfl))))))) ?_
              exact ih_47 (i + 1) (by first | omega | with_reducible rfl) (by first | omega | with_reducible rfl)
      · refine w_ldc2 (z := -4) (List.mem_of_getElem? (i := 2) rfl) dX11_joined_29 ?_
        exact w_lret dX11_joined_32 rfl (by unfold aJoi; rw [if_pos hb, if_pos (by omega)]) ⟨o01_7, tn1_8, aw1_9, mw1_10, fw1_11, ls1_12, gs1_13, sn1_14, sw1_15, kr1_16, Tb1_17, Lk1_18, Bs1_19, Jo1_20, Wi1_21, hm_22, htb_23, hlk_24, hbs_25, hjo_26, hwi_27, hrg1_23, hfr_31⟩
    · exfalso; omega

