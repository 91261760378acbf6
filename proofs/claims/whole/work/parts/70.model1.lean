/-! ===== the model: its numbers ===== -/
def vM (cy : Nat → ClassId) (B : Nat) (g : Nat → va_E) (b : Nat) (cg : Int) (le : Int) (sp : Int) (va : Int) (o0 : Int) (tn : Int) (aw : Int) (mw : Int) (fw : Int) (ls : Int) (gs : Int) (sn : Int) (sw : Int) (kr : Int) : Prop := g b = .inr (11, [.ref (B + 142), .ref (B + 143), .ref (B + 144), .int (zI cg), .ref (B + 145), .int (zI le), .ref (B + 146), .int (zI sp), .int (zI va), .ref (B + 147), .int (zI o0), .int (zI tn), .long (zJ aw), .long (zJ mw), .long (zJ fw), .int (zI ls), .int (zI gs), .int (zI sn), .long (zJ sw), .ref (B + 148), .int (zI kr), .ref (B + 149), .ref (B + 150), .ref (B + 151), .ref (B + 152), .ref (B + 153), .ref (B + 154), .ref (B + 155), .ref (B + 156), .ref (B + 157), .ref (B + 158), .ref (B + 159)])
theorem vM_fr {cy : Nat → ClassId} {B : Nat} {g g' : Nat → va_E} {b : Nat} {cg : Int} {le : Int} {sp : Int} {va : Int} {o0 : Int} {tn : Int} {aw : Int} {mw : Int} {fw : Int} {ls : Int} {gs : Int} {sn : Int} {sw : Int} {kr : Int} (h : vM cy B g b cg le sp va o0 tn aw mw fw ls gs sn sw kr) (hq : ∀ q, b ≤ q → q < b + 1 → g' q = g q) : vM cy B g' b cg le sp va o0 tn aw mw fw ls gs sn sw kr := (hq _ (by omega) (by omega)).trans h
set_option maxHeartbeats 4000000 in
set_option maxRecDepth 100000 in
theorem c_X11_in {l : Launch} {D : va_G} {cy : Nat → ClassId} {B N : Nat} {g : Nat → va_E} {v lo hi : Int} (h_v : -2147483648 ≤ v ∧ v < 2147483648) (h_lo : -2147483648 ≤ lo ∧ lo < 2147483648) (h_hi : -2147483648 ≤ hi ∧ hi < 2147483648) : CTi l yX11_in wsX11_in (rmo 0 0) D cy B N g [.int (zI v), .int (zI lo), .int (zI hi)] (if lo ≤ v ∧ v ≤ hi then 1 else 0) (fun g' => g' = g) := by
  refine WW_of (cc := cX11_in) (maxL := 3) (ret := (some .boolean)) (own := RX11) (by decide) rfl rfl (Nat.le_of_ble_eq_true rfl) rfl ?_
  intro pp ee ss mm bl me co hmn
  refine w_iload_n dX11_in_0 rfl 0 rfl ?_
  refine w_iload_n dX11_in_1 rfl 1 rfl ?_
  refine w_icmp_lt 14 dX11_in_2 (by decide) (by first | omega | with_reducible rfl) (by first | omega | with_reducible rfl) (fun c_2 => ?_) (fun c_2 => ?_)
  · refine w_iconst dX11_in_14 ?_
    exact w_zret dX11_in_15 rfl rfl (by first | rw [if_pos (by omega)] | rw [if_neg (by omega)]) rfl
  · refine w_iload_n dX11_in_5 rfl 0 rfl ?_
    refine w_iload_n dX11_in_6 rfl 2 rfl ?_
    refine w_icmp_gt 14 dX11_in_7 (by decide) (by first | omega | with_reducible rfl) (by first | omega | with_reducible rfl) (fun c_7 => ?_) (fun c_7 => ?_)
    · refine w_iconst dX11_in_14 ?_
      exact w_zret dX11_in_15 rfl rfl (by first | rw [if_pos (by omega)] | rw [if_neg (by omega)]) rfl
    · refine w_iconst dX11_in_10 ?_
      refine w_goto 15 dX11_in_11 (by decide) ?_
      exact w_zret dX11_in_15 rfl rfl (by first | rw [if_pos (by omega)] | rw [if_neg (by omega)]) rfl

set_option maxHeartbeats 4000000 in
set_option maxRecDepth 100000 in
theorem c_X11_place {l : Launch} {D : va_G} {cy : Nat → ClassId} {B N : Nat} {g : Nat → va_E} {s j w : Int}  : CTi l yX11_place wsX11_place (rmo 0 0) D cy B N g [.int (zI s), .int (zI j), .int (zI w)] (4 + 15 * s + 3 * j + w) (fun g' => g' = g) := by
  refine WW_of (cc := cX11_place) (maxL := 3) (ret := (some .int)) (own := RX11) (by decide) rfl rfl (Nat.le_of_ble_eq_true rfl) rfl ?_
  intro pp ee ss mm bl me co hmn
  refine w_iconst dX11_place_0 ?_
  refine w_bipush dX11_place_1 (by decide) ?_
  refine w_iload_n dX11_place_3 rfl 0 rfl ?_
  refine w_imul dX11_place_4 ?_
  refine w_iadd dX11_place_5 ?_
  refine w_iconst dX11_place_6 ?_
  refine w_iload_n dX11_place_7 rfl 1 rfl ?_
  refine w_imul dX11_place_8 ?_
  refine w_iadd dX11_place_9 ?_
  refine w_iload_n dX11_place_10 rfl 2 rfl ?_
  refine w_iadd dX11_place_11 ?_
  exact w_iret dX11_place_12 rfl (by first | with_reducible rfl | omega | (split <;> omega)) rfl

set_option maxHeartbeats 4000000 in
set_option maxRecDepth 100000 in
theorem c_X11_columns {l : Launch} {D : va_G} {cy : Nat → ClassId} {B N : Nat} {g : Nat → va_E} {cg le sp va o0 tn aw mw fw ls gs sn sw kr : Int} {Nw : Int → Int} {k : Nat} {c : List Co} (hm : vM cy B g 141 cg le sp va o0 tn aw mw fw ls gs sn sw kr) (hnow : vIA cy B g 142 49 Nw) (hN : 160 ≤ N) (hmc : MC Nw k c) : CTi l yX11_columns wsX11_columns (rmo 0 0) D cy B N g [.ref (B + 141), .int (zI ((k : Nat) : Int))] ((c.length : Nat) : Int) (fun g' => g' = g) := by
  refine WW_of (cc := cX11_columns) (maxL := 2) (ret := (some .int)) (own := RX11) (by decide) rfl rfl (Nat.le_of_ble_eq_true rfl) rfl ?_
  intro pp ee ss mm bl me co hmn
  have hk3 := hmc.1
  refine w_aload_n dX11_columns_0 rfl 0 rfl ?_
  refine w_get (i := 0) (T := TX11) (NF := 32) 141 (by first | omega | with_reducible rfl) hm rfl (fun _ h => (List.mem_cons_of_mem _ (List.mem_append_right _ h))) (by decide) (List.mem_of_getElem? (i := 1) rfl) rfl dX11_columns_1 ?_
  refine w_iconst dX11_columns_4 ?_
  refine w_iload_n dX11_columns_5 rfl 1 rfl ?_
  refine w_iadd dX11_columns_6 ?_
  refine w_iald 142 (by first | omega | with_reducible rfl) hnow (by first | omega | with_reducible rfl) dX11_columns_7 ?_
  exact w_iret dX11_columns_8 rfl (by exact hmc.2.1) rfl

set_option maxHeartbeats 4000000 in
set_option maxRecDepth 100000 in
theorem c_X11_of {l : Launch} {D : va_G} {cy : Nat → ClassId} {B N : Nat} {g : Nat → va_E} {cg le sp va o0 tn aw mw fw ls gs sn sw kr : Int} {Nw : Int → Int} {k : Nat} {c : List Co} {j w : Int} (hm : vM cy B g 141 cg le sp va o0 tn aw mw fw ls gs sn sw kr) (hnow : vIA cy B g 142 49 Nw) (hN : 160 ≤ N) (hmc : MC Nw k c) (hj : 0 ≤ j ∧ j < c.length) (hw : 0 ≤ w ∧ w ≤ 2) : CTi l yX11_of wsX11_of (rmo 1 22) D cy B N g [.ref (B + 141), .int (zI ((k : Nat) : Int)), .int (zI j), .int (zI w)] (cof c j w) (fun g' => g' = g) := by
  refine WW_of (cc := cX11_of) (maxL := 4) (ret := (some .int)) (own := RX11) (by decide) rfl rfl (Nat.le_of_ble_eq_true rfl) rfl ?_
  intro pp ee ss mm bl me co hmn
  have hk3 := hmc.1
  refine w_aload_n dX11_of_0 rfl 0 rfl ?_
  refine w_get (i := 0) (T := TX11) (NF := 32) 141 (by first | omega | with_reducible rfl) hm rfl (fun _ h => (List.mem_cons_of_mem _ (List.mem_append_right _ h))) (by decide) (List.mem_of_getElem? (i := 1) rfl) rfl dX11_of_1 ?_
  refine w_iload_n dX11_of_4 rfl 1 rfl ?_
  refine w_iload_n dX11_of_5 rfl 2 rfl ?_
  refine w_iload_n dX11_of_6 rfl 3 rfl ?_
  refine w_calliS (As := [.int (zI ((k : Nat) : Int)), .int (zI j), .int (zI w)]) (rest := [.ref (B + 142)]) (n := 3) (c_X11_place ) gX11_of_X11_place rfl rfl rfl (by decide +kernel) ⟨Nat.le_of_ble_eq_true rfl, Nat.le_of_ble_eq_true rfl⟩ rfl (Nat.le_of_ble_eq_true rfl) ⟨Nat.zero_le _, Nat.zero_le _⟩ dX11_of_7 rfl (fun g_1 hp_2 => ?_)
  subst g_1
  refine w_iald 142 (by first | omega | with_reducible rfl) hnow (by first | omega | with_reducible rfl) dX11_of_10 ?_
  exact w_iret dX11_of_11 rfl (by exact MC_of hmc hj.1 hj.2 hw) rfl

theorem c_X11_of0 {l : Launch} {D : va_G} {cy : Nat → ClassId} {B N : Nat} {g : Nat → va_E} {cg le sp va o0 tn aw mw fw ls gs sn sw kr : Int} {Nw : Int → Int} {k : Nat} {c : List Co} {j : Int} (hm : vM cy B g 141 cg le sp va o0 tn aw mw fw ls gs sn sw kr) (hnow : vIA cy B g 142 49 Nw) (hN : 160 ≤ N) (hmc : MC Nw k c) (hj : 0 ≤ j ∧ j < c.length) : CTi l yX11_of wsX11_of (rmo 1 22) D cy B N g [.ref (B + 141), .int (zI ((k : Nat) : Int)), .int (zI j), .int (zI 0)] (coT c j) (fun g' => g' = g) := by
  exact CTi_mono (c_X11_of hm hnow hN hmc hj (by omega)) (by rfl) (fun _ h => h)

theorem c_X11_of1 {l : Launch} {D : va_G} {cy : Nat → ClassId} {B N : Nat} {g : Nat → va_E} {cg le sp va o0 tn aw mw fw ls gs sn sw kr : Int} {Nw : Int → Int} {k : Nat} {c : List Co} {j : Int} (hm : vM cy B g 141 cg le sp va o0 tn aw mw fw ls gs sn sw kr) (hnow : vIA cy B g 142 49 Nw) (hN : 160 ≤ N) (hmc : MC Nw k c) (hj : 0 ≤ j ∧ j < c.length) : CTi l yX11_of wsX11_of (rmo 1 22) D cy B N g [.ref (B + 141), .int (zI ((k : Nat) : Int)), .int (zI j), .int (zI 1)] (coX c j) (fun g' => g' = g) := by
  exact CTi_mono (c_X11_of hm hnow hN hmc hj (by omega)) (by rfl) (fun _ h => h)

theorem c_X11_of2 {l : Launch} {D : va_G} {cy : Nat → ClassId} {B N : Nat} {g : Nat → va_E} {cg le sp va o0 tn aw mw fw ls gs sn sw kr : Int} {Nw : Int → Int} {k : Nat} {c : List Co} {j : Int} (hm : vM cy B g 141 cg le sp va o0 tn aw mw fw ls gs sn sw kr) (hnow : vIA cy B g 142 49 Nw) (hN : 160 ≤ N) (hmc : MC Nw k c) (hj : 0 ≤ j ∧ j < c.length) : CTi l yX11_of wsX11_of (rmo 1 22) D cy B N g [.ref (B + 141), .int (zI ((k : Nat) : Int)), .int (zI j), .int (zI 2)] (coV c j) (fun g' => g' = g) := by
  exact CTi_mono (c_X11_of hm hnow hN hmc hj (by omega)) (by rfl) (fun _ h => h)

set_option maxHeartbeats 4000000 in
set_option maxRecDepth 100000 in
theorem c_X11_total0 {l : Launch} {D : va_G} {cy : Nat → ClassId} {B N : Nat} {g : Nat → va_E} {cg le sp va o0 tn aw mw fw ls gs sn sw kr : Int} {Nw : Int → Int} {k : Nat} {c : List Co} (hm : vM cy B g 141 cg le sp va o0 tn aw mw fw ls gs sn sw kr) (hnow : vIA cy B g 142 49 Nw) (hN : 160 ≤ N) (hmc : MC Nw k c) : CTi l yX11_total wsX11_total (rmo 2 45) D cy B N g [.ref (B + 141), .int (zI ((k : Nat) : Int)), .int (zI 0)] (sm (coT c) c.length) (fun g' => g' = g) := by
  refine WW_of (cc := cX11_total) (maxL := 5) (ret := (some .int)) (own := RX11) (by decide) rfl rfl (Nat.le_of_ble_eq_true rfl) rfl ?_
  intro pp ee ss mm bl me co hmn
  have hk3 := hmc.1
  refine w_iconst dX11_total_0 ?_
  refine w_istore_n [(3, .int (zI 0)), (0, .ref (B + 141)), (1, .int (zI ((k : Nat) : Int))), (2, .int (zI 0))] dX11_total_1 rfl (by decide) rfl ?_
  refine w_iconst dX11_total_2 ?_
  refine w_istore [(4, .int (zI 0)), (3, .int (zI 0)), (0, .ref (B + 141)), (1, .int (zI ((k : Nat) : Int))), (2, .int (zI 0))] dX11_total_3 (by decide) rfl ?_
  refine w_sub [(0, .ref (B + 141)), (1, .int (zI ((k : Nat) : Int))), (2, .int (zI 0)), (3, .int (zI 0)), (4, .int (zI 0))] [2, 3, 4, 1, 0] rfl ?_
  refine w_lv (lv' := [(0, .ref (B + 141)), (1, .int (zI ((k : Nat) : Int))), (2, .int (zI 0)), (3, .int (zI (sm (coT c) 0))), (4, .int (zI ((0 : Nat) : Int)))]) (lc_s (lc_s (lc_s (lc_i rfl (lc_i (by first | omega | with_reducible rfl) rfl))))) ?_
  refine w_loop1 (fun (i : Nat) => i ≤ c.length) (fun (i : Nat) => c.length - i) (fun (i : Nat) => g) (fun (i : Nat) => [(0, .ref (B + 141)), (1, .int (zI ((k : Nat) : Int))), (2, .int (zI 0)), (3, .int (zI (sm (coT c) i))), (4, .int (zI ((i : Nat) : Int)))]) ?_ 0 (by first | omega | with_reducible rfl)
  rintro i hi ih_5
  refine w_iload dX11_total_5 4 rfl ?_
  refine w_aload_n dX11_total_7 rfl 0 rfl ?_
  refine w_iload_n dX11_total_8 rfl 1 rfl ?_
  refine w_calli (As := [.int (zI ((k : Nat) : Int))]) (rest := [.int (zI ((i : Nat) : Int))]) (n := 1) (c_X11_columns (k := k) hm hnow (by first | omega | with_reducible rfl) (by first | omega | with_reducible rfl)) gX11_total_X11_columns rfl rfl rfl (by decide +kernel) ⟨Nat.le_of_ble_eq_true rfl, Nat.le_of_ble_eq_true rfl⟩ rfl (by first | omega | with_reducible rfl) hm rfl (Nat.le_of_ble_eq_true rfl) ⟨Nat.zero_le _, Nat.zero_le _⟩ dX11_total_9 rfl (fun g_1 hp_2 => ?_)
  subst g_1
  refine w_icmp_ge 32 dX11_total_12 (by decide) (by first | omega | with_reducible rfl) (by first | omega | with_reducible rfl) (fun c_12 => ?_) (fun c_12 => ?_)
  · refine w_iload_n dX11_total_32 rfl 3 rfl ?_
    have hie : i = c.length := by omega
    exact w_iret dX11_total_33 rfl (by rw [hie]) rfl
  · refine w_iload_n dX11_total_15 rfl 3 rfl ?_
    refine w_aload_n dX11_total_16 rfl 0 rfl ?_
    refine w_iload_n dX11_total_17 rfl 1 rfl ?_
    refine w_iload dX11_total_18 4 rfl ?_
    refine w_iload_n dX11_total_20 rfl 2 rfl ?_
    refine w_calli (As := [.int (zI ((k : Nat) : Int)), .int (zI ((i : Nat) : Int)), .int (zI 0)]) (rest := [.int (zI (sm (coT c) i))]) (n := 3) (c_X11_of0 (k := k) hm hnow (by first | omega | with_reducible rfl) (by first | omega | with_reducible rfl) (by first | omega | with_reducible rfl)) gX11_total_X11_of rfl rfl rfl (by decide +kernel) ⟨Nat.le_of_ble_eq_true rfl, Nat.le_of_ble_eq_true rfl⟩ rfl (by first | omega | with_reducible rfl) hm rfl (Nat.le_of_ble_eq_true rfl) ⟨Nat.zero_le _, Nat.zero_le _⟩ dX11_total_21 rfl (fun g_3 hp_4 => ?_)
    subst g_3
    refine w_iadd dX11_total_24 ?_
    refine w_istore_n [(3, .int (zI ((sm (coT c) i) + (coT c ((i : Nat) : Int))))), (0, .ref (B + 141)), (1, .int (zI ((k : Nat) : Int))), (2, .int (zI 0)), (4, .int (zI ((i : Nat) : Int)))] dX11_total_25 rfl (by decide) rfl ?_
    refine w_iinc 4 [(4, .int (zI (((i : Nat) : Int) + 1))), (3, .int (zI ((sm (coT c) i) + (coT c ((i : Nat) : Int))))), (0, .ref (B + 141)), (1, .int (zI ((k : Nat) : Int))), (2, .int (zI 0))] dX11_total_26 rfl (by decide) rfl ?_
    refine w_goto 5 dX11_total_29 (by decide) ?_
    refine w_sub [(0, .ref (B + 141)), (1, .int (zI ((k : Nat) : Int))), (2, .int (zI 0)), (3, .int (zI ((sm (coT c) i) + (coT c ((i : Nat) : Int))))), (4, .int (zI (((i : Nat) : Int) + 1)))] [2, 3, 4, 1, 0] rfl ?_
    refine w_lv (lv' := [(0, .ref (B + 141)), (1, .int (zI ((k : Nat) : Int))), (2, .int (zI 0)), (3, .int (zI (sm (coT c) (i + 1)))), (4, .int (zI (((i + 1) : Nat) : Int)))]) (lc_s (lc_s (lc_s (lc_i rfl (lc_i (by first | omega | with_reducible rfl) rfl))))) ?_
    exact ih_5 (i + 1) (by first | omega | with_reducible rfl) (by first | omega | with_reducible rfl)
set_option maxHeartbeats 4000000 in
set_option maxRecDepth 100000 in
theorem c_X11_total1 {l : Launch} {D : va_G} {cy : Nat → ClassId} {B N : Nat} {g : Nat → va_E} {cg le sp va o0 tn aw mw fw ls gs sn sw kr : Int} {Nw : Int → Int} {k : Nat} {c : List Co} (hm : vM cy B g 141 cg le sp va o0 tn aw mw fw ls gs sn sw kr) (hnow : vIA cy B g 142 49 Nw) (hN : 160 ≤ N) (hmc : MC Nw k c) : CTi l yX11_total wsX11_total (rmo 2 45) D cy B N g [.ref (B + 141), .int (zI ((k : Nat) : Int)), .int (zI 1)] (sm (coX c) c.length) (fun g' => g' = g) := by
  refine WW_of (cc := cX11_total) (maxL := 5) (ret := (some .int)) (own := RX11) (by decide) rfl rfl (Nat.le_of_ble_eq_true rfl) rfl ?_
  intro pp ee ss mm bl me co hmn
  have hk3 := hmc.1
  refine w_iconst dX11_total_0 ?_
  refine w_istore_n [(3, .int (zI 0)), (0, .ref (B + 141)), (1, .int (zI ((k : Nat) : Int))), (2, .int (zI 1))] dX11_total_1 rfl (by decide) rfl ?_
  refine w_iconst dX11_total_2 ?_
  refine w_istore [(4, .int (zI 0)), (3, .int (zI 0)), (0, .ref (B + 141)), (1, .int (zI ((k : Nat) : Int))), (2, .int (zI 1))] dX11_total_3 (by decide) rfl ?_
  refine w_sub [(0, .ref (B + 141)), (1, .int (zI ((k : Nat) : Int))), (2, .int (zI 1)), (3, .int (zI 0)), (4, .int (zI 0))] [2, 3, 4, 1, 0] rfl ?_
  refine w_lv (lv' := [(0, .ref (B + 141)), (1, .int (zI ((k : Nat) : Int))), (2, .int (zI 1)), (3, .int (zI (sm (coX c) 0))), (4, .int (zI ((0 : Nat) : Int)))]) (lc_s (lc_s (lc_s (lc_i rfl (lc_i (by first | omega | with_reducible rfl) rfl))))) ?_
  refine w_loop1 (fun (i : Nat) => i ≤ c.length) (fun (i : Nat) => c.length - i) (fun (i : Nat) => g) (fun (i : Nat) => [(0, .ref (B + 141)), (1, .int (zI ((k : Nat) : Int))), (2, .int (zI 1)), (3, .int (zI (sm (coX c) i))), (4, .int (zI ((i : Nat) : Int)))]) ?_ 0 (by first | omega | with_reducible rfl)
  rintro i hi ih_5
  refine w_iload dX11_total_5 4 rfl ?_
  refine w_aload_n dX11_total_7 rfl 0 rfl ?_
  refine w_iload_n dX11_total_8 rfl 1 rfl ?_
  refine w_calli (As := [.int (zI ((k : Nat) : Int))]) (rest := [.int (zI ((i : Nat) : Int))]) (n := 1) (c_X11_columns (k := k) hm hnow (by first | omega | with_reducible rfl) (by first | omega | with_reducible rfl)) gX11_total_X11_columns rfl rfl rfl (by decide +kernel) ⟨Nat.le_of_ble_eq_true rfl, Nat.le_of_ble_eq_true rfl⟩ rfl (by first | omega | with_reducible rfl) hm rfl (Nat.le_of_ble_eq_true rfl) ⟨Nat.zero_le _, Nat.zero_le _⟩ dX11_total_9 rfl (fun g_1 hp_2 => ?_)
  subst g_1
  refine w_icmp_ge 32 dX11_total_12 (by decide) (by first | omega | with_reducible rfl) (by first | omega | with_reducible rfl) (fun c_12 => ?_) (fun c_12 => ?_)
  · refine w_iload_n dX11_total_32 rfl 3 rfl ?_
    have hie : i = c.length := by omega
    exact w_iret dX11_total_33 rfl (by rw [hie]) rfl
  · refine w_iload_n dX11_total_15 rfl 3 rfl ?_
    refine w_aload_n dX11_total_16 rfl 0 rfl ?_
    refine w_iload_n dX11_total_17 rfl 1 rfl ?_
    refine w_iload dX11_total_18 4 rfl ?_
    refine w_iload_n dX11_total_20 rfl 2 rfl ?_
    refine w_calli (As := [.int (zI ((k : Nat) : Int)), .int (zI ((i : Nat) : Int)), .int (zI 1)]) (rest := [.int (zI (sm (coX c) i))]) (n := 3) (c_X11_of1 (k := k) hm hnow (by first | omega | with_reducible rfl) (by first | omega | with_reducible rfl) (by first | omega | with_reducible rfl)) gX11_total_X11_of rfl rfl rfl (by decide +kernel) ⟨Nat.le_of_ble_eq_true rfl, Nat.le_of_ble_eq_true rfl⟩ rfl (by first | omega | with_reducible rfl) hm rfl (Nat.le_of_ble_eq_true rfl) ⟨Nat.zero_le _, Nat.zero_le _⟩ dX11_total_21 rfl (fun g_3 hp_4 => ?_)
    subst g_3
    refine w_iadd dX11_total_24 ?_
    refine w_istore_n [(3, .int (zI ((sm (coX c) i) + (coX c ((i : Nat) : Int))))), (0, .ref (B + 141)), (1, .int (zI ((k : Nat) : Int))), (2, .int (zI 1)), (4, .int (zI ((i : Nat) : Int)))] dX11_total_25 rfl (by decide) rfl ?_
    refine w_iinc 4 [(4, .int (zI (((i : Nat) : Int) + 1))), (3, .int (zI ((sm (coX c) i) + (coX c ((i : Nat) : Int))))), (0, .ref (B + 141)), (1, .int (zI ((k : Nat) : Int))), (2, .int (zI 1))] dX11_total_26 rfl (by decide) rfl ?_
    refine w_goto 5 dX11_total_29 (by decide) ?_
    refine w_sub [(0, .ref (B + 141)), (1, .int (zI ((k : Nat) : Int))), (2, .int (zI 1)), (3, .int (zI ((sm (coX c) i) + (coX c ((i : Nat) : Int))))), (4, .int (zI (((i : Nat) : Int) + 1)))] [2, 3, 4, 1, 0] rfl ?_
    refine w_lv (lv' := [(0, .ref (B + 141)), (1, .int (zI ((k : Nat) : Int))), (2, .int (zI 1)), (3, .int (zI (sm (coX c) (i + 1)))), (4, .int (zI (((i + 1) : Nat) : Int)))]) (lc_s (lc_s (lc_s (lc_i rfl (lc_i (by first | omega | with_reducible rfl) rfl))))) ?_
    exact ih_5 (i + 1) (by first | omega | with_reducible rfl) (by first | omega | with_reducible rfl)

set_option maxHeartbeats 4000000 in
set_option maxRecDepth 100000 in
theorem c_X11_setsOf {l : Launch} {D : va_G} {cy : Nat → ClassId} {B N : Nat} {g : Nat → va_E} {cg le sp va o0 tn aw mw fw ls gs sn sw kr : Int} {Nw Sv : Int → Int} {k : Nat} {c : List Co} {j x : Int} (hm : vM cy B g 141 cg le sp va o0 tn aw mw fw ls gs sn sw kr) (hnow : vIA cy B g 142 49 Nw) (hse : vLA cy B g 146 169 Sv) (hN : 160 ≤ N) (hmc : MC Nw k c) (hc : cok c) (hSv : SvOK Sv) (hj : 0 ≤ j ∧ j < c.length) (hx : 0 ≤ x ∧ x ≤ 12) : CTl l yX11_setsOf wsX11_setsOf (rmo 2 45) D cy B N g [.ref (B + 141), .int (zI ((k : Nat) : Int)), .int (zI j), .int (zI x)] ((ch (coT c j).toNat x.toNat : Nat) : Int) (fun g' => g' = g) := by
  refine WW_of (cc := cX11_setsOf) (maxL := 4) (ret := (some .long)) (own := RX11) (by decide) rfl rfl (Nat.le_of_ble_eq_true rfl) rfl ?_
  intro pp ee ss mm bl me co hmn
  refine w_aload_n dX11_setsOf_0 rfl 0 rfl ?_
  refine w_get (i := 6) (T := TX11) (NF := 32) 141 (by first | omega | with_reducible rfl) hm rfl (fun _ h => (List.mem_cons_of_mem _ (List.mem_append_right _ h))) (by decide) (List.mem_of_getElem? (i := 1) rfl) rfl dX11_setsOf_1 ?_
  refine w_bipush dX11_setsOf_4 (by decide) ?_
  refine w_aload_n dX11_setsOf_6 rfl 0 rfl ?_
  refine w_iload_n dX11_setsOf_7 rfl 1 rfl ?_
  refine w_iload_n dX11_setsOf_8 rfl 2 rfl ?_
  refine w_iconst dX11_setsOf_9 ?_
  refine w_calli (As := [.int (zI ((k : Nat) : Int)), .int (zI j), .int (zI 0)]) (rest := [.int (zI 13), .ref (B + 146)]) (n := 3) (c_X11_of0 (k := k) hm hnow (by first | omega | with_reducible rfl) (by first | omega | with_reducible rfl) (by first | omega | with_reducible rfl)) gX11_setsOf_X11_of rfl rfl rfl (by decide +kernel) ⟨Nat.le_of_ble_eq_true rfl, Nat.le_of_ble_eq_true rfl⟩ rfl (by first | omega | with_reducible rfl) hm rfl (Nat.le_of_ble_eq_true rfl) ⟨Nat.zero_le _, Nat.zero_le _⟩ dX11_setsOf_10 rfl (fun g_1 hp_2 => ?_)
  subst g_1
  have hcj := hc.2 j hj.1 hj.2
  refine w_imul dX11_setsOf_13 ?_
  refine w_iload_n dX11_setsOf_14 rfl 3 rfl ?_
  refine w_iadd dX11_setsOf_15 ?_
  refine w_lald 146 (by first | omega | with_reducible rfl) hse (by first | omega | with_reducible rfl) dX11_setsOf_16 ?_
  exact w_lret dX11_setsOf_17 rfl (by exact Sv_at hSv (by omega) hx) rfl

set_option maxHeartbeats 4000000 in
set_option maxRecDepth 100000 in
theorem c_X11_seenWays {l : Launch} {D : va_G} {cy : Nat → ClassId} {B N : Nat} {g : Nat → va_E} {cg le sp va o0 tn aw mw fw ls gs sn sw kr : Int} {Nw Sv : Int → Int} {k : Nat} {c : List Co} (hm : vM cy B g 141 cg le sp va o0 tn aw mw fw ls gs sn sw kr) (hnow : vIA cy B g 142 49 Nw) (hse : vLA cy B g 146 169 Sv) (hN : 160 ≤ N) (hmc : MC Nw k c) (hc : cok c) (hSv : SvOK Sv) : CTl l yX11_seenWays wsX11_seenWays (rmo 3 68) D cy B N g [.ref (B + 141), .int (zI ((k : Nat) : Int))] (coP c) (fun g' => g' = g) := by
  refine WW_of (cc := cX11_seenWays) (maxL := 5) (ret := (some .long)) (own := RX11) (by decide) rfl rfl (Nat.le_of_ble_eq_true rfl) rfl ?_
  intro pp ee ss mm bl me co hmn
  have hk3 := hmc.1
  refine w_lconst1 dX11_seenWays_0 ?_
  refine w_lstore_n [(2, .long (zJ 1)), (0, .ref (B + 141)), (1, .int (zI ((k : Nat) : Int)))] dX11_seenWays_1 rfl (by decide) rfl ?_
  refine w_iconst dX11_seenWays_2 ?_
  refine w_istore [(4, .int (zI 0)), (2, .long (zJ 1)), (0, .ref (B + 141)), (1, .int (zI ((k : Nat) : Int)))] dX11_seenWays_3 (by decide) rfl ?_
  refine w_sub [(0, .ref (B + 141)), (1, .int (zI ((k : Nat) : Int))), (2, .long (zJ 1)), (4, .int (zI 0))] [2, 3, 1, 0] rfl ?_
  refine w_lv (lv' := [(0, .ref (B + 141)), (1, .int (zI ((k : Nat) : Int))), (2, .long (zJ (pr (coW c) 0))), (4, .int (zI ((0 : Nat) : Int)))]) (lc_s (lc_s (lc_l rfl (lc_i (by first | omega | with_reducible rfl) rfl)))) ?_
  refine w_loop1 (fun (i : Nat) => i ≤ c.length) (fun (i : Nat) => c.length - i) (fun (i : Nat) => g) (fun (i : Nat) => [(0, .ref (B + 141)), (1, .int (zI ((k : Nat) : Int))), (2, .long (zJ (pr (coW c) i))), (4, .int (zI ((i : Nat) : Int)))]) ?_ 0 (by first | omega | with_reducible rfl)
  rintro i hi ih_5
  refine w_iload dX11_seenWays_5 3 rfl ?_
  refine w_aload_n dX11_seenWays_7 rfl 0 rfl ?_
  refine w_iload_n dX11_seenWays_8 rfl 1 rfl ?_
  refine w_calli (As := [.int (zI ((k : Nat) : Int))]) (rest := [.int (zI ((i : Nat) : Int))]) (n := 1) (c_X11_columns (k := k) hm hnow (by first | omega | with_reducible rfl) (by first | omega | with_reducible rfl)) gX11_seenWays_X11_columns rfl rfl rfl (by decide +kernel) ⟨Nat.le_of_ble_eq_true rfl, Nat.le_of_ble_eq_true rfl⟩ rfl (by first | omega | with_reducible rfl) hm rfl (Nat.le_of_ble_eq_true rfl) ⟨Nat.zero_le _, Nat.zero_le _⟩ dX11_seenWays_9 rfl (fun g_1 hp_2 => ?_)
  subst g_1
  refine w_icmp_ge 39 dX11_seenWays_12 (by decide) (by first | omega | with_reducible rfl) (by first | omega | with_reducible rfl) (fun c_12 => ?_) (fun c_12 => ?_)
  · refine w_lload_n dX11_seenWays_39 rfl 2 rfl ?_
    have hie : i = c.length := by omega
    exact w_lret dX11_seenWays_40 rfl (by rw [hie]; rfl) rfl
  · have hcj := hc.2 ((i : Nat) : Int) (by omega) (by omega)
    refine w_lload_n dX11_seenWays_15 rfl 2 rfl ?_
    refine w_aload_n dX11_seenWays_16 rfl 0 rfl ?_
    refine w_iload_n dX11_seenWays_17 rfl 1 rfl ?_
    refine w_iload dX11_seenWays_18 3 rfl ?_
    refine w_aload_n dX11_seenWays_20 rfl 0 rfl ?_
    refine w_iload_n dX11_seenWays_21 rfl 1 rfl ?_
    refine w_iload dX11_seenWays_22 3 rfl ?_
    refine w_iconst dX11_seenWays_24 ?_
    refine w_calli (As := [.int (zI ((k : Nat) : Int)), .int (zI ((i : Nat) : Int)), .int (zI 1)]) (rest := [.int (zI ((i : Nat) : Int)), .int (zI ((k : Nat) : Int)), .ref (B + 141), .long (zJ (pr (coW c) i))]) (n := 3) (c_X11_of1 (k := k) hm hnow (by first | omega | with_reducible rfl) (by first | omega | with_reducible rfl) (by first | omega | with_reducible rfl)) gX11_seenWays_X11_of rfl rfl rfl (by decide +kernel) ⟨Nat.le_of_ble_eq_true rfl, Nat.le_of_ble_eq_true rfl⟩ rfl (by first | omega | with_reducible rfl) hm rfl (Nat.le_of_ble_eq_true rfl) ⟨Nat.zero_le _, Nat.zero_le _⟩ dX11_seenWays_25 rfl (fun g_3 hp_4 => ?_)
    subst g_3
    refine w_calll (As := [.int (zI ((k : Nat) : Int)), .int (zI ((i : Nat) : Int)), .int (zI (coX c ((i : Nat) : Int)))]) (rest := [.long (zJ (pr (coW c) i))]) (n := 3) (c_X11_setsOf (k := k) hm hnow hse (by first | omega | with_reducible rfl) (by first | omega | with_reducible rfl) (by first | omega | with_reducible rfl) (by first | omega | with_reducible rfl) (by first | omega | with_reducible rfl) (by first | omega | with_reducible rfl)) gX11_seenWays_X11_setsOf rfl rfl rfl (by decide +kernel) ⟨Nat.le_of_ble_eq_true rfl, Nat.le_of_ble_eq_true rfl⟩ rfl (by first | omega | with_reducible rfl) hm rfl (Nat.le_of_ble_eq_true rfl) ⟨Nat.zero_le _, Nat.zero_le _⟩ dX11_seenWays_28 rfl (fun g_5 hp_6 => ?_)
    subst g_5
    refine w_lmul dX11_seenWays_31 ?_
    refine w_lstore_n [(2, .long (zJ ((pr (coW c) i) * ((ch (coT c ((i : Nat) : Int)).toNat (coX c ((i : Nat) : Int)).toNat : Nat) : Int)))), (0, .ref (B + 141)), (1, .int (zI ((k : Nat) : Int))), (4, .int (zI ((i : Nat) : Int)))] dX11_seenWays_32 rfl (by decide) rfl ?_
    refine w_iinc 3 [(4, .int (zI (((i : Nat) : Int) + 1))), (2, .long (zJ ((pr (coW c) i) * ((ch (coT c ((i : Nat) : Int)).toNat (coX c ((i : Nat) : Int)).toNat : Nat) : Int)))), (0, .ref (B + 141)), (1, .int (zI ((k : Nat) : Int)))] dX11_seenWays_33 rfl (by decide) rfl ?_
    refine w_goto 5 dX11_seenWays_36 (by decide) ?_
    refine w_sub [(0, .ref (B + 141)), (1, .int (zI ((k : Nat) : Int))), (2, .long (zJ ((pr (coW c) i) * ((ch (coT c ((i : Nat) : Int)).toNat (coX c ((i : Nat) : Int)).toNat : Nat) : Int)))), (4, .int (zI (((i : Nat) : Int) + 1)))] [2, 3, 1, 0] rfl ?_
    refine w_lv (lv' := [(0, .ref (B + 141)), (1, .int (zI ((k : Nat) : Int))), (2, .long (zJ (pr (coW c) (i + 1)))), (4, .int (zI (((i + 1) : Nat) : Int)))]) (lc_s (lc_s (lc_l rfl (lc_i (by first | omega | with_reducible rfl) rfl)))) ?_
    exact ih_5 (i + 1) (by first | omega | with_reducible rfl) (by first | omega | with_reducible rfl)

set_option maxHeartbeats 4000000 in
set_option maxRecDepth 100000 in
theorem c_X11_seenSum {l : Launch} {D : va_G} {cy : Nat → ClassId} {B N : Nat} {g : Nat → va_E} {cg le sp va o0 tn aw mw fw ls gs sn sw kr : Int} {Nw : Int → Int} {k : Nat} {c : List Co} (hm : vM cy B g 141 cg le sp va o0 tn aw mw fw ls gs sn sw kr) (hnow : vIA cy B g 142 49 Nw) (hN : 160 ≤ N) (hmc : MC Nw k c) : CTi l yX11_seenSum wsX11_seenSum (rmo 2 45) D cy B N g [.ref (B + 141), .int (zI ((k : Nat) : Int))] (coS c) (fun g' => g' = g) := by
  refine WW_of (cc := cX11_seenSum) (maxL := 4) (ret := (some .int)) (own := RX11) (by decide) rfl rfl (Nat.le_of_ble_eq_true rfl) rfl ?_
  intro pp ee ss mm bl me co hmn
  have hk3 := hmc.1
  refine w_iconst dX11_seenSum_0 ?_
  refine w_istore_n [(2, .int (zI 0)), (0, .ref (B + 141)), (1, .int (zI ((k : Nat) : Int)))] dX11_seenSum_1 rfl (by decide) rfl ?_
  refine w_iconst dX11_seenSum_2 ?_
  refine w_istore_n [(3, .int (zI 0)), (2, .int (zI 0)), (0, .ref (B + 141)), (1, .int (zI ((k : Nat) : Int)))] dX11_seenSum_3 rfl (by decide) rfl ?_
  refine w_sub [(0, .ref (B + 141)), (1, .int (zI ((k : Nat) : Int))), (2, .int (zI 0)), (3, .int (zI 0))] [2, 3, 1, 0] rfl ?_
  refine w_lv (lv' := [(0, .ref (B + 141)), (1, .int (zI ((k : Nat) : Int))), (2, .int (zI (sm (xv (coX c) (coV c)) 0))), (3, .int (zI ((0 : Nat) : Int)))]) (lc_s (lc_s (lc_i rfl (lc_i (by first | omega | with_reducible rfl) rfl)))) ?_
  refine w_loop1 (fun (i : Nat) => i ≤ c.length) (fun (i : Nat) => c.length - i) (fun (i : Nat) => g) (fun (i : Nat) => [(0, .ref (B + 141)), (1, .int (zI ((k : Nat) : Int))), (2, .int (zI (sm (xv (coX c) (coV c)) i))), (3, .int (zI ((i : Nat) : Int)))]) ?_ 0 (by first | omega | with_reducible rfl)
  rintro i hi ih_4
  refine w_iload_n dX11_seenSum_4 rfl 3 rfl ?_
  refine w_aload_n dX11_seenSum_5 rfl 0 rfl ?_
  refine w_iload_n dX11_seenSum_6 rfl 1 rfl ?_
  refine w_calli (As := [.int (zI ((k : Nat) : Int))]) (rest := [.int (zI ((i : Nat) : Int))]) (n := 1) (c_X11_columns (k := k) hm hnow (by first | omega | with_reducible rfl) (by first | omega | with_reducible rfl)) gX11_seenSum_X11_columns rfl rfl rfl (by decide +kernel) ⟨Nat.le_of_ble_eq_true rfl, Nat.le_of_ble_eq_true rfl⟩ rfl (by first | omega | with_reducible rfl) hm rfl (Nat.le_of_ble_eq_true rfl) ⟨Nat.zero_le _, Nat.zero_le _⟩ dX11_seenSum_7 rfl (fun g_1 hp_2 => ?_)
  subst g_1
  refine w_icmp_ge 37 dX11_seenSum_10 (by decide) (by first | omega | with_reducible rfl) (by first | omega | with_reducible rfl) (fun c_10 => ?_) (fun c_10 => ?_)
  · refine w_iload_n dX11_seenSum_37 rfl 2 rfl ?_
    have hie : i = c.length := by omega
    exact w_iret dX11_seenSum_38 rfl (by rw [hie]; rfl) rfl
  · refine w_iload_n dX11_seenSum_13 rfl 2 rfl ?_
    refine w_aload_n dX11_seenSum_14 rfl 0 rfl ?_
    refine w_iload_n dX11_seenSum_15 rfl 1 rfl ?_
    refine w_iload_n dX11_seenSum_16 rfl 3 rfl ?_
    refine w_iconst dX11_seenSum_17 ?_
    refine w_calli (As := [.int (zI ((k : Nat) : Int)), .int (zI ((i : Nat) : Int)), .int (zI 1)]) (rest := [.int (zI (sm (xv (coX c) (coV c)) i))]) (n := 3) (c_X11_of1 (k := k) hm hnow (by first | omega | with_reducible rfl) (by first | omega | with_reducible rfl) (by first | omega | with_reducible rfl)) gX11_seenSum_X11_of rfl rfl rfl (by decide +kernel) ⟨Nat.le_of_ble_eq_true rfl, Nat.le_of_ble_eq_true rfl⟩ rfl (by first | omega | with_reducible rfl) hm rfl (Nat.le_of_ble_eq_true rfl) ⟨Nat.zero_le _, Nat.zero_le _⟩ dX11_seenSum_18 rfl (fun g_3 hp_4 => ?_)
    subst g_3
    refine w_aload_n dX11_seenSum_21 rfl 0 rfl ?_
    refine w_iload_n dX11_seenSum_22 rfl 1 rfl ?_
    refine w_iload_n dX11_seenSum_23 rfl 3 rfl ?_
    refine w_iconst dX11_seenSum_24 ?_
    refine w_calli (As := [.int (zI ((k : Nat) : Int)), .int (zI ((i : Nat) : Int)), .int (zI 2)]) (rest := [.int (zI (coX c ((i : Nat) : Int))), .int (zI (sm (xv (coX c) (coV c)) i))]) (n := 3) (c_X11_of2 (k := k) hm hnow (by first | omega | with_reducible rfl) (by first | omega | with_reducible rfl) (by first | omega | with_reducible rfl)) gX11_seenSum_X11_of rfl rfl rfl (by decide +kernel) ⟨Nat.le_of_ble_eq_true rfl, Nat.le_of_ble_eq_true rfl⟩ rfl (by first | omega | with_reducible rfl) hm rfl (Nat.le_of_ble_eq_true rfl) ⟨Nat.zero_le _, Nat.zero_le _⟩ dX11_seenSum_25 rfl (fun g_5 hp_6 => ?_)
    subst g_5
    refine w_imul dX11_seenSum_28 ?_
    refine w_iadd dX11_seenSum_29 ?_
    refine w_istore_n [(2, .int (zI ((sm (xv (coX c) (coV c)) i) + ((coX c ((i : Nat) : Int)) * (coV c ((i : Nat) : Int)))))), (0, .ref (B + 141)), (1, .int (zI ((k : Nat) : Int))), (3, .int (zI ((i : Nat) : Int)))] dX11_seenSum_30 rfl (by decide) rfl ?_
    refine w_iinc 3 [(3, .int (zI (((i : Nat) : Int) + 1))), (2, .int (zI ((sm (xv (coX c) (coV c)) i) + ((coX c ((i : Nat) : Int)) * (coV c ((i : Nat) : Int)))))), (0, .ref (B + 141)), (1, .int (zI ((k : Nat) : Int)))] dX11_seenSum_31 rfl (by decide) rfl ?_
    refine w_goto 4 dX11_seenSum_34 (by decide) ?_
    refine w_sub [(0, .ref (B + 141)), (1, .int (zI ((k : Nat) : Int))), (2, .int (zI ((sm (xv (coX c) (coV c)) i) + ((coX c ((i : Nat) : Int)) * (coV c ((i : Nat) : Int)))))), (3, .int (zI (((i : Nat) : Int) + 1)))] [2, 3, 1, 0] rfl ?_
    refine w_lv (lv' := [(0, .ref (B + 141)), (1, .int (zI ((k : Nat) : Int))), (2, .int (zI (sm (xv (coX c) (coV c)) (i + 1)))), (3, .int (zI (((i + 1) : Nat) : Int)))]) (lc_s (lc_s (lc_i rfl (lc_i (by first | omega | with_reducible rfl) rfl)))) ?_
    exact ih_4 (i + 1) (by first | omega | with_reducible rfl) (by first | omega | with_reducible rfl)

set_option maxHeartbeats 4000000 in
set_option maxRecDepth 100000 in
theorem c_X11_isStratum {l : Launch} {D : va_G} {cy : Nat → ClassId} {B N : Nat} {g : Nat → va_E} {cg le sp va o0 tn aw mw fw ls gs sn sw kr : Int} {Nw : Int → Int} {S : St} {s : Int} (hm : vM cy B g 141 cg le sp va o0 tn aw mw fw ls gs sn sw kr) (hnow : vIA cy B g 142 49 Nw) (hN : 160 ≤ N) (hER : ER Nw S) (h_s : -2147483648 ≤ s ∧ s < 2147483648) : CTi l yX11_isStratum wsX11_isStratum (rmo 1 22) D cy B N g [.ref (B + 141), .int (zI s)] (if 0 ≤ s ∧ s < S.length then 1 else 0) (fun g' => g' = g) := by
  refine WW_of (cc := cX11_isStratum) (maxL := 2) (ret := (some .boolean)) (own := RX11) (by decide) rfl rfl (Nat.le_of_ble_eq_true rfl) rfl ?_
  intro pp ee ss mm bl me co hmn
  refine w_iload_n dX11_isStratum_0 rfl 1 rfl ?_
  refine w_iconst dX11_isStratum_1 ?_
  refine w_aload_n dX11_isStratum_2 rfl 0 rfl ?_
  refine w_get (i := 0) (T := TX11) (NF := 32) 141 (by first | omega | with_reducible rfl) hm rfl (fun _ h => (List.mem_cons_of_mem _ (List.mem_append_right _ h))) (by decide) (List.mem_of_getElem? (i := 1) rfl) rfl dX11_isStratum_3 ?_
  refine w_iconst dX11_isStratum_6 ?_
  refine w_iald 142 (by first | omega | with_reducible rfl) hnow (by first | omega | with_reducible rfl) dX11_isStratum_7 ?_
  have hS3 := hER.1
  refine w_as (st' := [.int (zI ((S.length : Nat) : Int)), .int (zI 0), .int (zI s)]) (sc_i hER.1.1 rfl) ?_
  refine w_iconst dX11_isStratum_8 ?_
  refine w_isub dX11_isStratum_9 ?_
  refine w_calliS (As := [.int (zI s), .int (zI 0), .int (zI (((S.length : Nat) : Int) - 1))]) (rest := []) (n := 3) (c_X11_in (by first | omega | with_reducible rfl) (by first | omega | with_reducible rfl) (by first | omega | with_reducible rfl)) gX11_isStratum_X11_in rfl rfl rfl (by decide +kernel) ⟨Nat.le_of_ble_eq_true rfl, Nat.le_of_ble_eq_true rfl⟩ rfl (Nat.le_of_ble_eq_true rfl) ⟨Nat.zero_le _, Nat.zero_le _⟩ dX11_isStratum_10 rfl (fun g_1 hp_2 => ?_)
  subst g_1
  exact w_zret dX11_isStratum_13 rfl (by split <;> rfl) (by exact ite_congr (propext ⟨fun h => by omega, fun h => by omega⟩) (fun _ => rfl) (fun _ => rfl)) rfl

set_option maxHeartbeats 4000000 in
set_option maxRecDepth 100000 in
theorem c_X11_isColumn {l : Launch} {D : va_G} {cy : Nat → ClassId} {B N : Nat} {g : Nat → va_E} {cg le sp va o0 tn aw mw fw ls gs sn sw kr : Int} {Nw : Int → Int} {S : St} {s j : Int} (hm : vM cy B g 141 cg le sp va o0 tn aw mw fw ls gs sn sw kr) (hnow : vIA cy B g 142 49 Nw) (hN : 160 ≤ N) (hER : ER Nw S) (h_s : -2147483648 ≤ s ∧ s < 2147483648) (h_j : -2147483648 ≤ j ∧ j < 2147483648) : CTi l yX11_isColumn wsX11_isColumn (rmo 2 43) D cy B N g [.ref (B + 141), .int (zI s), .int (zI j)] (if (0 ≤ s ∧ s < S.length) ∧ 0 ≤ j ∧ j < (S.getD s.toNat []).length then 1 else 0) (fun g' => g' = g) := by
  refine WW_of (cc := cX11_isColumn) (maxL := 3) (ret := (some .boolean)) (own := RX11) (by decide) rfl rfl (Nat.le_of_ble_eq_true rfl) rfl ?_
  intro pp ee ss mm bl me co hmn
  refine w_aload_n dX11_isColumn_0 rfl 0 rfl ?_
  refine w_iload_n dX11_isColumn_1 rfl 1 rfl ?_
  refine w_calli (As := [.int (zI s)]) (rest := []) (n := 1) (c_X11_isStratum hm hnow (by first | omega | with_reducible rfl) (by first | omega | with_reducible rfl) (by first | omega | with_reducible rfl)) gX11_isColumn_X11_isStratum rfl rfl rfl (by decide +kernel) ⟨Nat.le_of_ble_eq_true rfl, Nat.le_of_ble_eq_true rfl⟩ rfl (by first | omega | with_reducible rfl) hm rfl (Nat.le_of_ble_eq_true rfl) ⟨Nat.zero_le _, Nat.zero_le _⟩ dX11_isColumn_2 rfl (fun g_1 hp_2 => ?_)
  subst g_1
  refine w_ifeqB 27 dX11_isColumn_5 (by decide) (fun c_5 => ?_) (fun c_5 => ?_)
  · refine w_iconst dX11_isColumn_27 ?_
    exact w_zret dX11_isColumn_28 rfl rfl (by first | rw [if_pos (by omega)] | rw [if_neg (by omega)]) rfl
  · have hMC := hER.2 s.toNat (by omega)
    have hM1 := hMC.1
    refine w_iload_n dX11_isColumn_8 rfl 2 rfl ?_
    refine w_iconst dX11_isColumn_9 ?_
    refine w_aload_n dX11_isColumn_10 rfl 0 rfl ?_
    refine w_iload_n dX11_isColumn_11 rfl 1 rfl ?_
    refine w_as (st' := [.int (zI ((s.toNat : Nat) : Int)), .ref (B + 141), .int (zI 0), .int (zI j)]) (sc_i (by omega) rfl) ?_
    refine w_calli (As := [.int (zI ((s.toNat : Nat) : Int))]) (rest := [.int (zI 0), .int (zI j)]) (n := 1) (c_X11_columns (k := s.toNat) hm hnow (by first | omega | with_reducible rfl) hMC) gX11_isColumn_X11_columns rfl rfl rfl (by decide +kernel) ⟨Nat.le_of_ble_eq_true rfl, Nat.le_of_ble_eq_true rfl⟩ rfl (by first | omega | with_reducible rfl) hm rfl (Nat.le_of_ble_eq_true rfl) ⟨Nat.zero_le _, Nat.zero_le _⟩ dX11_isColumn_12 rfl (fun g_3 hp_4 => ?_)
    subst g_3
    refine w_iconst dX11_isColumn_15 ?_
    refine w_isub dX11_isColumn_16 ?_
    refine w_calliS (As := [.int (zI j), .int (zI 0), .int (zI ((((S.getD s.toNat []).length : Nat) : Int) - 1))]) (rest := []) (n := 3) (c_X11_in (by first | omega | with_reducible rfl) (by first | omega | with_reducible rfl) (by first | omega | with_reducible rfl)) gX11_isColumn_X11_in rfl rfl rfl (by decide +kernel) ⟨Nat.le_of_ble_eq_true rfl, Nat.le_of_ble_eq_true rfl⟩ rfl (Nat.le_of_ble_eq_true rfl) ⟨Nat.zero_le _, Nat.zero_le _⟩ dX11_isColumn_17 rfl (fun g_5 hp_6 => ?_)
    subst g_5
    refine w_ifeqB 27 dX11_isColumn_20 (by decide) (fun c_20 => ?_) (fun c_20 => ?_)
    · refine w_iconst dX11_isColumn_27 ?_
      exact w_zret dX11_isColumn_28 rfl rfl (by first | rw [if_pos (by omega)] | rw [if_neg (by omega)]) rfl
    · refine w_iconst dX11_isColumn_23 ?_
      refine w_goto 28 dX11_isColumn_24 (by decide) ?_
      exact w_zret dX11_isColumn_28 rfl rfl (by first | rw [if_pos (by omega)] | rw [if_neg (by omega)]) rfl

