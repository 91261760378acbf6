/-! ===== the model: its nets walked ===== -/
/-- ahead: rows up to j stand; of row j+1 what came from the cells before a, and from a by numbers before x; nothing behind -/
def aJR (c : List Co) (G : Int → Int) (j a x : Nat) : Prop := (∀ i : Nat, i ≤ j → ∀ y : Nat, y ≤ 60 → G (61 * ((i : Nat) : Int) + ((y : Nat) : Int)) = ah (clR (coT c) (coV c) i) y) ∧ (j < c.length → ∀ y : Nat, y ≤ 60 → G (61 * (((j + 1) : Nat) : Int) + ((y : Nat) : Int)) = paJ c j a y + (if a ≤ y ∧ y < a + x then ah (clR (coT c) (coV c) j) a * ((ch (coT c ((j : Nat) : Int)).toNat (y - a) : Nat) : Int) else 0)) ∧ (∀ i : Nat, j + 2 ≤ i → i ≤ c.length → ∀ y : Nat, y ≤ 60 → G (61 * ((i : Nat) : Int) + ((y : Nat) : Int)) = 0)
theorem aJR_0 {c : List Co} {G : Int → Int} (h : ∀ y : Int, 0 ≤ y → y < 366 → G y = if y = 0 then 1 else 0) (hn : c.length ≤ 5 := by omega) : aJR c G 0 0 0 := by
  refine ⟨fun i hi y hy => ?_, fun hj y hy => ?_, fun i h1 h2 y hy => ?_⟩
  · rw [h _ (by omega) (by omega), show i = 0 by omega, clR, ah]
    by_cases q : y = 0
    · rw [if_pos (by omega), if_pos q]
    · rw [if_neg (by omega), if_neg q]
  · rw [h _ (by omega) (by omega), if_neg (by omega), if_neg (by omega)]
    rfl
  · rw [h _ (by omega) (by omega), if_neg (by omega)]
theorem aJR_rd {c : List Co} {G : Int → Int} {j a x : Nat} (h : aJR c G j a x) (ha : a ≤ 60) (_ : j ≤ c.length) : G (61 * ((j : Nat) : Int) + ((a : Nat) : Int)) = ah (clR (coT c) (coV c) j) a := h.1 j (Nat.le_refl _) a ha
theorem aJR_x {c : List Co} (hc : cok c) {G : Int → Int} {j a x : Nat} (hj : j < c.length) (hax : a + x ≤ 60) (hx : x ≤ (coT c ((j : Nat) : Int)).toNat) (h : aJR c G j a x) : aJR c (uZ G (61 * (((j + 1) : Nat) : Int) + (((a + x) : Nat) : Int)) (G (61 * (((j + 1) : Nat) : Int) + (((a + x) : Nat) : Int)) + ah (clR (coT c) (coV c) j) a * ((ch (coT c ((j : Nat) : Int)).toNat x : Nat) : Int))) j a (x + 1) := by
  refine ⟨fun i hi y hy => by rw [uZ_ne (by omega)]; exact h.1 i hi y hy, fun _ y hy => ?_, fun i h1 h2 y hy => by rw [uZ_ne (by omega)]; exact h.2.2 i h1 h2 y hy⟩
  have h1 := h.2.1 hj y hy
  by_cases q : y = a + x
  · subst q
    rw [uZ_same, h1, if_neg (by omega), if_pos (by omega), show a + x - a = x by omega]
    omega
  · rw [uZ_ne (by omega), h1]
    by_cases q2 : a ≤ y ∧ y < a + x
    · rw [if_pos q2, if_pos (by omega)]
    · rw [if_neg q2, if_neg (by omega)]
/-- a cell of row j gone through: all its numbers, or it is 0 -/
theorem aJR_a {c : List Co} (hc : cok c) {G : Int → Int} {j a x : Nat} (hj : j < c.length) (ha : a ≤ 60) (h : aJR c G j a x) (hx : x = (coT c ((j : Nat) : Int)).toNat + 1 ∨ (ah (clR (coT c) (coV c) j) a ≤ 0)) : aJR c G j (a + 1) 0 := by
  refine ⟨h.1, fun _ y hy => ?_, h.2.2⟩
  have h1 := h.2.1 hj y hy
  have h0 := (ah_rg (cs := clR (coT c) (coV c) j) (a := a)).1
  rw [h1, if_neg (show ¬ (a + 1 ≤ y ∧ y < a + 1 + 0) by omega), Int.add_zero]
  show _ = srN _ 0 (a + 1)
  rw [srN, Nat.zero_add]
  show paJ c j a y + _ = paJ c j a y + _
  congr 1
  show (if a ≤ y ∧ y < a + x then _ else _) = (if a ≤ y ∧ y - a ≤ _ then _ else _)
  rcases hx with hx | hx
  · by_cases q : a ≤ y ∧ y - a ≤ (coT c ((j : Nat) : Int)).toNat
    · rw [if_pos (by omega), if_pos q]
    · rw [if_neg (by omega), if_neg q]
  · have hz : ah (clR (coT c) (coV c) j) a = 0 := by omega
    rw [hz]
    simp
theorem aJR_row {c : List Co} (hc : cok c) {G : Int → Int} {j : Nat} (hj : j < c.length) (h : aJR c G j 61 0) : aJR c G (j + 1) 0 0 := by
  refine ⟨fun i hi y hy => ?_, fun hj2 y hy => ?_, fun i h1 h2 y hy => h.2.2 i (by omega) h2 y hy⟩
  · by_cases q : i = j + 1
    · subst q
      rw [h.2.1 hj y hy, if_neg (by omega), Int.add_zero, paJ_all hy]
    · exact h.1 i (by omega) y hy
  · rw [h.2.2 (j + 1 + 1) (by omega) (by omega) y hy, if_neg (by omega)]
    rfl
theorem ah_le : ∀ {cs : List (Nat × Nat)} {a : Nat}, ah cs a ≤ 2 ^ tsum cs
  | [], a => by
    rw [ah, tsum]
    split <;> decide
  | c :: cs, a => by
    rw [ah, tsum, Int.pow_add]
    have hp : (0 : Int) ≤ 2 ^ tsum cs := Int.le_of_lt (Int.pow_pos (by omega))
    have h1 : srN (fun x => (ch c.1 x : Int) * (if x ≤ a then ah cs (a - x) else 0)) 0 (c.1 + 1) ≤ srN (fun x => (ch c.1 x : Int)) 0 (c.1 + 1) * 2 ^ tsum cs := srN_le_mul (fun i _ => by
      refine Int.mul_le_mul_of_nonneg_left ?_ (by omega)
      split
      · exact ah_le
      · exact hp)
    exact Int.le_trans h1 (Int.mul_le_mul_of_nonneg_right (sum_ch _ _) hp)
theorem ah_60 {c : List Co} (hc : cok c) {j a : Nat} (hj : j ≤ c.length) : ah (clR (coT c) (coV c) j) a ≤ 1152921504606846976 := by
  have h1 := ah_le (cs := clR (coT c) (coV c) j) (a := a)
  have h2 := ts_R (coT c) (coV c) j
  have h3 := okT_ts (co_okT hc) (m := j) (j := 0) (by omega)
  have h4 := hc.1
  have h5 := pow_60 (k := tsum (clR (coT c) (coV c) j)) (by omega)
  omega
theorem ah_small {c : List Co} (hc : cok c) {j a : Nat} (hj : j < c.length) (h : a ≤ tsum (clR (coT c) (coV c) j)) : a ≤ 12 * j ∧ j ≤ 4 := by
  have h2 := ts_R (coT c) (coV c) j
  have h3 := okT_ts (co_okT hc) (m := j) (j := 0) (by omega)
  have h4 := hc.1
  omega
set_option maxHeartbeats 4000000 in
set_option maxRecDepth 100000 in
theorem c_X11_laysOne {l : Launch} {D : va_G} {cy : Nat → ClassId} {B N : Nat} {g : Nat → va_E} {cg le sp va o0 tn aw mw fw ls gs sn sw kr : Int} {Nw Sv : Int → Int} {Be Lo Sh Ro : Int → Int} {k : Nat} {c : List Co} {j a : Nat} (hm : vM cy B g 141 cg le sp va o0 tn aw mw fw ls gs sn sw kr) (hnow : vIA cy B g 142 49 Nw) (hse : vLA cy B g 146 169 Sv) (hbe : vLA cy B g 153 366 Be) (hlo : vLA cy B g 154 366 Lo) (hsh : vLA cy B g 155 366 Sh) (hro : vIA cy B g 156 366 Ro) (hN : 160 ≤ N) (hmc : MC Nw k c) (hc : cok c) (hSv : SvOK Sv) (hj : j < c.length) (ha : a ≤ 60) (hrow : ∀ y : Nat, y ≤ 60 → Be (61 * (((j + 1) : Nat) : Int) + ((y : Nat) : Int)) = MB c 1 (j + 1) y ∧ Lo (61 * (((j + 1) : Nat) : Int) + ((y : Nat) : Int)) = MB c 2 (j + 1) y ∧ Sh (61 * (((j + 1) : Nat) : Int) + ((y : Nat) : Int)) = MB c 3 (j + 1) y ∧ Ro (61 * (((j + 1) : Nat) : Int) + ((y : Nat) : Int)) = MB c 4 (j + 1) y) : CTv l yX11_laysOne wsX11_laysOne (rmo 3 68) D cy B N g [.ref (B + 141), .int (zI ((k : Nat) : Int)), .int (zI ((j : Nat) : Int)), .int (zI ((a : Nat) : Int))] (fun g' => vLA cy B g' 153 366 (uZ Be (61 * ((j : Nat) : Int) + ((a : Nat) : Int)) (MB c 1 j a)) ∧ vLA cy B g' 154 366 (uZ Lo (61 * ((j : Nat) : Int) + ((a : Nat) : Int)) (MB c 2 j a)) ∧ vLA cy B g' 155 366 (uZ Sh (61 * ((j : Nat) : Int) + ((a : Nat) : Int)) (MB c 3 j a)) ∧ vIA cy B g' 156 366 (uZ Ro (61 * ((j : Nat) : Int) + ((a : Nat) : Int)) (MB c 4 j a)) ∧ (∀ q, (q ≠ 153 ∧ q ≠ 154 ∧ q ≠ 155 ∧ q ≠ 156) → g' q = g q)) := by
  refine WW_of (cc := cX11_laysOne) (maxL := 9) (ret := none) (own := RX11) (by decide) rfl rfl (Nat.le_of_ble_eq_true rfl) rfl ?_
  intro pp ee ss mm bl me co hmn
  have hfr_0 : ∀ q, (q ≠ 153 ∧ q ≠ 154 ∧ q ≠ 155 ∧ q ≠ 156) → g q = g q := fun _ _ => rfl
  have hk3 := hmc.1
  have hcj := hc.2 ((j : Nat) : Int) (by omega) (by omega)
  have htn : (((coT c ((j : Nat) : Int)).toNat : Nat) : Int) = coT c ((j : Nat) : Int) := by omega
  refine w_bipush dX11_laysOne_0 (by decide) ?_
  refine w_iload_n dX11_laysOne_2 rfl 2 rfl ?_
  refine w_imul dX11_laysOne_3 ?_
  refine w_iload_n dX11_laysOne_4 rfl 3 rfl ?_
  refine w_iadd dX11_laysOne_5 ?_
  refine w_istore [(4, .int (zI ((61 * ((j : Nat) : Int)) + ((a : Nat) : Int)))), (0, .ref (B + 141)), (1, .int (zI ((k : Nat) : Int))), (2, .int (zI ((j : Nat) : Int))), (3, .int (zI ((a : Nat) : Int)))] dX11_laysOne_6 (by decide) rfl ?_
  refine w_aload_n dX11_laysOne_8 rfl 1 rfl ?_
  refine w_get (i := 25) (T := TX11) (NF := 32) 141 (by first | omega | with_reducible rfl) hm rfl (fun _ h => (List.mem_cons_of_mem _ (List.mem_append_right _ h))) (by decide) (List.mem_of_getElem? (i := 1) rfl) rfl dX11_laysOne_9 ?_
  refine w_iload dX11_laysOne_12 0 rfl ?_
  refine w_lconst0 dX11_laysOne_14 ?_
  refine w_last 153 (by first | omega | with_reducible rfl) hbe (by first | omega | with_reducible rfl) dX11_laysOne_15 (fun g_1 he_2 hn_3 => ?_)
  have hm_4 : vM cy B g_1 141 cg le sp va o0 tn aw mw fw ls gs sn sw kr := vM_fr hm (fun q h1 h2 => hn_3 q (by omega))
  have hnow_5 : vIA cy B g_1 142 49 Nw := vIA_fr hnow (fun q h1 h2 => hn_3 q (by omega))
  have hse_6 : vLA cy B g_1 146 169 Sv := vLA_fr hse (fun q h1 h2 => hn_3 q (by omega))
  have hbe_7 : vLA cy B g_1 153 366 (uZ Be ((61 * ((j : Nat) : Int)) + ((a : Nat) : Int)) 0) := he_2
  have hlo_8 : vLA cy B g_1 154 366 Lo := vLA_fr hlo (fun q h1 h2 => hn_3 q (by omega))
  have hsh_9 : vLA cy B g_1 155 366 Sh := vLA_fr hsh (fun q h1 h2 => hn_3 q (by omega))
  have hro_10 : vIA cy B g_1 156 366 Ro := vIA_fr hro (fun q h1 h2 => hn_3 q (by omega))
  have hfr_11 : ∀ q, (q ≠ 153 ∧ q ≠ 154 ∧ q ≠ 155 ∧ q ≠ 156) → g_1 q = g q := fun q hq => (hn_3 q (by omega)).trans (hfr_0 q hq)
  refine w_aload_n dX11_laysOne_16 rfl 1 rfl ?_
  refine w_get (i := 26) (T := TX11) (NF := 32) 141 (by first | omega | with_reducible rfl) hm_4 rfl (fun _ h => (List.mem_cons_of_mem _ (List.mem_append_right _ h))) (by decide) (List.mem_of_getElem? (i := 2) rfl) rfl dX11_laysOne_17 ?_
  refine w_iload dX11_laysOne_20 0 rfl ?_
  refine w_lconst0 dX11_laysOne_22 ?_
  refine w_last 154 (by first | omega | with_reducible rfl) hlo_8 (by first | omega | with_reducible rfl) dX11_laysOne_23 (fun g_12 he_13 hn_14 => ?_)
  have hm_15 : vM cy B g_12 141 cg le sp va o0 tn aw mw fw ls gs sn sw kr := vM_fr hm_4 (fun q h1 h2 => hn_14 q (by omega))
  have hnow_16 : vIA cy B g_12 142 49 Nw := vIA_fr hnow_5 (fun q h1 h2 => hn_14 q (by omega))
  have hse_17 : vLA cy B g_12 146 169 Sv := vLA_fr hse_6 (fun q h1 h2 => hn_14 q (by omega))
  have hbe_18 : vLA cy B g_12 153 366 (uZ Be ((61 * ((j : Nat) : Int)) + ((a : Nat) : Int)) 0) := vLA_fr hbe_7 (fun q h1 h2 => hn_14 q (by omega))
  have hlo_19 : vLA cy B g_12 154 366 (uZ Lo ((61 * ((j : Nat) : Int)) + ((a : Nat) : Int)) 0) := he_13
  have hsh_20 : vLA cy B g_12 155 366 Sh := vLA_fr hsh_9 (fun q h1 h2 => hn_14 q (by omega))
  have hro_21 : vIA cy B g_12 156 366 Ro := vIA_fr hro_10 (fun q h1 h2 => hn_14 q (by omega))
  have hfr_22 : ∀ q, (q ≠ 153 ∧ q ≠ 154 ∧ q ≠ 155 ∧ q ≠ 156) → g_12 q = g q := fun q hq => (hn_14 q (by omega)).trans (hfr_11 q hq)
  refine w_aload_n dX11_laysOne_24 rfl 1 rfl ?_
  refine w_get (i := 27) (T := TX11) (NF := 32) 141 (by first | omega | with_reducible rfl) hm_15 rfl (fun _ h => (List.mem_cons_of_mem _ (List.mem_append_right _ h))) (by decide) (List.mem_of_getElem? (i := 3) rfl) rfl dX11_laysOne_25 ?_
  refine w_iload dX11_laysOne_28 0 rfl ?_
  refine w_lconst0 dX11_laysOne_30 ?_
  refine w_last 155 (by first | omega | with_reducible rfl) hsh_20 (by first | omega | with_reducible rfl) dX11_laysOne_31 (fun g_23 he_24 hn_25 => ?_)
  have hm_26 : vM cy B g_23 141 cg le sp va o0 tn aw mw fw ls gs sn sw kr := vM_fr hm_15 (fun q h1 h2 => hn_25 q (by omega))
  have hnow_27 : vIA cy B g_23 142 49 Nw := vIA_fr hnow_16 (fun q h1 h2 => hn_25 q (by omega))
  have hse_28 : vLA cy B g_23 146 169 Sv := vLA_fr hse_17 (fun q h1 h2 => hn_25 q (by omega))
  have hbe_29 : vLA cy B g_23 153 366 (uZ Be ((61 * ((j : Nat) : Int)) + ((a : Nat) : Int)) 0) := vLA_fr hbe_18 (fun q h1 h2 => hn_25 q (by omega))
  have hlo_30 : vLA cy B g_23 154 366 (uZ Lo ((61 * ((j : Nat) : Int)) + ((a : Nat) : Int)) 0) := vLA_fr hlo_19 (fun q h1 h2 => hn_25 q (by omega))
  have hsh_31 : vLA cy B g_23 155 366 (uZ Sh ((61 * ((j : Nat) : Int)) + ((a : Nat) : Int)) 0) := he_24
  have hro_32 : vIA cy B g_23 156 366 Ro := vIA_fr hro_21 (fun q h1 h2 => hn_25 q (by omega))
  have hfr_33 : ∀ q, (q ≠ 153 ∧ q ≠ 154 ∧ q ≠ 155 ∧ q ≠ 156) → g_23 q = g q := fun q hq => (hn_25 q (by omega)).trans (hfr_22 q hq)
  refine w_aload_n dX11_laysOne_32 rfl 1 rfl ?_
  refine w_get (i := 28) (T := TX11) (NF := 32) 141 (by first | omega | with_reducible rfl) hm_26 rfl (fun _ h => (List.mem_cons_of_mem _ (List.mem_append_right _ h))) (by decide) (List.mem_of_getElem? (i := 4) rfl) rfl dX11_laysOne_33 ?_
  refine w_iload dX11_laysOne_36 0 rfl ?_
  refine w_iconst dX11_laysOne_38 ?_
  refine w_iast 156 (by first | omega | with_reducible rfl) hro_32 (by first | omega | with_reducible rfl) dX11_laysOne_39 (fun g_34 he_35 hn_36 => ?_)
  have hm_37 : vM cy B g_34 141 cg le sp va o0 tn aw mw fw ls gs sn sw kr := vM_fr hm_26 (fun q h1 h2 => hn_36 q (by omega))
  have hnow_38 : vIA cy B g_34 142 49 Nw := vIA_fr hnow_27 (fun q h1 h2 => hn_36 q (by omega))
  have hse_39 : vLA cy B g_34 146 169 Sv := vLA_fr hse_28 (fun q h1 h2 => hn_36 q (by omega))
  have hbe_40 : vLA cy B g_34 153 366 (uZ Be ((61 * ((j : Nat) : Int)) + ((a : Nat) : Int)) 0) := vLA_fr hbe_29 (fun q h1 h2 => hn_36 q (by omega))
  have hlo_41 : vLA cy B g_34 154 366 (uZ Lo ((61 * ((j : Nat) : Int)) + ((a : Nat) : Int)) 0) := vLA_fr hlo_30 (fun q h1 h2 => hn_36 q (by omega))
  have hsh_42 : vLA cy B g_34 155 366 (uZ Sh ((61 * ((j : Nat) : Int)) + ((a : Nat) : Int)) 0) := vLA_fr hsh_31 (fun q h1 h2 => hn_36 q (by omega))
  have hro_43 : vIA cy B g_34 156 366 (uZ Ro ((61 * ((j : Nat) : Int)) + ((a : Nat) : Int)) 0) := he_35
  have hfr_44 : ∀ q, (q ≠ 153 ∧ q ≠ 154 ∧ q ≠ 155 ∧ q ≠ 156) → g_34 q = g q := fun q hq => (hn_36 q (by omega)).trans (hfr_33 q hq)
  refine w_iconst dX11_laysOne_40 ?_
  refine w_istore [(5, .int (zI 0)), (4, .int (zI ((61 * ((j : Nat) : Int)) + ((a : Nat) : Int)))), (0, .ref (B + 141)), (1, .int (zI ((k : Nat) : Int))), (2, .int (zI ((j : Nat) : Int))), (3, .int (zI ((a : Nat) : Int)))] dX11_laysOne_41 (by decide) rfl ?_
  refine w_sub [(0, .ref (B + 141)), (1, .int (zI ((k : Nat) : Int))), (2, .int (zI ((j : Nat) : Int))), (3, .int (zI ((a : Nat) : Int))), (4, .int (zI ((61 * ((j : Nat) : Int)) + ((a : Nat) : Int)))), (5, .int (zI 0))] [2, 3, 4, 5, 1, 0] rfl ?_
  refine w_lv (lv' := [(0, .ref (B + 141)), (1, .int (zI ((k : Nat) : Int))), (2, .int (zI ((j : Nat) : Int))), (3, .int (zI ((a : Nat) : Int))), (4, .int (zI ((61 * ((j : Nat) : Int)) + ((a : Nat) : Int)))), (5, .int (zI ((0 : Nat) : Int)))]) (lc_s (lc_s (lc_s (lc_s (lc_s (lc_i (by first | omega | with_reducible rfl) rfl)))))) ?_
  refine w_loop2 (fun (x : Nat) (gl_45 : (Nat → va_E)) => vM cy B gl_45 141 cg le sp va o0 tn aw mw fw ls gs sn sw kr ∧ vIA cy B gl_45 142 49 Nw ∧ vLA cy B gl_45 146 169 Sv ∧ vLA cy B gl_45 153 366 (uZ Be (61 * ((j : Nat) : Int) + ((a : Nat) : Int)) (srN (mf c 1 j a) 0 x)) ∧ vLA cy B gl_45 154 366 (uZ Lo (61 * ((j : Nat) : Int) + ((a : Nat) : Int)) (mxN (mf c 2 j a) 0 x)) ∧ vLA cy B gl_45 155 366 (uZ Sh (61 * ((j : Nat) : Int) + ((a : Nat) : Int)) (stN (mf c 3 j a) x)) ∧ vIA cy B gl_45 156 366 (uZ Ro (61 * ((j : Nat) : Int) + ((a : Nat) : Int)) (srN (mr c j a) 0 x)) ∧ (∀ q, (q ≠ 153 ∧ q ≠ 154 ∧ q ≠ 155 ∧ q ≠ 156) → gl_45 q = g q) ∧ x ≤ min ((coT c ((j : Nat) : Int)).toNat + 1) (61 - a)) (fun (x : Nat) (gl_45 : (Nat → va_E)) => 61 - x) (fun (x : Nat) (gl_45 : (Nat → va_E)) => gl_45) (fun (x : Nat) (gl_45 : (Nat → va_E)) => [(0, .ref (B + 141)), (1, .int (zI ((k : Nat) : Int))), (2, .int (zI ((j : Nat) : Int))), (3, .int (zI ((a : Nat) : Int))), (4, .int (zI ((61 * ((j : Nat) : Int)) + ((a : Nat) : Int)))), (5, .int (zI ((x : Nat) : Int)))]) ?_ 0 g_34 ⟨hm_37, hnow_38, hse_39, (by have h9 := hbe_40; exact h9), (by have h9 := hlo_41; exact h9), (by have h9 := hsh_42; exact h9), (by have h9 := hro_43; exact h9), hfr_44, (by first | omega | with_reducible rfl)⟩
  rintro x gl_45 ⟨hm_46, hnow_47, hse_48, hbe_49, hlo_50, hsh_51, hro_52, hfr_53, hx⟩ ih_43
  refine w_iload dX11_laysOne_43 5 rfl ?_
  refine w_aload_n dX11_laysOne_45 rfl 0 rfl ?_
  refine w_iload_n dX11_laysOne_46 rfl 1 rfl ?_
  refine w_iload_n dX11_laysOne_47 rfl 2 rfl ?_
  refine w_iconst dX11_laysOne_48 ?_
  refine w_calli (As := [.int (zI ((k : Nat) : Int)), .int (zI ((j : Nat) : Int)), .int (zI 0)]) (rest := [.int (zI ((x : Nat) : Int))]) (n := 3) (c_X11_of0 (k := k) hm_46 hnow_47 (by first | omega | with_reducible rfl) (by first | omega | with_reducible rfl) (by first | omega | with_reducible rfl)) gX11_laysOne_X11_of rfl rfl rfl (by decide +kernel) ⟨Nat.le_of_ble_eq_true rfl, Nat.le_of_ble_eq_true rfl⟩ rfl (by first | omega | with_reducible rfl) hm_46 rfl (Nat.le_of_ble_eq_true rfl) ⟨Nat.zero_le _, Nat.zero_le _⟩ dX11_laysOne_49 rfl (fun g_54 hp_55 => ?_)
  subst g_54
  refine w_icmp_gt 245 dX11_laysOne_52 (by decide) (by first | omega | with_reducible rfl) (by first | omega | with_reducible rfl) (fun c_52 => ?_) (fun c_52 => ?_)
  · have hxe : x = min ((coT c ((j : Nat) : Int)).toNat + 1) (61 - a) := by omega
    obtain ⟨m1, m2, m3, m4⟩ := MB_all hc hj ha hxe
    skip
    exact w_vret dX11_laysOne_245 rfl ⟨(by have h9 := hbe_49; rw [← m1]; exact h9), (by have h9 := hlo_50; rw [← m2]; exact h9), (by have h9 := hsh_51; rw [← m3]; exact h9), (by have h9 := hro_52; rw [← m4]; exact h9), hfr_53⟩
  · refine w_iload_n dX11_laysOne_55 rfl 3 rfl ?_
    refine w_iload dX11_laysOne_56 5 rfl ?_
    refine w_iadd dX11_laysOne_58 ?_
    refine w_bipush dX11_laysOne_59 (by decide) ?_
    refine w_icmp_ge 245 dX11_laysOne_61 (by decide) (by first | omega | with_reducible rfl) (by first | omega | with_reducible rfl) (fun c_61 => ?_) (fun c_61 => ?_)
    · have hxe : x = min ((coT c ((j : Nat) : Int)).toNat + 1) (61 - a) := by omega
      obtain ⟨m1, m2, m3, m4⟩ := MB_all hc hj ha hxe
      exact w_vret dX11_laysOne_245 rfl ⟨(by have h9 := hbe_49; rw [← m1]; exact h9), (by have h9 := hlo_50; rw [← m2]; exact h9), (by have h9 := hsh_51; rw [← m3]; exact h9), (by have h9 := hro_52; rw [← m4]; exact h9), hfr_53⟩
    · have hrx := hrow (a + x) (by omega)
      have hmb := MB_rg hc (j + 1) (a + x)
      have hf1 := mf_rg hc (kd := 1) (a := a) (x := x) (by omega) hj
      have hf2 := mf_rg hc (kd := 2) (a := a) (x := x) (by omega) hj
      have hf3 := mf_rg hc (kd := 3) (a := a) (x := x) (by omega) hj
      have hmx := mxN_rg (f := mf c 2 j a) (a := 0) (M := 1152921504606846976) (by omega) (k := x) (fun i hi => mf_rg hc (by omega) hj)
      have hst := stN_rg (f := mf c 3 j a) (M := 1152921504606846976) (by omega) (k := x) (fun i hi => (mf_rg hc (by omega) hj).2)
      refine w_iload dX11_laysOne_64 4 rfl ?_
      refine w_bipush dX11_laysOne_66 (by decide) ?_
      refine w_iadd dX11_laysOne_68 ?_
      refine w_iload dX11_laysOne_69 5 rfl ?_
      refine w_iadd dX11_laysOne_71 ?_
      refine w_as (st' := [.int (zI (61 * (((j + 1) : Nat) : Int) + (((a + x) : Nat) : Int)))]) (sc_i (by omega) rfl) ?_
      refine w_istore [(6, .int (zI (61 * (((j + 1) : Nat) : Int) + (((a + x) : Nat) : Int)))), (0, .ref (B + 141)), (1, .int (zI ((k : Nat) : Int))), (2, .int (zI ((j : Nat) : Int))), (3, .int (zI ((a : Nat) : Int))), (4, .int (zI ((61 * ((j : Nat) : Int)) + ((a : Nat) : Int)))), (5, .int (zI ((x : Nat) : Int)))] dX11_laysOne_72 (by decide) rfl ?_
      refine w_aload_n dX11_laysOne_74 rfl 1 rfl ?_
      refine w_get (i := 28) (T := TX11) (NF := 32) 141 (by first | omega | with_reducible rfl) hm_46 rfl (fun _ h => (List.mem_cons_of_mem _ (List.mem_append_right _ h))) (by decide) (List.mem_of_getElem? (i := 4) rfl) rfl dX11_laysOne_75 ?_
      refine w_iload dX11_laysOne_78 0 rfl ?_
      refine w_iald 156 (by first | omega | with_reducible rfl) hro_52 (by first | omega | with_reducible rfl) dX11_laysOne_80 ?_
      refine w_as (st' := [.int (zI (MB c 4 (j + 1) (a + x)))]) (sc_i (by rw [uZ_ne (by omega)]; exact hrx.2.2.2) rfl) ?_
      refine w_if_le 239 dX11_laysOne_81 (by decide) (by first | omega | with_reducible rfl) (fun c_81 => ?_) (fun c_81 => ?_)
      · have h40 : MB c 4 (j + 1) (a + x) = 0 := by omega
        have hnt := (not_congr hmb.2.2.2.2.1).mp (by omega)
        have hz9 : ∀ kd, mf c kd j a x = 0 := fun kd => by unfold mf; rw [MB_out hnt, Int.mul_zero]
        have hz8 : mr c j a x = 0 := h40
        refine w_iinc 6 [(5, .int (zI (((x : Nat) : Int) + 1))), (6, .int (zI (61 * (((j + 1) : Nat) : Int) + (((a + x) : Nat) : Int)))), (0, .ref (B + 141)), (1, .int (zI ((k : Nat) : Int))), (2, .int (zI ((j : Nat) : Int))), (3, .int (zI ((a : Nat) : Int))), (4, .int (zI ((61 * ((j : Nat) : Int)) + ((a : Nat) : Int))))] dX11_laysOne_239 rfl (by decide) rfl ?_
        refine w_goto 43 dX11_laysOne_242 (by decide) ?_
        refine w_sub [(0, .ref (B + 141)), (1, .int (zI ((k : Nat) : Int))), (2, .int (zI ((j : Nat) : Int))), (3, .int (zI ((a : Nat) : Int))), (4, .int (zI ((61 * ((j : Nat) : Int)) + ((a : Nat) : Int)))), (5, .int (zI (((x : Nat) : Int) + 1)))] [2, 3, 4, 5, 6, 0] rfl ?_
        refine w_lv (lv' := [(0, .ref (B + 141)), (1, .int (zI ((k : Nat) : Int))), (2, .int (zI ((j : Nat) : Int))), (3, .int (zI ((a : Nat) : Int))), (4, .int (zI ((61 * ((j : Nat) : Int)) + ((a : Nat) : Int)))), (5, .int (zI (((x + 1) : Nat) : Int)))]) (lc_s (lc_s (lc_s (lc_s (lc_s (lc_i (by first | omega | with_reducible rfl) rfl)))))) ?_
        exact ih_43 (x + 1) gl_45 ⟨hm_46, hnow_47, hse_48, (by have h9 := hbe_49; rw [show srN (mf c 1 j a) 0 (x + 1) = srN (mf c 1 j a) 0 x by rw [srN, Nat.zero_add, (hz9 1)]; omega]; exact h9), (by have h9 := hlo_50; rw [show mxN (mf c 2 j a) 0 (x + 1) = mxN (mf c 2 j a) 0 x by rw [mxN, Nat.zero_add, (hz9 2)]; have := mxN_nn (f := mf c 2 j a) (a := 0) (k := x); omega]; exact h9), (by have h9 := hsh_51; rw [show stN (mf c 3 j a) (x + 1) = stN (mf c 3 j a) x by rw [stN, (hz9 3), if_neg (by omega)]]; exact h9), (by have h9 := hro_52; rw [show srN (mr c j a) 0 (x + 1) = srN (mr c j a) 0 x by rw [srN, Nat.zero_add, hz8]; omega]; exact h9), hfr_53, (by first | omega | with_reducible rfl)⟩ (by first | omega | with_reducible rfl)
      · have hpos := hmb.2.2.2.2.2 (by omega)
        have hcp : 0 < ch (coT c ((j : Nat) : Int)).toNat x := ch_pos (by omega)
        refine w_aload_n dX11_laysOne_84 rfl 1 rfl ?_
        refine w_iload_n dX11_laysOne_85 rfl 2 rfl ?_
        refine w_iload_n dX11_laysOne_86 rfl 3 rfl ?_
        refine w_iload dX11_laysOne_87 6 rfl ?_
        refine w_calll (As := [.int (zI ((k : Nat) : Int)), .int (zI ((j : Nat) : Int)), .int (zI ((x : Nat) : Int))]) (rest := []) (n := 3) (c_X11_setsOf (k := k) hm_46 hnow_47 hse_48 (by first | omega | with_reducible rfl) (by first | omega | with_reducible rfl) (by first | omega | with_reducible rfl) (by first | omega | with_reducible rfl) (by first | omega | with_reducible rfl) (by first | omega | with_reducible rfl)) gX11_laysOne_X11_setsOf rfl rfl rfl (by decide +kernel) ⟨Nat.le_of_ble_eq_true rfl, Nat.le_of_ble_eq_true rfl⟩ rfl (by first | omega | with_reducible rfl) hm_46 rfl (Nat.le_of_ble_eq_true rfl) ⟨Nat.zero_le _, Nat.zero_le _⟩ dX11_laysOne_89 rfl (fun g_56 hp_57 => ?_)
        subst g_56
        refine w_as (st' := [.long (zJ ((ch (coT c ((j : Nat) : Int)).toNat x : Nat) : Int))]) (sc_l (by rw [Int.toNat_natCast]) rfl) ?_
        refine w_lstore [(7, .long (zJ ((ch (coT c ((j : Nat) : Int)).toNat x : Nat) : Int))), (6, .int (zI (61 * (((j + 1) : Nat) : Int) + (((a + x) : Nat) : Int)))), (0, .ref (B + 141)), (1, .int (zI ((k : Nat) : Int))), (2, .int (zI ((j : Nat) : Int))), (3, .int (zI ((a : Nat) : Int))), (4, .int (zI ((61 * ((j : Nat) : Int)) + ((a : Nat) : Int)))), (5, .int (zI ((x : Nat) : Int)))] dX11_laysOne_92 (by decide) rfl ?_
        refine w_aload_n dX11_laysOne_94 rfl 2 rfl ?_
        refine w_get (i := 25) (T := TX11) (NF := 32) 141 (by first | omega | with_reducible rfl) hm_46 rfl (fun _ h => (List.mem_cons_of_mem _ (List.mem_append_right _ h))) (by decide) (List.mem_of_getElem? (i := 1) rfl) rfl dX11_laysOne_95 ?_
        refine w_iload dX11_laysOne_98 6 rfl ?_
        refine w_dup2 dX11_laysOne_100 rfl rfl ?_
        refine w_lald 153 (by first | omega | with_reducible rfl) hbe_49 (by first | omega | with_reducible rfl) dX11_laysOne_101 ?_
        refine w_as (st' := [.long (zJ (srN (mf c 1 j a) 0 x)), .int (zI ((61 * ((j : Nat) : Int)) + ((a : Nat) : Int))), .ref (B + 153)]) (sc_l (uZ_same _ _ _) rfl) ?_
        refine w_lload dX11_laysOne_102 0 rfl ?_
        refine w_aload_n dX11_laysOne_104 rfl 2 rfl ?_
        refine w_get (i := 25) (T := TX11) (NF := 32) 141 (by first | omega | with_reducible rfl) hm_46 rfl (fun _ h => (List.mem_cons_of_mem _ (List.mem_append_right _ h))) (by decide) (List.mem_of_getElem? (i := 1) rfl) rfl dX11_laysOne_105 ?_
        refine w_iload dX11_laysOne_108 1 rfl ?_
        refine w_lald 153 (by first | omega | with_reducible rfl) hbe_49 (by first | omega | with_reducible rfl) dX11_laysOne_110 ?_
        refine w_as (st' := [.long (zJ (MB c 1 (j + 1) (a + x))), .long (zJ ((ch (coT c ((j : Nat) : Int)).toNat x : Nat) : Int)), .long (zJ (srN (mf c 1 j a) 0 x)), .int (zI ((61 * ((j : Nat) : Int)) + ((a : Nat) : Int))), .ref (B + 153)]) (sc_l (by rw [uZ_ne (by omega)]; exact hrx.1) rfl) ?_
        refine w_lmul dX11_laysOne_111 ?_
        refine w_ladd dX11_laysOne_112 ?_
        refine w_as (st' := [.long (zJ (srN (mf c 1 j a) 0 (x + 1))), .int (zI ((61 * ((j : Nat) : Int)) + ((a : Nat) : Int))), .ref (B + 153)]) (sc_l (by rw [srN, Nat.zero_add]; rfl) rfl) ?_
        refine w_last 153 (by first | omega | with_reducible rfl) hbe_49 (by first | omega | with_reducible rfl) dX11_laysOne_113 (fun g_58 he_59 hn_60 => ?_)
        have hm_61 : vM cy B g_58 141 cg le sp va o0 tn aw mw fw ls gs sn sw kr := vM_fr hm_46 (fun q h1 h2 => hn_60 q (by omega))
        have hnow_62 : vIA cy B g_58 142 49 Nw := vIA_fr hnow_47 (fun q h1 h2 => hn_60 q (by omega))
        have hse_63 : vLA cy B g_58 146 169 Sv := vLA_fr hse_48 (fun q h1 h2 => hn_60 q (by omega))
        have hbe_64 : vLA cy B g_58 153 366 (uZ (uZ Be (61 * ((j : Nat) : Int) + ((a : Nat) : Int)) (srN (mf c 1 j a) 0 x)) ((61 * ((j : Nat) : Int)) + ((a : Nat) : Int)) (srN (mf c 1 j a) 0 (x + 1))) := he_59
        have hlo_65 : vLA cy B g_58 154 366 (uZ Lo (61 * ((j : Nat) : Int) + ((a : Nat) : Int)) (mxN (mf c 2 j a) 0 x)) := vLA_fr hlo_50 (fun q h1 h2 => hn_60 q (by omega))
        have hsh_66 : vLA cy B g_58 155 366 (uZ Sh (61 * ((j : Nat) : Int) + ((a : Nat) : Int)) (stN (mf c 3 j a) x)) := vLA_fr hsh_51 (fun q h1 h2 => hn_60 q (by omega))
        have hro_67 : vIA cy B g_58 156 366 (uZ Ro (61 * ((j : Nat) : Int) + ((a : Nat) : Int)) (srN (mr c j a) 0 x)) := vIA_fr hro_52 (fun q h1 h2 => hn_60 q (by omega))
        have hfr_68 : ∀ q, (q ≠ 153 ∧ q ≠ 154 ∧ q ≠ 155 ∧ q ≠ 156) → g_58 q = g q := fun q hq => (hn_60 q (by omega)).trans (hfr_53 q hq)
        refine w_aload_n dX11_laysOne_114 rfl 2 rfl ?_
        refine w_get (i := 26) (T := TX11) (NF := 32) 141 (by first | omega | with_reducible rfl) hm_61 rfl (fun _ h => (List.mem_cons_of_mem _ (List.mem_append_right _ h))) (by decide) (List.mem_of_getElem? (i := 2) rfl) rfl dX11_laysOne_115 ?_
        refine w_iload dX11_laysOne_118 6 rfl ?_
        refine w_lload dX11_laysOne_120 0 rfl ?_
        refine w_aload_n dX11_laysOne_122 rfl 2 rfl ?_
        refine w_get (i := 26) (T := TX11) (NF := 32) 141 (by first | omega | with_reducible rfl) hm_61 rfl (fun _ h => (List.mem_cons_of_mem _ (List.mem_append_right _ h))) (by decide) (List.mem_of_getElem? (i := 2) rfl) rfl dX11_laysOne_123 ?_
        refine w_iload dX11_laysOne_126 1 rfl ?_
        refine w_lald 154 (by first | omega | with_reducible rfl) hlo_65 (by first | omega | with_reducible rfl) dX11_laysOne_128 ?_
        refine w_as (st' := [.long (zJ (MB c 2 (j + 1) (a + x))), .long (zJ ((ch (coT c ((j : Nat) : Int)).toNat x : Nat) : Int)), .int (zI ((61 * ((j : Nat) : Int)) + ((a : Nat) : Int))), .ref (B + 154)]) (sc_l (by rw [uZ_ne (by omega)]; exact hrx.2.1) rfl) ?_
        refine w_lmul dX11_laysOne_129 ?_
        refine w_as (st' := [.long (zJ (mf c 2 j a x)), .int (zI ((61 * ((j : Nat) : Int)) + ((a : Nat) : Int))), .ref (B + 154)]) (sc_l rfl rfl) ?_
        refine w_aload_n dX11_laysOne_130 rfl 2 rfl ?_
        refine w_get (i := 26) (T := TX11) (NF := 32) 141 (by first | omega | with_reducible rfl) hm_61 rfl (fun _ h => (List.mem_cons_of_mem _ (List.mem_append_right _ h))) (by decide) (List.mem_of_getElem? (i := 2) rfl) rfl dX11_laysOne_131 ?_
        refine w_iload dX11_laysOne_134 6 rfl ?_
        refine w_lald 154 (by first | omega | with_reducible rfl) hlo_65 (by first | omega | with_reducible rfl) dX11_laysOne_136 ?_
        refine w_as (st' := [.long (zJ (mxN (mf c 2 j a) 0 x)), .long (zJ (mf c 2 j a x)), .int (zI ((61 * ((j : Nat) : Int)) + ((a : Nat) : Int))), .ref (B + 154)]) (sc_l (uZ_same _ _ _) rfl) ?_
        refine w_lcmp_le 154 dX11_laysOne_137 dX11_laysOne_138 (by decide) (by first | omega | with_reducible rfl) (by first | omega | with_reducible rfl) (fun c_137 => ?_) (fun c_137 => ?_)
        · refine w_aload_n dX11_laysOne_154 rfl 2 rfl ?_
          refine w_get (i := 26) (T := TX11) (NF := 32) 141 (by first | omega | with_reducible rfl) hm_61 rfl (fun _ h => (List.mem_cons_of_mem _ (List.mem_append_right _ h))) (by decide) (List.mem_of_getElem? (i := 2) rfl) rfl dX11_laysOne_155 ?_
          refine w_iload dX11_laysOne_158 6 rfl ?_
          refine w_lald 154 (by first | omega | with_reducible rfl) hlo_65 (by first | omega | with_reducible rfl) dX11_laysOne_160 ?_
          refine w_as (st' := [.long (zJ (mxN (mf c 2 j a) 0 (x + 1))), .int (zI ((61 * ((j : Nat) : Int)) + ((a : Nat) : Int))), .ref (B + 154)]) (sc_l (by rw [uZ_same, mxN, Nat.zero_add]; omega) rfl) ?_
          refine w_last 154 (by first | omega | with_reducible rfl) hlo_65 (by first | omega | with_reducible rfl) dX11_laysOne_161 (fun g_69 he_70 hn_71 => ?_)
          have hm_72 : vM cy B g_69 141 cg le sp va o0 tn aw mw fw ls gs sn sw kr := vM_fr hm_61 (fun q h1 h2 => hn_71 q (by omega))
          have hnow_73 : vIA cy B g_69 142 49 Nw := vIA_fr hnow_62 (fun q h1 h2 => hn_71 q (by omega))
          have hse_74 : vLA cy B g_69 146 169 Sv := vLA_fr hse_63 (fun q h1 h2 => hn_71 q (by omega))
          have hbe_75 : vLA cy B g_69 153 366 (uZ (uZ Be (61 * ((j : Nat) : Int) + ((a : Nat) : Int)) (srN (mf c 1 j a) 0 x)) ((61 * ((j : Nat) : Int)) + ((a : Nat) : Int)) (srN (mf c 1 j a) 0 (x + 1))) := vLA_fr hbe_64 (fun q h1 h2 => hn_71 q (by omega))
          have hlo_76 : vLA cy B g_69 154 366 (uZ (uZ Lo (61 * ((j : Nat) : Int) + ((a : Nat) : Int)) (mxN (mf c 2 j a) 0 x)) ((61 * ((j : Nat) : Int)) + ((a : Nat) : Int)) (mxN (mf c 2 j a) 0 (x + 1))) := he_70
          have hsh_77 : vLA cy B g_69 155 366 (uZ Sh (61 * ((j : Nat) : Int) + ((a : Nat) : Int)) (stN (mf c 3 j a) x)) := vLA_fr hsh_66 (fun q h1 h2 => hn_71 q (by omega))
          have hro_78 : vIA cy B g_69 156 366 (uZ Ro (61 * ((j : Nat) : Int) + ((a : Nat) : Int)) (srN (mr c j a) 0 x)) := vIA_fr hro_67 (fun q h1 h2 => hn_71 q (by omega))
          have hfr_79 : ∀ q, (q ≠ 153 ∧ q ≠ 154 ∧ q ≠ 155 ∧ q ≠ 156) → g_69 q = g q := fun q hq => (hn_71 q (by omega)).trans (hfr_68 q hq)
          refine w_aload_n dX11_laysOne_162 rfl 2 rfl ?_
          refine w_get (i := 27) (T := TX11) (NF := 32) 141 (by first | omega | with_reducible rfl) hm_72 rfl (fun _ h => (List.mem_cons_of_mem _ (List.mem_append_right _ h))) (by decide) (List.mem_of_getElem? (i := 3) rfl) rfl dX11_laysOne_163 ?_
          refine w_iload dX11_laysOne_166 6 rfl ?_
          refine w_aload_n dX11_laysOne_168 rfl 2 rfl ?_
          refine w_get (i := 27) (T := TX11) (NF := 32) 141 (by first | omega | with_reducible rfl) hm_72 rfl (fun _ h => (List.mem_cons_of_mem _ (List.mem_append_right _ h))) (by decide) (List.mem_of_getElem? (i := 3) rfl) rfl dX11_laysOne_169 ?_
          refine w_iload dX11_laysOne_172 6 rfl ?_
          refine w_lald 155 (by first | omega | with_reducible rfl) hsh_77 (by first | omega | with_reducible rfl) dX11_laysOne_174 ?_
          refine w_as (st' := [.long (zJ (stN (mf c 3 j a) x)), .int (zI ((61 * ((j : Nat) : Int)) + ((a : Nat) : Int))), .ref (B + 155)]) (sc_l (uZ_same _ _ _) rfl) ?_
          refine w_lconst0 dX11_laysOne_175 ?_
          refine w_lcmp_eq 201 dX11_laysOne_176 dX11_laysOne_177 (by decide) (by first | omega | with_reducible rfl) (by first | omega | with_reducible rfl) (fun c_176 => ?_) (fun c_176 => ?_)
          · refine w_lload dX11_laysOne_201 0 rfl ?_
            refine w_aload_n dX11_laysOne_203 rfl 2 rfl ?_
            refine w_get (i := 27) (T := TX11) (NF := 32) 141 (by first | omega | with_reducible rfl) hm_72 rfl (fun _ h => (List.mem_cons_of_mem _ (List.mem_append_right _ h))) (by decide) (List.mem_of_getElem? (i := 3) rfl) rfl dX11_laysOne_204 ?_
            refine w_iload dX11_laysOne_207 1 rfl ?_
            refine w_lald 155 (by first | omega | with_reducible rfl) hsh_77 (by first | omega | with_reducible rfl) dX11_laysOne_209 ?_
            refine w_as (st' := [.long (zJ (MB c 3 (j + 1) (a + x))), .long (zJ ((ch (coT c ((j : Nat) : Int)).toNat x : Nat) : Int)), .int (zI ((61 * ((j : Nat) : Int)) + ((a : Nat) : Int))), .ref (B + 155)]) (sc_l (by rw [uZ_ne (by omega)]; exact hrx.2.2.1) rfl) ?_
            refine w_lmul dX11_laysOne_210 ?_
            refine w_as (st' := [.long (zJ (mf c 3 j a x)), .int (zI ((61 * ((j : Nat) : Int)) + ((a : Nat) : Int))), .ref (B + 155)]) (sc_l rfl rfl) ?_
            refine w_goto 221 dX11_laysOne_211 (by decide) ?_
            have hf30 : 0 < mf c 3 j a x := Int.mul_pos (by omega) hpos.1
            refine w_as (st' := [.long (zJ (stN (mf c 3 j a) (x + 1))), .int (zI ((61 * ((j : Nat) : Int)) + ((a : Nat) : Int))), .ref (B + 155)]) (sc_l (by rw [stN, if_pos hf30]; first | exact (if_pos (by omega)).symm | exact (if_neg (by omega)).symm) rfl) ?_
            refine w_last 155 (by first | omega | with_reducible rfl) hsh_77 (by first | omega | with_reducible rfl) dX11_laysOne_221 (fun g_80 he_81 hn_82 => ?_)
            have hm_83 : vM cy B g_80 141 cg le sp va o0 tn aw mw fw ls gs sn sw kr := vM_fr hm_72 (fun q h1 h2 => hn_82 q (by omega))
            have hnow_84 : vIA cy B g_80 142 49 Nw := vIA_fr hnow_73 (fun q h1 h2 => hn_82 q (by omega))
            have hse_85 : vLA cy B g_80 146 169 Sv := vLA_fr hse_74 (fun q h1 h2 => hn_82 q (by omega))
            have hbe_86 : vLA cy B g_80 153 366 (uZ (uZ Be (61 * ((j : Nat) : Int) + ((a : Nat) : Int)) (srN (mf c 1 j a) 0 x)) ((61 * ((j : Nat) : Int)) + ((a : Nat) : Int)) (srN (mf c 1 j a) 0 (x + 1))) := vLA_fr hbe_75 (fun q h1 h2 => hn_82 q (by omega))
            have hlo_87 : vLA cy B g_80 154 366 (uZ (uZ Lo (61 * ((j : Nat) : Int) + ((a : Nat) : Int)) (mxN (mf c 2 j a) 0 x)) ((61 * ((j : Nat) : Int)) + ((a : Nat) : Int)) (mxN (mf c 2 j a) 0 (x + 1))) := vLA_fr hlo_76 (fun q h1 h2 => hn_82 q (by omega))
            have hsh_88 : vLA cy B g_80 155 366 (uZ (uZ Sh (61 * ((j : Nat) : Int) + ((a : Nat) : Int)) (stN (mf c 3 j a) x)) ((61 * ((j : Nat) : Int)) + ((a : Nat) : Int)) (stN (mf c 3 j a) (x + 1))) := he_81
            have hro_89 : vIA cy B g_80 156 366 (uZ Ro (61 * ((j : Nat) : Int) + ((a : Nat) : Int)) (srN (mr c j a) 0 x)) := vIA_fr hro_78 (fun q h1 h2 => hn_82 q (by omega))
            have hfr_90 : ∀ q, (q ≠ 153 ∧ q ≠ 154 ∧ q ≠ 155 ∧ q ≠ 156) → g_80 q = g q := fun q hq => (hn_82 q (by omega)).trans (hfr_79 q hq)
            refine w_aload_n dX11_laysOne_222 rfl 2 rfl ?_
            refine w_get (i := 28) (T := TX11) (NF := 32) 141 (by first | omega | with_reducible rfl) hm_83 rfl (fun _ h => (List.mem_cons_of_mem _ (List.mem_append_right _ h))) (by decide) (List.mem_of_getElem? (i := 4) rfl) rfl dX11_laysOne_223 ?_
            refine w_iload dX11_laysOne_226 6 rfl ?_
            refine w_dup2 dX11_laysOne_228 rfl rfl ?_
            refine w_iald 156 (by first | omega | with_reducible rfl) hro_89 (by first | omega | with_reducible rfl) dX11_laysOne_229 ?_
            refine w_as (st' := [.int (zI (srN (mr c j a) 0 x)), .int (zI ((61 * ((j : Nat) : Int)) + ((a : Nat) : Int))), .ref (B + 156)]) (sc_i (uZ_same _ _ _) rfl) ?_
            refine w_aload_n dX11_laysOne_230 rfl 2 rfl ?_
            refine w_get (i := 28) (T := TX11) (NF := 32) 141 (by first | omega | with_reducible rfl) hm_83 rfl (fun _ h => (List.mem_cons_of_mem _ (List.mem_append_right _ h))) (by decide) (List.mem_of_getElem? (i := 4) rfl) rfl dX11_laysOne_231 ?_
            refine w_iload dX11_laysOne_234 1 rfl ?_
            refine w_iald 156 (by first | omega | with_reducible rfl) hro_89 (by first | omega | with_reducible rfl) dX11_laysOne_236 ?_
            refine w_as (st' := [.int (zI (MB c 4 (j + 1) (a + x))), .int (zI (srN (mr c j a) 0 x)), .int (zI ((61 * ((j : Nat) : Int)) + ((a : Nat) : Int))), .ref (B + 156)]) (sc_i (by rw [uZ_ne (by omega)]; exact hrx.2.2.2) rfl) ?_
            refine w_iadd dX11_laysOne_237 ?_
            refine w_as (st' := [.int (zI (srN (mr c j a) 0 (x + 1))), .int (zI ((61 * ((j : Nat) : Int)) + ((a : Nat) : Int))), .ref (B + 156)]) (sc_i (by rw [srN, Nat.zero_add]; rfl) rfl) ?_
            refine w_iast 156 (by first | omega | with_reducible rfl) hro_89 (by first | omega | with_reducible rfl) dX11_laysOne_238 (fun g_91 he_92 hn_93 => ?_)
            have hm_94 : vM cy B g_91 141 cg le sp va o0 tn aw mw fw ls gs sn sw kr := vM_fr hm_83 (fun q h1 h2 => hn_93 q (by omega))
            have hnow_95 : vIA cy B g_91 142 49 Nw := vIA_fr hnow_84 (fun q h1 h2 => hn_93 q (by omega))
            have hse_96 : vLA cy B g_91 146 169 Sv := vLA_fr hse_85 (fun q h1 h2 => hn_93 q (by omega))
            have hbe_97 : vLA cy B g_91 153 366 (uZ (uZ Be (61 * ((j : Nat) : Int) + ((a : Nat) : Int)) (srN (mf c 1 j a) 0 x)) ((61 * ((j : Nat) : Int)) + ((a : Nat) : Int)) (srN (mf c 1 j a) 0 (x + 1))) := vLA_fr hbe_86 (fun q h1 h2 => hn_93 q (by omega))
            have hlo_98 : vLA cy B g_91 154 366 (uZ (uZ Lo (61 * ((j : Nat) : Int) + ((a : Nat) : Int)) (mxN (mf c 2 j a) 0 x)) ((61 * ((j : Nat) : Int)) + ((a : Nat) : Int)) (mxN (mf c 2 j a) 0 (x + 1))) := vLA_fr hlo_87 (fun q h1 h2 => hn_93 q (by omega))
            have hsh_99 : vLA cy B g_91 155 366 (uZ (uZ Sh (61 * ((j : Nat) : Int) + ((a : Nat) : Int)) (stN (mf c 3 j a) x)) ((61 * ((j : Nat) : Int)) + ((a : Nat) : Int)) (stN (mf c 3 j a) (x + 1))) := vLA_fr hsh_88 (fun q h1 h2 => hn_93 q (by omega))
            have hro_100 : vIA cy B g_91 156 366 (uZ (uZ Ro (61 * ((j : Nat) : Int) + ((a : Nat) : Int)) (srN (mr c j a) 0 x)) ((61 * ((j : Nat) : Int)) + ((a : Nat) : Int)) (srN (mr c j a) 0 (x + 1))) := he_92
            have hfr_101 : ∀ q, (q ≠ 153 ∧ q ≠ 154 ∧ q ≠ 155 ∧ q ≠ 156) → g_91 q = g q := fun q hq => (hn_93 q (by omega)).trans (hfr_90 q hq)
            refine w_iinc 7 [(5, .int (zI (((x : Nat) : Int) + 1))), (7, .long (zJ ((ch (coT c ((j : Nat) : Int)).toNat x : Nat) : Int))), (6, .int (zI (61 * (((j + 1) : Nat) : Int) + (((a + x) : Nat) : Int)))), (0, .ref (B + 141)), (1, .int (zI ((k : Nat) : Int))), (2, .int (zI ((j : Nat) : Int))), (3, .int (zI ((a : Nat) : Int))), (4, .int (zI ((61 * ((j : Nat) : Int)) + ((a : Nat) : Int))))] dX11_laysOne_239 rfl (by decide) rfl ?_
            refine w_goto 43 dX11_laysOne_242 (by decide) ?_
            refine w_sub [(0, .ref (B + 141)), (1, .int (zI ((k : Nat) : Int))), (2, .int (zI ((j : Nat) : Int))), (3, .int (zI ((a : Nat) : Int))), (4, .int (zI ((61 * ((j : Nat) : Int)) + ((a : Nat) : Int)))), (5, .int (zI (((x : Nat) : Int) + 1)))] [3, 4, 5, 6, 7, 0] rfl ?_
            refine w_lv (lv' := [(0, .ref (B + 141)), (1, .int (zI ((k : Nat) : Int))), (2, .int (zI ((j : Nat) : Int))), (3, .int (zI ((a : Nat) : Int))), (4, .int (zI ((61 * ((j : Nat) : Int)) + ((a : Nat) : Int)))), (5, .int (zI (((x + 1) : Nat) : Int)))]) (lc_s (lc_s (lc_s (lc_s (lc_s (lc_i (by first | omega | with_reducible rfl) rfl)))))) ?_
            exact ih_43 (x + 1) g_91 ⟨hm_94, hnow_95, hse_96, (by have h9 := hbe_97; simp only [uZ_uZ] at h9; exact h9), (by have h9 := hlo_98; simp only [uZ_uZ] at h9; exact h9), (by have h9 := hsh_99; simp only [uZ_uZ] at h9; exact h9), (by have h9 := hro_100; simp only [uZ_uZ] at h9; exact h9), hfr_101, (by first | omega | with_reducible rfl)⟩ (by first | omega | with_reducible rfl)
          · refine w_lload dX11_laysOne_180 0 rfl ?_
            refine w_aload_n dX11_laysOne_182 rfl 2 rfl ?_
            refine w_get (i := 27) (T := TX11) (NF := 32) 141 (by first | omega | with_reducible rfl) hm_72 rfl (fun _ h => (List.mem_cons_of_mem _ (List.mem_append_right _ h))) (by decide) (List.mem_of_getElem? (i := 3) rfl) rfl dX11_laysOne_183 ?_
            refine w_iload dX11_laysOne_186 1 rfl ?_
            refine w_lald 155 (by first | omega | with_reducible rfl) hsh_77 (by first | omega | with_reducible rfl) dX11_laysOne_188 ?_
            refine w_as (st' := [.long (zJ (MB c 3 (j + 1) (a + x))), .long (zJ ((ch (coT c ((j : Nat) : Int)).toNat x : Nat) : Int)), .int (zI ((61 * ((j : Nat) : Int)) + ((a : Nat) : Int))), .ref (B + 155)]) (sc_l (by rw [uZ_ne (by omega)]; exact hrx.2.2.1) rfl) ?_
            refine w_lmul dX11_laysOne_189 ?_
            refine w_as (st' := [.long (zJ (mf c 3 j a x)), .int (zI ((61 * ((j : Nat) : Int)) + ((a : Nat) : Int))), .ref (B + 155)]) (sc_l rfl rfl) ?_
            refine w_aload_n dX11_laysOne_190 rfl 2 rfl ?_
            refine w_get (i := 27) (T := TX11) (NF := 32) 141 (by first | omega | with_reducible rfl) hm_72 rfl (fun _ h => (List.mem_cons_of_mem _ (List.mem_append_right _ h))) (by decide) (List.mem_of_getElem? (i := 3) rfl) rfl dX11_laysOne_191 ?_
            refine w_iload dX11_laysOne_194 6 rfl ?_
            refine w_lald 155 (by first | omega | with_reducible rfl) hsh_77 (by first | omega | with_reducible rfl) dX11_laysOne_196 ?_
            refine w_as (st' := [.long (zJ (stN (mf c 3 j a) x)), .long (zJ (mf c 3 j a x)), .int (zI ((61 * ((j : Nat) : Int)) + ((a : Nat) : Int))), .ref (B + 155)]) (sc_l (uZ_same _ _ _) rfl) ?_
            refine w_lcmp_ge 214 dX11_laysOne_197 dX11_laysOne_198 (by decide) (by first | omega | with_reducible rfl) (by first | omega | with_reducible rfl) (fun c_197 => ?_) (fun c_197 => ?_)
            · refine w_aload_n dX11_laysOne_214 rfl 2 rfl ?_
              refine w_get (i := 27) (T := TX11) (NF := 32) 141 (by first | omega | with_reducible rfl) hm_72 rfl (fun _ h => (List.mem_cons_of_mem _ (List.mem_append_right _ h))) (by decide) (List.mem_of_getElem? (i := 3) rfl) rfl dX11_laysOne_215 ?_
              refine w_iload dX11_laysOne_218 6 rfl ?_
              refine w_lald 155 (by first | omega | with_reducible rfl) hsh_77 (by first | omega | with_reducible rfl) dX11_laysOne_220 ?_
              have hf30 : 0 < mf c 3 j a x := Int.mul_pos (by omega) hpos.1
              refine w_as (st' := [.long (zJ (stN (mf c 3 j a) (x + 1))), .int (zI ((61 * ((j : Nat) : Int)) + ((a : Nat) : Int))), .ref (B + 155)]) (sc_l (by rw [uZ_same, stN, if_pos hf30]; first | exact (if_pos (by omega)).symm | exact (if_neg (by omega)).symm) rfl) ?_
              refine w_last 155 (by first | omega | with_reducible rfl) hsh_77 (by first | omega | with_reducible rfl) dX11_laysOne_221 (fun g_102 he_103 hn_104 => ?_)
              have hm_105 : vM cy B g_102 141 cg le sp va o0 tn aw mw fw ls gs sn sw kr := vM_fr hm_72 (fun q h1 h2 => hn_104 q (by omega))
              have hnow_106 : vIA cy B g_102 142 49 Nw := vIA_fr hnow_73 (fun q h1 h2 => hn_104 q (by omega))
              have hse_107 : vLA cy B g_102 146 169 Sv := vLA_fr hse_74 (fun q h1 h2 => hn_104 q (by omega))
              have hbe_108 : vLA cy B g_102 153 366 (uZ (uZ Be (61 * ((j : Nat) : Int) + ((a : Nat) : Int)) (srN (mf c 1 j a) 0 x)) ((61 * ((j : Nat) : Int)) + ((a : Nat) : Int)) (srN (mf c 1 j a) 0 (x + 1))) := vLA_fr hbe_75 (fun q h1 h2 => hn_104 q (by omega))
              have hlo_109 : vLA cy B g_102 154 366 (uZ (uZ Lo (61 * ((j : Nat) : Int) + ((a : Nat) : Int)) (mxN (mf c 2 j a) 0 x)) ((61 * ((j : Nat) : Int)) + ((a : Nat) : Int)) (mxN (mf c 2 j a) 0 (x + 1))) := vLA_fr hlo_76 (fun q h1 h2 => hn_104 q (by omega))
              have hsh_110 : vLA cy B g_102 155 366 (uZ (uZ Sh (61 * ((j : Nat) : Int) + ((a : Nat) : Int)) (stN (mf c 3 j a) x)) ((61 * ((j : Nat) : Int)) + ((a : Nat) : Int)) (stN (mf c 3 j a) (x + 1))) := he_103
              have hro_111 : vIA cy B g_102 156 366 (uZ Ro (61 * ((j : Nat) : Int) + ((a : Nat) : Int)) (srN (mr c j a) 0 x)) := vIA_fr hro_78 (fun q h1 h2 => hn_104 q (by omega))
              have hfr_112 : ∀ q, (q ≠ 153 ∧ q ≠ 154 ∧ q ≠ 155 ∧ q ≠ 156) → g_102 q = g q := fun q hq => (hn_104 q (by omega)).trans (hfr_79 q hq)
              refine w_aload_n dX11_laysOne_222 rfl 2 rfl ?_
              refine w_get (i := 28) (T := TX11) (NF := 32) 141 (by first | omega | with_reducible rfl) hm_105 rfl (fun _ h => (List.mem_cons_of_mem _ (List.mem_append_right _ h))) (by decide) (List.mem_of_getElem? (i := 4) rfl) rfl dX11_laysOne_223 ?_
              refine w_iload dX11_laysOne_226 6 rfl ?_
              refine w_dup2 dX11_laysOne_228 rfl rfl ?_
              refine w_iald 156 (by first | omega | with_reducible rfl) hro_111 (by first | omega | with_reducible rfl) dX11_laysOne_229 ?_
              refine w_as (st' := [.int (zI (srN (mr c j a) 0 x)), .int (zI ((61 * ((j : Nat) : Int)) + ((a : Nat) : Int))), .ref (B + 156)]) (sc_i (uZ_same _ _ _) rfl) ?_
              refine w_aload_n dX11_laysOne_230 rfl 2 rfl ?_
              refine w_get (i := 28) (T := TX11) (NF := 32) 141 (by first | omega | with_reducible rfl) hm_105 rfl (fun _ h => (List.mem_cons_of_mem _ (List.mem_append_right _ h))) (by decide) (List.mem_of_getElem? (i := 4) rfl) rfl dX11_laysOne_231 ?_
              refine w_iload dX11_laysOne_234 1 rfl ?_
              refine w_iald 156 (by first | omega | with_reducible rfl) hro_111 (by first | omega | with_reducible rfl) dX11_laysOne_236 ?_
              refine w_as (st' := [.int (zI (MB c 4 (j + 1) (a + x))), .int (zI (srN (mr c j a) 0 x)), .int (zI ((61 * ((j : Nat) : Int)) + ((a : Nat) : Int))), .ref (B + 156)]) (sc_i (by rw [uZ_ne (by omega)]; exact hrx.2.2.2) rfl) ?_
              refine w_iadd dX11_laysOne_237 ?_
              refine w_as (st' := [.int (zI (srN (mr c j a) 0 (x + 1))), .int (zI ((61 * ((j : Nat) : Int)) + ((a : Nat) : Int))), .ref (B + 156)]) (sc_i (by rw [srN, Nat.zero_add]; rfl) rfl) ?_
              refine w_iast 156 (by first | omega | with_reducible rfl) hro_111 (by first | omega | with_reducible rfl) dX11_laysOne_238 (fun g_113 he_114 hn_115 => ?_)
              have hm_116 : vM cy B g_113 141 cg le sp va o0 tn aw mw fw ls gs sn sw kr := vM_fr hm_105 (fun q h1 h2 => hn_115 q (by omega))
              have hnow_117 : vIA cy B g_113 142 49 Nw := vIA_fr hnow_106 (fun q h1 h2 => hn_115 q (by omega))
              have hse_118 : vLA cy B g_113 146 169 Sv := vLA_fr hse_107 (fun q h1 h2 => hn_115 q (by omega))
              have hbe_119 : vLA cy B g_113 153 366 (uZ (uZ Be (61 * ((j : Nat) : Int) + ((a : Nat) : Int)) (srN (mf c 1 j a) 0 x)) ((61 * ((j : Nat) : Int)) + ((a : Nat) : Int)) (srN (mf c 1 j a) 0 (x + 1))) := vLA_fr hbe_108 (fun q h1 h2 => hn_115 q (by omega))
              have hlo_120 : vLA cy B g_113 154 366 (uZ (uZ Lo (61 * ((j : Nat) : Int) + ((a : Nat) : Int)) (mxN (mf c 2 j a) 0 x)) ((61 * ((j : Nat) : Int)) + ((a : Nat) : Int)) (mxN (mf c 2 j a) 0 (x + 1))) := vLA_fr hlo_109 (fun q h1 h2 => hn_115 q (by omega))
              have hsh_121 : vLA cy B g_113 155 366 (uZ (uZ Sh (61 * ((j : Nat) : Int) + ((a : Nat) : Int)) (stN (mf c 3 j a) x)) ((61 * ((j : Nat) : Int)) + ((a : Nat) : Int)) (stN (mf c 3 j a) (x + 1))) := vLA_fr hsh_110 (fun q h1 h2 => hn_115 q (by omega))
              have hro_122 : vIA cy B g_113 156 366 (uZ (uZ Ro (61 * ((j : Nat) : Int) + ((a : Nat) : Int)) (srN (mr c j a) 0 x)) ((61 * ((j : Nat) : Int)) + ((a : Nat) : Int)) (srN (mr c j a) 0 (x + 1))) := he_114
              have hfr_123 : ∀ q, (q ≠ 153 ∧ q ≠ 154 ∧ q ≠ 155 ∧ q ≠ 156) → g_113 q = g q := fun q hq => (hn_115 q (by omega)).trans (hfr_112 q hq)
              refine w_iinc 7 [(5, .int (zI (((x : Nat) : Int) + 1))), (7, .long (zJ ((ch (coT c ((j : Nat) : Int)).toNat x : Nat) : Int))), (6, .int (zI (61 * (((j + 1) : Nat) : Int) + (((a + x) : Nat) : Int)))), (0, .ref (B + 141)), (1, .int (zI ((k : Nat) : Int))), (2, .int (zI ((j : Nat) : Int))), (3, .int (zI ((a : Nat) : Int))), (4, .int (zI ((61 * ((j : Nat) : Int)) + ((a : Nat) : Int))))] dX11_laysOne_239 rfl (by decide) rfl ?_
              refine w_goto 43 dX11_laysOne_242 (by decide) ?_
              refine w_sub [(0, .ref (B + 141)), (1, .int (zI ((k : Nat) : Int))), (2, .int (zI ((j : Nat) : Int))), (3, .int (zI ((a : Nat) : Int))), (4, .int (zI ((61 * ((j : Nat) : Int)) + ((a : Nat) : Int)))), (5, .int (zI (((x : Nat) : Int) + 1)))] [3, 4, 5, 6, 7, 0] rfl ?_
              refine w_lv (lv' := [(0, .ref (B + 141)), (1, .int (zI ((k : Nat) : Int))), (2, .int (zI ((j : Nat) : Int))), (3, .int (zI ((a : Nat) : Int))), (4, .int (zI ((61 * ((j : Nat) : Int)) + ((a : Nat) : Int)))), (5, .int (zI (((x + 1) : Nat) : Int)))]) (lc_s (lc_s (lc_s (lc_s (lc_s (lc_i (by first | omega | with_reducible rfl) rfl)))))) ?_
              exact ih_43 (x + 1) g_113 ⟨hm_116, hnow_117, hse_118, (by have h9 := hbe_119; simp only [uZ_uZ] at h9; exact h9), (by have h9 := hlo_120; simp only [uZ_uZ] at h9; exact h9), (by have h9 := hsh_121; simp only [uZ_uZ] at h9; exact h9), (by have h9 := hro_122; simp only [uZ_uZ] at h9; exact h9), hfr_123, (by first | omega | with_reducible rfl)⟩ (by first | omega | with_reducible rfl)
            · refine w_lload dX11_laysOne_201 0 rfl ?_
              refine w_aload_n dX11_laysOne_203 rfl 2 rfl ?_
              refine w_get (i := 27) (T := TX11) (NF := 32) 141 (by first | omega | with_reducible rfl) hm_72 rfl (fun _ h => (List.mem_cons_of_mem _ (List.mem_append_right _ h))) (by decide) (List.mem_of_getElem? (i := 3) rfl) rfl dX11_laysOne_204 ?_
              refine w_iload dX11_laysOne_207 1 rfl ?_
              refine w_lald 155 (by first | omega | with_reducible rfl) hsh_77 (by first | omega | with_reducible rfl) dX11_laysOne_209 ?_
              refine w_as (st' := [.long (zJ (MB c 3 (j + 1) (a + x))), .long (zJ ((ch (coT c ((j : Nat) : Int)).toNat x : Nat) : Int)), .int (zI ((61 * ((j : Nat) : Int)) + ((a : Nat) : Int))), .ref (B + 155)]) (sc_l (by rw [uZ_ne (by omega)]; exact hrx.2.2.1) rfl) ?_
              refine w_lmul dX11_laysOne_210 ?_
              refine w_as (st' := [.long (zJ (mf c 3 j a x)), .int (zI ((61 * ((j : Nat) : Int)) + ((a : Nat) : Int))), .ref (B + 155)]) (sc_l rfl rfl) ?_
              refine w_goto 221 dX11_laysOne_211 (by decide) ?_
              have hf30 : 0 < mf c 3 j a x := Int.mul_pos (by omega) hpos.1
              refine w_as (st' := [.long (zJ (stN (mf c 3 j a) (x + 1))), .int (zI ((61 * ((j : Nat) : Int)) + ((a : Nat) : Int))), .ref (B + 155)]) (sc_l (by rw [stN, if_pos hf30]; first | exact (if_pos (by omega)).symm | exact (if_neg (by omega)).symm) rfl) ?_
              refine w_last 155 (by first | omega | with_reducible rfl) hsh_77 (by first | omega | with_reducible rfl) dX11_laysOne_221 (fun g_124 he_125 hn_126 => ?_)
              have hm_127 : vM cy B g_124 141 cg le sp va o0 tn aw mw fw ls gs sn sw kr := vM_fr hm_72 (fun q h1 h2 => hn_126 q (by omega))
              have hnow_128 : vIA cy B g_124 142 49 Nw := vIA_fr hnow_73 (fun q h1 h2 => hn_126 q (by omega))
              have hse_129 : vLA cy B g_124 146 169 Sv := vLA_fr hse_74 (fun q h1 h2 => hn_126 q (by omega))
              have hbe_130 : vLA cy B g_124 153 366 (uZ (uZ Be (61 * ((j : Nat) : Int) + ((a : Nat) : Int)) (srN (mf c 1 j a) 0 x)) ((61 * ((j : Nat) : Int)) + ((a : Nat) : Int)) (srN (mf c 1 j a) 0 (x + 1))) := vLA_fr hbe_75 (fun q h1 h2 => hn_126 q (by omega))
              have hlo_131 : vLA cy B g_124 154 366 (uZ (uZ Lo (61 * ((j : Nat) : Int) + ((a : Nat) : Int)) (mxN (mf c 2 j a) 0 x)) ((61 * ((j : Nat) : Int)) + ((a : Nat) : Int)) (mxN (mf c 2 j a) 0 (x + 1))) := vLA_fr hlo_76 (fun q h1 h2 => hn_126 q (by omega))
              have hsh_132 : vLA cy B g_124 155 366 (uZ (uZ Sh (61 * ((j : Nat) : Int) + ((a : Nat) : Int)) (stN (mf c 3 j a) x)) ((61 * ((j : Nat) : Int)) + ((a : Nat) : Int)) (stN (mf c 3 j a) (x + 1))) := he_125
              have hro_133 : vIA cy B g_124 156 366 (uZ Ro (61 * ((j : Nat) : Int) + ((a : Nat) : Int)) (srN (mr c j a) 0 x)) := vIA_fr hro_78 (fun q h1 h2 => hn_126 q (by omega))
              have hfr_134 : ∀ q, (q ≠ 153 ∧ q ≠ 154 ∧ q ≠ 155 ∧ q ≠ 156) → g_124 q = g q := fun q hq => (hn_126 q (by omega)).trans (hfr_79 q hq)
              refine w_aload_n dX11_laysOne_222 rfl 2 rfl ?_
              refine w_get (i := 28) (T := TX11) (NF := 32) 141 (by first | omega | with_reducible rfl) hm_127 rfl (fun _ h => (List.mem_cons_of_mem _ (List.mem_append_right _ h))) (by decide) (List.mem_of_getElem? (i := 4) rfl) rfl dX11_laysOne_223 ?_
              refine w_iload dX11_laysOne_226 6 rfl ?_
              refine w_dup2 dX11_laysOne_228 rfl rfl ?_
              refine w_iald 156 (by first | omega | with_reducible rfl) hro_133 (by first | omega | with_reducible rfl) dX11_laysOne_229 ?_
              refine w_as (st' := [.int (zI (srN (mr c j a) 0 x)), .int (zI ((61 * ((j : Nat) : Int)) + ((a : Nat) : Int))), .ref (B + 156)]) (sc_i (uZ_same _ _ _) rfl) ?_
              refine w_aload_n dX11_laysOne_230 rfl 2 rfl ?_
              refine w_get (i := 28) (T := TX11) (NF := 32) 141 (by first | omega | with_reducible rfl) hm_127 rfl (fun _ h => (List.mem_cons_of_mem _ (List.mem_append_right _ h))) (by decide) (List.mem_of_getElem? (i := 4) rfl) rfl dX11_laysOne_231 ?_
              refine w_iload dX11_laysOne_234 1 rfl ?_
              refine w_iald 156 (by first | omega | with_reducible rfl) hro_133 (by first | omega | with_reducible rfl) dX11_laysOne_236 ?_
              refine w_as (st' := [.int (zI (MB c 4 (j + 1) (a + x))), .int (zI (srN (mr c j a) 0 x)), .int (zI ((61 * ((j : Nat) : Int)) + ((a : Nat) : Int))), .ref (B + 156)]) (sc_i (by rw [uZ_ne (by omega)]; exact hrx.2.2.2) rfl) ?_
              refine w_iadd dX11_laysOne_237 ?_
              refine w_as (st' := [.int (zI (srN (mr c j a) 0 (x + 1))), .int (zI ((61 * ((j : Nat) : Int)) + ((a : Nat) : Int))), .ref (B + 156)]) (sc_i (by rw [srN, Nat.zero_add]; rfl) rfl) ?_
              refine w_iast 156 (by first | omega | with_reducible rfl) hro_133 (by first | omega | with_reducible rfl) dX11_laysOne_238 (fun g_135 he_136 hn_137 => ?_)
              have hm_138 : vM cy B g_135 141 cg le sp va o0 tn aw mw fw ls gs sn sw kr := vM_fr hm_127 (fun q h1 h2 => hn_137 q (by omega))
              have hnow_139 : vIA cy B g_135 142 49 Nw := vIA_fr hnow_128 (fun q h1 h2 => hn_137 q (by omega))
              have hse_140 : vLA cy B g_135 146 169 Sv := vLA_fr hse_129 (fun q h1 h2 => hn_137 q (by omega))
              have hbe_141 : vLA cy B g_135 153 366 (uZ (uZ Be (61 * ((j : Nat) : Int) + ((a : Nat) : Int)) (srN (mf c 1 j a) 0 x)) ((61 * ((j : Nat) : Int)) + ((a : Nat) : Int)) (srN (mf c 1 j a) 0 (x + 1))) := vLA_fr hbe_130 (fun q h1 h2 => hn_137 q (by omega))
              have hlo_142 : vLA cy B g_135 154 366 (uZ (uZ Lo (61 * ((j : Nat) : Int) + ((a : Nat) : Int)) (mxN (mf c 2 j a) 0 x)) ((61 * ((j : Nat) : Int)) + ((a : Nat) : Int)) (mxN (mf c 2 j a) 0 (x + 1))) := vLA_fr hlo_131 (fun q h1 h2 => hn_137 q (by omega))
              have hsh_143 : vLA cy B g_135 155 366 (uZ (uZ Sh (61 * ((j : Nat) : Int) + ((a : Nat) : Int)) (stN (mf c 3 j a) x)) ((61 * ((j : Nat) : Int)) + ((a : Nat) : Int)) (stN (mf c 3 j a) (x + 1))) := vLA_fr hsh_132 (fun q h1 h2 => hn_137 q (by omega))
              have hro_144 : vIA cy B g_135 156 366 (uZ (uZ Ro (61 * ((j : Nat) : Int) + ((a : Nat) : Int)) (srN (mr c j a) 0 x)) ((61 * ((j : Nat) : Int)) + ((a : Nat) : Int)) (srN (mr c j a) 0 (x + 1))) := he_136
              have hfr_145 : ∀ q, (q ≠ 153 ∧ q ≠ 154 ∧ q ≠ 155 ∧ q ≠ 156) → g_135 q = g q := fun q hq => (hn_137 q (by omega)).trans (hfr_134 q hq)
              refine w_iinc 7 [(5, .int (zI (((x : Nat) : Int) + 1))), (7, .long (zJ ((ch (coT c ((j : Nat) : Int)).toNat x : Nat) : Int))), (6, .int (zI (61 * (((j + 1) : Nat) : Int) + (((a + x) : Nat) : Int)))), (0, .ref (B + 141)), (1, .int (zI ((k : Nat) : Int))), (2, .int (zI ((j : Nat) : Int))), (3, .int (zI ((a : Nat) : Int))), (4, .int (zI ((61 * ((j : Nat) : Int)) + ((a : Nat) : Int))))] dX11_laysOne_239 rfl (by decide) rfl ?_
              refine w_goto 43 dX11_laysOne_242 (by decide) ?_
              refine w_sub [(0, .ref (B + 141)), (1, .int (zI ((k : Nat) : Int))), (2, .int (zI ((j : Nat) : Int))), (3, .int (zI ((a : Nat) : Int))), (4, .int (zI ((61 * ((j : Nat) : Int)) + ((a : Nat) : Int)))), (5, .int (zI (((x : Nat) : Int) + 1)))] [3, 4, 5, 6, 7, 0] rfl ?_
              refine w_lv (lv' := [(0, .ref (B + 141)), (1, .int (zI ((k : Nat) : Int))), (2, .int (zI ((j : Nat) : Int))), (3, .int (zI ((a : Nat) : Int))), (4, .int (zI ((61 * ((j : Nat) : Int)) + ((a : Nat) : Int)))), (5, .int (zI (((x + 1) : Nat) : Int)))]) (lc_s (lc_s (lc_s (lc_s (lc_s (lc_i (by first | omega | with_reducible rfl) rfl)))))) ?_
              exact ih_43 (x + 1) g_135 ⟨hm_138, hnow_139, hse_140, (by have h9 := hbe_141; simp only [uZ_uZ] at h9; exact h9), (by have h9 := hlo_142; simp only [uZ_uZ] at h9; exact h9), (by have h9 := hsh_143; simp only [uZ_uZ] at h9; exact h9), (by have h9 := hro_144; simp only [uZ_uZ] at h9; exact h9), hfr_145, (by first | omega | with_reducible rfl)⟩ (by first | omega | with_reducible rfl)
        · refine w_lload dX11_laysOne_141 0 rfl ?_
          refine w_aload_n dX11_laysOne_143 rfl 2 rfl ?_
          refine w_get (i := 26) (T := TX11) (NF := 32) 141 (by first | omega | with_reducible rfl) hm_61 rfl (fun _ h => (List.mem_cons_of_mem _ (List.mem_append_right _ h))) (by decide) (List.mem_of_getElem? (i := 2) rfl) rfl dX11_laysOne_144 ?_
          refine w_iload dX11_laysOne_147 1 rfl ?_
          refine w_lald 154 (by first | omega | with_reducible rfl) hlo_65 (by first | omega | with_reducible rfl) dX11_laysOne_149 ?_
          refine w_as (st' := [.long (zJ (MB c 2 (j + 1) (a + x))), .long (zJ ((ch (coT c ((j : Nat) : Int)).toNat x : Nat) : Int)), .int (zI ((61 * ((j : Nat) : Int)) + ((a : Nat) : Int))), .ref (B + 154)]) (sc_l (by rw [uZ_ne (by omega)]; exact hrx.2.1) rfl) ?_
          refine w_lmul dX11_laysOne_150 ?_
          refine w_as (st' := [.long (zJ (mf c 2 j a x)), .int (zI ((61 * ((j : Nat) : Int)) + ((a : Nat) : Int))), .ref (B + 154)]) (sc_l rfl rfl) ?_
          refine w_goto 161 dX11_laysOne_151 (by decide) ?_
          refine w_as (st' := [.long (zJ (mxN (mf c 2 j a) 0 (x + 1))), .int (zI ((61 * ((j : Nat) : Int)) + ((a : Nat) : Int))), .ref (B + 154)]) (sc_l (by rw [mxN, Nat.zero_add]; omega) rfl) ?_
          refine w_last 154 (by first | omega | with_reducible rfl) hlo_65 (by first | omega | with_reducible rfl) dX11_laysOne_161 (fun g_146 he_147 hn_148 => ?_)
          have hm_149 : vM cy B g_146 141 cg le sp va o0 tn aw mw fw ls gs sn sw kr := vM_fr hm_61 (fun q h1 h2 => hn_148 q (by omega))
          have hnow_150 : vIA cy B g_146 142 49 Nw := vIA_fr hnow_62 (fun q h1 h2 => hn_148 q (by omega))
          have hse_151 : vLA cy B g_146 146 169 Sv := vLA_fr hse_63 (fun q h1 h2 => hn_148 q (by omega))
          have hbe_152 : vLA cy B g_146 153 366 (uZ (uZ Be (61 * ((j : Nat) : Int) + ((a : Nat) : Int)) (srN (mf c 1 j a) 0 x)) ((61 * ((j : Nat) : Int)) + ((a : Nat) : Int)) (srN (mf c 1 j a) 0 (x + 1))) := vLA_fr hbe_64 (fun q h1 h2 => hn_148 q (by omega))
          have hlo_153 : vLA cy B g_146 154 366 (uZ (uZ Lo (61 * ((j : Nat) : Int) + ((a : Nat) : Int)) (mxN (mf c 2 j a) 0 x)) ((61 * ((j : Nat) : Int)) + ((a : Nat) : Int)) (mxN (mf c 2 j a) 0 (x + 1))) := he_147
          have hsh_154 : vLA cy B g_146 155 366 (uZ Sh (61 * ((j : Nat) : Int) + ((a : Nat) : Int)) (stN (mf c 3 j a) x)) := vLA_fr hsh_66 (fun q h1 h2 => hn_148 q (by omega))
          have hro_155 : vIA cy B g_146 156 366 (uZ Ro (61 * ((j : Nat) : Int) + ((a : Nat) : Int)) (srN (mr c j a) 0 x)) := vIA_fr hro_67 (fun q h1 h2 => hn_148 q (by omega))
          have hfr_156 : ∀ q, (q ≠ 153 ∧ q ≠ 154 ∧ q ≠ 155 ∧ q ≠ 156) → g_146 q = g q := fun q hq => (hn_148 q (by omega)).trans (hfr_68 q hq)
          refine w_aload_n dX11_laysOne_162 rfl 2 rfl ?_
          refine w_get (i := 27) (T := TX11) (NF := 32) 141 (by first | omega | with_reducible rfl) hm_149 rfl (fun _ h => (List.mem_cons_of_mem _ (List.mem_append_right _ h))) (by decide) (List.mem_of_getElem? (i := 3) rfl) rfl dX11_laysOne_163 ?_
          refine w_iload dX11_laysOne_166 6 rfl ?_
          refine w_aload_n dX11_laysOne_168 rfl 2 rfl ?_
          refine w_get (i := 27) (T := TX11) (NF := 32) 141 (by first | omega | with_reducible rfl) hm_149 rfl (fun _ h => (List.mem_cons_of_mem _ (List.mem_append_right _ h))) (by decide) (List.mem_of_getElem? (i := 3) rfl) rfl dX11_laysOne_169 ?_
          refine w_iload dX11_laysOne_172 6 rfl ?_
          refine w_lald 155 (by first | omega | with_reducible rfl) hsh_154 (by first | omega | with_reducible rfl) dX11_laysOne_174 ?_
          refine w_as (st' := [.long (zJ (stN (mf c 3 j a) x)), .int (zI ((61 * ((j : Nat) : Int)) + ((a : Nat) : Int))), .ref (B + 155)]) (sc_l (uZ_same _ _ _) rfl) ?_
          refine w_lconst0 dX11_laysOne_175 ?_
          refine w_lcmp_eq 201 dX11_laysOne_176 dX11_laysOne_177 (by decide) (by first | omega | with_reducible rfl) (by first | omega | with_reducible rfl) (fun c_176 => ?_) (fun c_176 => ?_)
          · refine w_lload dX11_laysOne_201 0 rfl ?_
            refine w_aload_n dX11_laysOne_203 rfl 2 rfl ?_
            refine w_get (i := 27) (T := TX11) (NF := 32) 141 (by first | omega | with_reducible rfl) hm_149 rfl (fun _ h => (List.mem_cons_of_mem _ (List.mem_append_right _ h))) (by decide) (List.mem_of_getElem? (i := 3) rfl) rfl dX11_laysOne_204 ?_
            refine w_iload dX11_laysOne_207 1 rfl ?_
            refine w_lald 155 (by first | omega | with_reducible rfl) hsh_154 (by first | omega | with_reducible rfl) dX11_laysOne_209 ?_
            refine w_as (st' := [.long (zJ (MB c 3 (j + 1) (a + x))), .long (zJ ((ch (coT c ((j : Nat) : Int)).toNat x : Nat) : Int)), .int (zI ((61 * ((j : Nat) : Int)) + ((a : Nat) : Int))), .ref (B + 155)]) (sc_l (by rw [uZ_ne (by omega)]; exact hrx.2.2.1) rfl) ?_
            refine w_lmul dX11_laysOne_210 ?_
            refine w_as (st' := [.long (zJ (mf c 3 j a x)), .int (zI ((61 * ((j : Nat) : Int)) + ((a : Nat) : Int))), .ref (B + 155)]) (sc_l rfl rfl) ?_
            refine w_goto 221 dX11_laysOne_211 (by decide) ?_
            have hf30 : 0 < mf c 3 j a x := Int.mul_pos (by omega) hpos.1
            refine w_as (st' := [.long (zJ (stN (mf c 3 j a) (x + 1))), .int (zI ((61 * ((j : Nat) : Int)) + ((a : Nat) : Int))), .ref (B + 155)]) (sc_l (by rw [stN, if_pos hf30]; first | exact (if_pos (by omega)).symm | exact (if_neg (by omega)).symm) rfl) ?_
            refine w_last 155 (by first | omega | with_reducible rfl) hsh_154 (by first | omega | with_reducible rfl) dX11_laysOne_221 (fun g_157 he_158 hn_159 => ?_)
            have hm_160 : vM cy B g_157 141 cg le sp va o0 tn aw mw fw ls gs sn sw kr := vM_fr hm_149 (fun q h1 h2 => hn_159 q (by omega))
            have hnow_161 : vIA cy B g_157 142 49 Nw := vIA_fr hnow_150 (fun q h1 h2 => hn_159 q (by omega))
            have hse_162 : vLA cy B g_157 146 169 Sv := vLA_fr hse_151 (fun q h1 h2 => hn_159 q (by omega))
            have hbe_163 : vLA cy B g_157 153 366 (uZ (uZ Be (61 * ((j : Nat) : Int) + ((a : Nat) : Int)) (srN (mf c 1 j a) 0 x)) ((61 * ((j : Nat) : Int)) + ((a : Nat) : Int)) (srN (mf c 1 j a) 0 (x + 1))) := vLA_fr hbe_152 (fun q h1 h2 => hn_159 q (by omega))
            have hlo_164 : vLA cy B g_157 154 366 (uZ (uZ Lo (61 * ((j : Nat) : Int) + ((a : Nat) : Int)) (mxN (mf c 2 j a) 0 x)) ((61 * ((j : Nat) : Int)) + ((a : Nat) : Int)) (mxN (mf c 2 j a) 0 (x + 1))) := vLA_fr hlo_153 (fun q h1 h2 => hn_159 q (by omega))
            have hsh_165 : vLA cy B g_157 155 366 (uZ (uZ Sh (61 * ((j : Nat) : Int) + ((a : Nat) : Int)) (stN (mf c 3 j a) x)) ((61 * ((j : Nat) : Int)) + ((a : Nat) : Int)) (stN (mf c 3 j a) (x + 1))) := he_158
            have hro_166 : vIA cy B g_157 156 366 (uZ Ro (61 * ((j : Nat) : Int) + ((a : Nat) : Int)) (srN (mr c j a) 0 x)) := vIA_fr hro_155 (fun q h1 h2 => hn_159 q (by omega))
            have hfr_167 : ∀ q, (q ≠ 153 ∧ q ≠ 154 ∧ q ≠ 155 ∧ q ≠ 156) → g_157 q = g q := fun q hq => (hn_159 q (by omega)).trans (hfr_156 q hq)
            refine w_aload_n dX11_laysOne_222 rfl 2 rfl ?_
            refine w_get (i := 28) (T := TX11) (NF := 32) 141 (by first | omega | with_reducible rfl) hm_160 rfl (fun _ h => (List.mem_cons_of_mem _ (List.mem_append_right _ h))) (by decide) (List.mem_of_getElem? (i := 4) rfl) rfl dX11_laysOne_223 ?_
            refine w_iload dX11_laysOne_226 6 rfl ?_
            refine w_dup2 dX11_laysOne_228 rfl rfl ?_
            refine w_iald 156 (by first | omega | with_reducible rfl) hro_166 (by first | omega | with_reducible rfl) dX11_laysOne_229 ?_
            refine w_as (st' := [.int (zI (srN (mr c j a) 0 x)), .int (zI ((61 * ((j : Nat) : Int)) + ((a : Nat) : Int))), .ref (B + 156)]) (sc_i (uZ_same _ _ _) rfl) ?_
            refine w_aload_n dX11_laysOne_230 rfl 2 rfl ?_
            refine w_get (i := 28) (T := TX11) (NF := 32) 141 (by first | omega | with_reducible rfl) hm_160 rfl (fun _ h => (List.mem_cons_of_mem _ (List.mem_append_right _ h))) (by decide) (List.mem_of_getElem? (i := 4) rfl) rfl dX11_laysOne_231 ?_
            refine w_iload dX11_laysOne_234 1 rfl ?_
            refine w_iald 156 (by first | omega | with_reducible rfl) hro_166 (by first | omega | with_reducible rfl) dX11_laysOne_236 ?_
            refine w_as (st' := [.int (zI (MB c 4 (j + 1) (a + x))), .int (zI (srN (mr c j a) 0 x)), .int (zI ((61 * ((j : Nat) : Int)) + ((a : Nat) : Int))), .ref (B + 156)]) (sc_i (by rw [uZ_ne (by omega)]; exact hrx.2.2.2) rfl) ?_
            refine w_iadd dX11_laysOne_237 ?_
            refine w_as (st' := [.int (zI (srN (mr c j a) 0 (x + 1))), .int (zI ((61 * ((j : Nat) : Int)) + ((a : Nat) : Int))), .ref (B + 156)]) (sc_i (by rw [srN, Nat.zero_add]; rfl) rfl) ?_
            refine w_iast 156 (by first | omega | with_reducible rfl) hro_166 (by first | omega | with_reducible rfl) dX11_laysOne_238 (fun g_168 he_169 hn_170 => ?_)
            have hm_171 : vM cy B g_168 141 cg le sp va o0 tn aw mw fw ls gs sn sw kr := vM_fr hm_160 (fun q h1 h2 => hn_170 q (by omega))
            have hnow_172 : vIA cy B g_168 142 49 Nw := vIA_fr hnow_161 (fun q h1 h2 => hn_170 q (by omega))
            have hse_173 : vLA cy B g_168 146 169 Sv := vLA_fr hse_162 (fun q h1 h2 => hn_170 q (by omega))
            have hbe_174 : vLA cy B g_168 153 366 (uZ (uZ Be (61 * ((j : Nat) : Int) + ((a : Nat) : Int)) (srN (mf c 1 j a) 0 x)) ((61 * ((j : Nat) : Int)) + ((a : Nat) : Int)) (srN (mf c 1 j a) 0 (x + 1))) := vLA_fr hbe_163 (fun q h1 h2 => hn_170 q (by omega))
            have hlo_175 : vLA cy B g_168 154 366 (uZ (uZ Lo (61 * ((j : Nat) : Int) + ((a : Nat) : Int)) (mxN (mf c 2 j a) 0 x)) ((61 * ((j : Nat) : Int)) + ((a : Nat) : Int)) (mxN (mf c 2 j a) 0 (x + 1))) := vLA_fr hlo_164 (fun q h1 h2 => hn_170 q (by omega))
            have hsh_176 : vLA cy B g_168 155 366 (uZ (uZ Sh (61 * ((j : Nat) : Int) + ((a : Nat) : Int)) (stN (mf c 3 j a) x)) ((61 * ((j : Nat) : Int)) + ((a : Nat) : Int)) (stN (mf c 3 j a) (x + 1))) := vLA_fr hsh_165 (fun q h1 h2 => hn_170 q (by omega))
            have hro_177 : vIA cy B g_168 156 366 (uZ (uZ Ro (61 * ((j : Nat) : Int) + ((a : Nat) : Int)) (srN (mr c j a) 0 x)) ((61 * ((j : Nat) : Int)) + ((a : Nat) : Int)) (srN (mr c j a) 0 (x + 1))) := he_169
            have hfr_178 : ∀ q, (q ≠ 153 ∧ q ≠ 154 ∧ q ≠ 155 ∧ q ≠ 156) → g_168 q = g q := fun q hq => (hn_170 q (by omega)).trans (hfr_167 q hq)
            refine w_iinc 7 [(5, .int (zI (((x : Nat) : Int) + 1))), (7, .long (zJ ((ch (coT c ((j : Nat) : Int)).toNat x : Nat) : Int))), (6, .int (zI (61 * (((j + 1) : Nat) : Int) + (((a + x) : Nat) : Int)))), (0, .ref (B + 141)), (1, .int (zI ((k : Nat) : Int))), (2, .int (zI ((j : Nat) : Int))), (3, .int (zI ((a : Nat) : Int))), (4, .int (zI ((61 * ((j : Nat) : Int)) + ((a : Nat) : Int))))] dX11_laysOne_239 rfl (by decide) rfl ?_
            refine w_goto 43 dX11_laysOne_242 (by decide) ?_
            refine w_sub [(0, .ref (B + 141)), (1, .int (zI ((k : Nat) : Int))), (2, .int (zI ((j : Nat) : Int))), (3, .int (zI ((a : Nat) : Int))), (4, .int (zI ((61 * ((j : Nat) : Int)) + ((a : Nat) : Int)))), (5, .int (zI (((x : Nat) : Int) + 1)))] [3, 4, 5, 6, 7, 0] rfl ?_
            refine w_lv (lv' := [(0, .ref (B + 141)), (1, .int (zI ((k : Nat) : Int))), (2, .int (zI ((j : Nat) : Int))), (3, .int (zI ((a : Nat) : Int))), (4, .int (zI ((61 * ((j : Nat) : Int)) + ((a : Nat) : Int)))), (5, .int (zI (((x + 1) : Nat) : Int)))]) (lc_s (lc_s (lc_s (lc_s (lc_s (lc_i (by first | omega | with_reducible rfl) rfl)))))) ?_
            exact ih_43 (x + 1) g_168 ⟨hm_171, hnow_172, hse_173, (by have h9 := hbe_174; simp only [uZ_uZ] at h9; exact h9), (by have h9 := hlo_175; simp only [uZ_uZ] at h9; exact h9), (by have h9 := hsh_176; simp only [uZ_uZ] at h9; exact h9), (by have h9 := hro_177; simp only [uZ_uZ] at h9; exact h9), hfr_178, (by first | omega | with_reducible rfl)⟩ (by first | omega | with_reducible rfl)
          · refine w_lload dX11_laysOne_180 0 rfl ?_
            refine w_aload_n dX11_laysOne_182 rfl 2 rfl ?_
            refine w_get (i := 27) (T := TX11) (NF := 32) 141 (by first | omega | with_reducible rfl) hm_149 rfl (fun _ h => (List.mem_cons_of_mem _ (List.mem_append_right _ h))) (by decide) (List.mem_of_getElem? (i := 3) rfl) rfl dX11_laysOne_183 ?_
            refine w_iload dX11_laysOne_186 1 rfl ?_
            refine w_lald 155 (by first | omega | with_reducible rfl) hsh_154 (by first | omega | with_reducible rfl) dX11_laysOne_188 ?_
            refine w_as (st' := [.long (zJ (MB c 3 (j + 1) (a + x))), .long (zJ ((ch (coT c ((j : Nat) : Int)).toNat x : Nat) : Int)), .int (zI ((61 * ((j : Nat) : Int)) + ((a : Nat) : Int))), .ref (B + 155)]) (sc_l (by rw [uZ_ne (by omega)]; exact hrx.2.2.1) rfl) ?_
            refine w_lmul dX11_laysOne_189 ?_
            refine w_as (st' := [.long (zJ (mf c 3 j a x)), .int (zI ((61 * ((j : Nat) : Int)) + ((a : Nat) : Int))), .ref (B + 155)]) (sc_l rfl rfl) ?_
            refine w_aload_n dX11_laysOne_190 rfl 2 rfl ?_
            refine w_get (i := 27) (T := TX11) (NF := 32) 141 (by first | omega | with_reducible rfl) hm_149 rfl (fun _ h => (List.mem_cons_of_mem _ (List.mem_append_right _ h))) (by decide) (List.mem_of_getElem? (i := 3) rfl) rfl dX11_laysOne_191 ?_
            refine w_iload dX11_laysOne_194 6 rfl ?_
            refine w_lald 155 (by first | omega | with_reducible rfl) hsh_154 (by first | omega | with_reducible rfl) dX11_laysOne_196 ?_
            refine w_as (st' := [.long (zJ (stN (mf c 3 j a) x)), .long (zJ (mf c 3 j a x)), .int (zI ((61 * ((j : Nat) : Int)) + ((a : Nat) : Int))), .ref (B + 155)]) (sc_l (uZ_same _ _ _) rfl) ?_
            refine w_lcmp_ge 214 dX11_laysOne_197 dX11_laysOne_198 (by decide) (by first | omega | with_reducible rfl) (by first | omega | with_reducible rfl) (fun c_197 => ?_) (fun c_197 => ?_)
            · refine w_aload_n dX11_laysOne_214 rfl 2 rfl ?_
              refine w_get (i := 27) (T := TX11) (NF := 32) 141 (by first | omega | with_reducible rfl) hm_149 rfl (fun _ h => (List.mem_cons_of_mem _ (List.mem_append_right _ h))) (by decide) (List.mem_of_getElem? (i := 3) rfl) rfl dX11_laysOne_215 ?_
              refine w_iload dX11_laysOne_218 6 rfl ?_
              refine w_lald 155 (by first | omega | with_reducible rfl) hsh_154 (by first | omega | with_reducible rfl) dX11_laysOne_220 ?_
              have hf30 : 0 < mf c 3 j a x := Int.mul_pos (by omega) hpos.1
              refine w_as (st' := [.long (zJ (stN (mf c 3 j a) (x + 1))), .int (zI ((61 * ((j : Nat) : Int)) + ((a : Nat) : Int))), .ref (B + 155)]) (sc_l (by rw [uZ_same, stN, if_pos hf30]; first | exact (if_pos (by omega)).symm | exact (if_neg (by omega)).symm) rfl) ?_
              refine w_last 155 (by first | omega | with_reducible rfl) hsh_154 (by first | omega | with_reducible rfl) dX11_laysOne_221 (fun g_179 he_180 hn_181 => ?_)
              have hm_182 : vM cy B g_179 141 cg le sp va o0 tn aw mw fw ls gs sn sw kr := vM_fr hm_149 (fun q h1 h2 => hn_181 q (by omega))
              have hnow_183 : vIA cy B g_179 142 49 Nw := vIA_fr hnow_150 (fun q h1 h2 => hn_181 q (by omega))
              have hse_184 : vLA cy B g_179 146 169 Sv := vLA_fr hse_151 (fun q h1 h2 => hn_181 q (by omega))
              have hbe_185 : vLA cy B g_179 153 366 (uZ (uZ Be (61 * ((j : Nat) : Int) + ((a : Nat) : Int)) (srN (mf c 1 j a) 0 x)) ((61 * ((j : Nat) : Int)) + ((a : Nat) : Int)) (srN (mf c 1 j a) 0 (x + 1))) := vLA_fr hbe_152 (fun q h1 h2 => hn_181 q (by omega))
              have hlo_186 : vLA cy B g_179 154 366 (uZ (uZ Lo (61 * ((j : Nat) : Int) + ((a : Nat) : Int)) (mxN (mf c 2 j a) 0 x)) ((61 * ((j : Nat) : Int)) + ((a : Nat) : Int)) (mxN (mf c 2 j a) 0 (x + 1))) := vLA_fr hlo_153 (fun q h1 h2 => hn_181 q (by omega))
              have hsh_187 : vLA cy B g_179 155 366 (uZ (uZ Sh (61 * ((j : Nat) : Int) + ((a : Nat) : Int)) (stN (mf c 3 j a) x)) ((61 * ((j : Nat) : Int)) + ((a : Nat) : Int)) (stN (mf c 3 j a) (x + 1))) := he_180
              have hro_188 : vIA cy B g_179 156 366 (uZ Ro (61 * ((j : Nat) : Int) + ((a : Nat) : Int)) (srN (mr c j a) 0 x)) := vIA_fr hro_155 (fun q h1 h2 => hn_181 q (by omega))
              have hfr_189 : ∀ q, (q ≠ 153 ∧ q ≠ 154 ∧ q ≠ 155 ∧ q ≠ 156) → g_179 q = g q := fun q hq => (hn_181 q (by omega)).trans (hfr_156 q hq)
              refine w_aload_n dX11_laysOne_222 rfl 2 rfl ?_
              refine w_get (i := 28) (T := TX11) (NF := 32) 141 (by first | omega | with_reducible rfl) hm_182 rfl (fun _ h => (List.mem_cons_of_mem _ (List.mem_append_right _ h))) (by decide) (List.mem_of_getElem? (i := 4) rfl) rfl dX11_laysOne_223 ?_
              refine w_iload dX11_laysOne_226 6 rfl ?_
              refine w_dup2 dX11_laysOne_228 rfl rfl ?_
              refine w_iald 156 (by first | omega | with_reducible rfl) hro_188 (by first | omega | with_reducible rfl) dX11_laysOne_229 ?_
              refine w_as (st' := [.int (zI (srN (mr c j a) 0 x)), .int (zI ((61 * ((j : Nat) : Int)) + ((a : Nat) : Int))), .ref (B + 156)]) (sc_i (uZ_same _ _ _) rfl) ?_
              refine w_aload_n dX11_laysOne_230 rfl 2 rfl ?_
              refine w_get (i := 28) (T := TX11) (NF := 32) 141 (by first | omega | with_reducible rfl) hm_182 rfl (fun _ h => (List.mem_cons_of_mem _ (List.mem_append_right _ h))) (by decide) (List.mem_of_getElem? (i := 4) rfl) rfl dX11_laysOne_231 ?_
              refine w_iload dX11_laysOne_234 1 rfl ?_
              refine w_iald 156 (by first | omega | with_reducible rfl) hro_188 (by first | omega | with_reducible rfl) dX11_laysOne_236 ?_
              refine w_as (st' := [.int (zI (MB c 4 (j + 1) (a + x))), .int (zI (srN (mr c j a) 0 x)), .int (zI ((61 * ((j : Nat) : Int)) + ((a : Nat) : Int))), .ref (B + 156)]) (sc_i (by rw [uZ_ne (by omega)]; exact hrx.2.2.2) rfl) ?_
              refine w_iadd dX11_laysOne_237 ?_
              refine w_as (st' := [.int (zI (srN (mr c j a) 0 (x + 1))), .int (zI ((61 * ((j : Nat) : Int)) + ((a : Nat) : Int))), .ref (B + 156)]) (sc_i (by rw [srN, Nat.zero_add]; rfl) rfl) ?_
              refine w_iast 156 (by first | omega | with_reducible rfl) hro_188 (by first | omega | with_reducible rfl) dX11_laysOne_238 (fun g_190 he_191 hn_192 => ?_)
              have hm_193 : vM cy B g_190 141 cg le sp va o0 tn aw mw fw ls gs sn sw kr := vM_fr hm_182 (fun q h1 h2 => hn_192 q (by omega))
              have hnow_194 : vIA cy B g_190 142 49 Nw := vIA_fr hnow_183 (fun q h1 h2 => hn_192 q (by omega))
              have hse_195 : vLA cy B g_190 146 169 Sv := vLA_fr hse_184 (fun q h1 h2 => hn_192 q (by omega))
              have hbe_196 : vLA cy B g_190 153 366 (uZ (uZ Be (61 * ((j : Nat) : Int) + ((a : Nat) : Int)) (srN (mf c 1 j a) 0 x)) ((61 * ((j : Nat) : Int)) + ((a : Nat) : Int)) (srN (mf c 1 j a) 0 (x + 1))) := vLA_fr hbe_185 (fun q h1 h2 => hn_192 q (by omega))
              have hlo_197 : vLA cy B g_190 154 366 (uZ (uZ Lo (61 * ((j : Nat) : Int) + ((a : Nat) : Int)) (mxN (mf c 2 j a) 0 x)) ((61 * ((j : Nat) : Int)) + ((a : Nat) : Int)) (mxN (mf c 2 j a) 0 (x + 1))) := vLA_fr hlo_186 (fun q h1 h2 => hn_192 q (by omega))
              have hsh_198 : vLA cy B g_190 155 366 (uZ (uZ Sh (61 * ((j : Nat) : Int) + ((a : Nat) : Int)) (stN (mf c 3 j a) x)) ((61 * ((j : Nat) : Int)) + ((a : Nat) : Int)) (stN (mf c 3 j a) (x + 1))) := vLA_fr hsh_187 (fun q h1 h2 => hn_192 q (by omega))
              have hro_199 : vIA cy B g_190 156 366 (uZ (uZ Ro (61 * ((j : Nat) : Int) + ((a : Nat) : Int)) (srN (mr c j a) 0 x)) ((61 * ((j : Nat) : Int)) + ((a : Nat) : Int)) (srN (mr c j a) 0 (x + 1))) := he_191
              have hfr_200 : ∀ q, (q ≠ 153 ∧ q ≠ 154 ∧ q ≠ 155 ∧ q ≠ 156) → g_190 q = g q := fun q hq => (hn_192 q (by omega)).trans (hfr_189 q hq)
              refine w_iinc 7 [(5, .int (zI (((x : Nat) : Int) + 1))), (7, .long (zJ ((ch (coT c ((j : Nat) : Int)).toNat x : Nat) : Int))), (6, .int (zI (61 * (((j + 1) : Nat) : Int) + (((a + x) : Nat) : Int)))), (0, .ref (B + 141)), (1, .int (zI ((k : Nat) : Int))), (2, .int (zI ((j : Nat) : Int))), (3, .int (zI ((a : Nat) : Int))), (4, .int (zI ((61 * ((j : Nat) : Int)) + ((a : Nat) : Int))))] dX11_laysOne_239 rfl (by decide) rfl ?_
              refine w_goto 43 dX11_laysOne_242 (by decide) ?_
              refine w_sub [(0, .ref (B + 141)), (1, .int (zI ((k : Nat) : Int))), (2, .int (zI ((j : Nat) : Int))), (3, .int (zI ((a : Nat) : Int))), (4, .int (zI ((61 * ((j : Nat) : Int)) + ((a : Nat) : Int)))), (5, .int (zI (((x : Nat) : Int) + 1)))] [3, 4, 5, 6, 7, 0] rfl ?_
              refine w_lv (lv' := [(0, .ref (B + 141)), (1, .int (zI ((k : Nat) : Int))), (2, .int (zI ((j : Nat) : Int))), (3, .int (zI ((a : Nat) : Int))), (4, .int (zI ((61 * ((j : Nat) : Int)) + ((a : Nat) : Int)))), (5, .int (zI (((x + 1) : Nat) : Int)))]) (lc_s (lc_s (lc_s (lc_s (lc_s (lc_i (by first | omega | with_reducible rfl) rfl)))))) ?_
              exact ih_43 (x + 1) g_190 ⟨hm_193, hnow_194, hse_195, (by have h9 := hbe_196; simp only [uZ_uZ] at h9; exact h9), (by have h9 := hlo_197; simp only [uZ_uZ] at h9; exact h9), (by have h9 := hsh_198; simp only [uZ_uZ] at h9; exact h9), (by have h9 := hro_199; simp only [uZ_uZ] at h9; exact h9), hfr_200, (by first | omega | with_reducible rfl)⟩ (by first | omega | with_reducible rfl)
            · refine w_lload dX11_laysOne_201 0 rfl ?_
              refine w_aload_n dX11_laysOne_203 rfl 2 rfl ?_
              refine w_get (i := 27) (T := TX11) (NF := 32) 141 (by first | omega | with_reducible rfl) hm_149 rfl (fun _ h => (List.mem_cons_of_mem _ (List.mem_append_right _ h))) (by decide) (List.mem_of_getElem? (i := 3) rfl) rfl dX11_laysOne_204 ?_
              refine w_iload dX11_laysOne_207 1 rfl ?_
              refine w_lald 155 (by first | omega | with_reducible rfl) hsh_154 (by first | omega | with_reducible rfl) dX11_laysOne_209 ?_
              refine w_as (st' := [.long (zJ (MB c 3 (j + 1) (a + x))), .long (zJ ((ch (coT c ((j : Nat) : Int)).toNat x : Nat) : Int)), .int (zI ((61 * ((j : Nat) : Int)) + ((a : Nat) : Int))), .ref (B + 155)]) (sc_l (by rw [uZ_ne (by omega)]; exact hrx.2.2.1) rfl) ?_
              refine w_lmul dX11_laysOne_210 ?_
              refine w_as (st' := [.long (zJ (mf c 3 j a x)), .int (zI ((61 * ((j : Nat) : Int)) + ((a : Nat) : Int))), .ref (B + 155)]) (sc_l rfl rfl) ?_
              refine w_goto 221 dX11_laysOne_211 (by decide) ?_
              have hf30 : 0 < mf c 3 j a x := Int.mul_pos (by omega) hpos.1
              refine w_as (st' := [.long (zJ (stN (mf c 3 j a) (x + 1))), .int (zI ((61 * ((j : Nat) : Int)) + ((a : Nat) : Int))), .ref (B + 155)]) (sc_l (by rw [stN, if_pos hf30]; first | exact (if_pos (by omega)).symm | exact (if_neg (by omega)).symm) rfl) ?_
              refine w_last 155 (by first | omega | with_reducible rfl) hsh_154 (by first | omega | with_reducible rfl) dX11_laysOne_221 (fun g_201 he_202 hn_203 => ?_)
              have hm_204 : vM cy B g_201 141 cg le sp va o0 tn aw mw fw ls gs sn sw kr := vM_fr hm_149 (fun q h1 h2 => hn_203 q (by omega))
              have hnow_205 : vIA cy B g_201 142 49 Nw := vIA_fr hnow_150 (fun q h1 h2 => hn_203 q (by omega))
              have hse_206 : vLA cy B g_201 146 169 Sv := vLA_fr hse_151 (fun q h1 h2 => hn_203 q (by omega))
              have hbe_207 : vLA cy B g_201 153 366 (uZ (uZ Be (61 * ((j : Nat) : Int) + ((a : Nat) : Int)) (srN (mf c 1 j a) 0 x)) ((61 * ((j : Nat) : Int)) + ((a : Nat) : Int)) (srN (mf c 1 j a) 0 (x + 1))) := vLA_fr hbe_152 (fun q h1 h2 => hn_203 q (by omega))
              have hlo_208 : vLA cy B g_201 154 366 (uZ (uZ Lo (61 * ((j : Nat) : Int) + ((a : Nat) : Int)) (mxN (mf c 2 j a) 0 x)) ((61 * ((j : Nat) : Int)) + ((a : Nat) : Int)) (mxN (mf c 2 j a) 0 (x + 1))) := vLA_fr hlo_153 (fun q h1 h2 => hn_203 q (by omega))
              have hsh_209 : vLA cy B g_201 155 366 (uZ (uZ Sh (61 * ((j : Nat) : Int) + ((a : Nat) : Int)) (stN (mf c 3 j a) x)) ((61 * ((j : Nat) : Int)) + ((a : Nat) : Int)) (stN (mf c 3 j a) (x + 1))) := he_202
              have hro_210 : vIA cy B g_201 156 366 (uZ Ro (61 * ((j : Nat) : Int) + ((a : Nat) : Int)) (srN (mr c j a) 0 x)) := vIA_fr hro_155 (fun q h1 h2 => hn_203 q (by omega))
              have hfr_211 : ∀ q, (q ≠ 153 ∧ q ≠ 154 ∧ q ≠ 155 ∧ q ≠ 156) → g_201 q = g q := fun q hq => (hn_203 q (by omega)).trans (hfr_156 q hq)
              refine w_aload_n dX11_laysOne_222 rfl 2 rfl ?_
              refine w_get (i := 28) (T := TX11) (NF := 32) 141 (by first | omega | with_reducible rfl) hm_204 rfl (fun _ h => (List.mem_cons_of_mem _ (List.mem_append_right _ h))) (by decide) (List.mem_of_getElem? (i := 4) rfl) rfl dX11_laysOne_223 ?_
              refine w_iload dX11_laysOne_226 6 rfl ?_
              refine w_dup2 dX11_laysOne_228 rfl rfl ?_
              refine w_iald 156 (by first | omega | with_reducible rfl) hro_210 (by first | omega | with_reducible rfl) dX11_laysOne_229 ?_
              refine w_as (st' := [.int (zI (srN (mr c j a) 0 x)), .int (zI ((61 * ((j : Nat) : Int)) + ((a : Nat) : Int))), .ref (B + 156)]) (sc_i (uZ_same _ _ _) rfl) ?_
              refine w_aload_n dX11_laysOne_230 rfl 2 rfl ?_
              refine w_get (i := 28) (T := TX11) (NF := 32) 141 (by first | omega | with_reducible rfl) hm_204 rfl (fun _ h => (List.mem_cons_of_mem _ (List.mem_append_right _ h))) (by decide) (List.mem_of_getElem? (i := 4) rfl) rfl dX11_laysOne_231 ?_
              refine w_iload dX11_laysOne_234 1 rfl ?_
              refine w_iald 156 (by first | omega | with_reducible rfl) hro_210 (by first | omega | with_reducible rfl) dX11_laysOne_236 ?_
              refine w_as (st' := [.int (zI (MB c 4 (j + 1) (a + x))), .int (zI (srN (mr c j a) 0 x)), .int (zI ((61 * ((j : Nat) : Int)) + ((a : Nat) : Int))), .ref (B + 156)]) (sc_i (by rw [uZ_ne (by omega)]; exact hrx.2.2.2) rfl) ?_
              refine w_iadd dX11_laysOne_237 ?_
              refine w_as (st' := [.int (zI (srN (mr c j a) 0 (x + 1))), .int (zI ((61 * ((j : Nat) : Int)) + ((a : Nat) : Int))), .ref (B + 156)]) (sc_i (by rw [srN, Nat.zero_add]; rfl) rfl) ?_
              refine w_iast 156 (by first | omega | with_reducible rfl) hro_210 (by first | omega | with_reducible rfl) dX11_laysOne_238 (fun g_212 he_213 hn_214 => ?_)
              have hm_215 : vM cy B g_212 141 cg le sp va o0 tn aw mw fw ls gs sn sw kr := vM_fr hm_204 (fun q h1 h2 => hn_214 q (by omega))
              have hnow_216 : vIA cy B g_212 142 49 Nw := vIA_fr hnow_205 (fun q h1 h2 => hn_214 q (by omega))
              have hse_217 : vLA cy B g_212 146 169 Sv := vLA_fr hse_206 (fun q h1 h2 => hn_214 q (by omega))
              have hbe_218 : vLA cy B g_212 153 366 (uZ (uZ Be (61 * ((j : Nat) : Int) + ((a : Nat) : Int)) (srN (mf c 1 j a) 0 x)) ((61 * ((j : Nat) : Int)) + ((a : Nat) : Int)) (srN (mf c 1 j a) 0 (x + 1))) := vLA_fr hbe_207 (fun q h1 h2 => hn_214 q (by omega))
              have hlo_219 : vLA cy B g_212 154 366 (uZ (uZ Lo (61 * ((j : Nat) : Int) + ((a : Nat) : Int)) (mxN (mf c 2 j a) 0 x)) ((61 * ((j : Nat) : Int)) + ((a : Nat) : Int)) (mxN (mf c 2 j a) 0 (x + 1))) := vLA_fr hlo_208 (fun q h1 h2 => hn_214 q (by omega))
              have hsh_220 : vLA cy B g_212 155 366 (uZ (uZ Sh (61 * ((j : Nat) : Int) + ((a : Nat) : Int)) (stN (mf c 3 j a) x)) ((61 * ((j : Nat) : Int)) + ((a : Nat) : Int)) (stN (mf c 3 j a) (x + 1))) := vLA_fr hsh_209 (fun q h1 h2 => hn_214 q (by omega))
              have hro_221 : vIA cy B g_212 156 366 (uZ (uZ Ro (61 * ((j : Nat) : Int) + ((a : Nat) : Int)) (srN (mr c j a) 0 x)) ((61 * ((j : Nat) : Int)) + ((a : Nat) : Int)) (srN (mr c j a) 0 (x + 1))) := he_213
              have hfr_222 : ∀ q, (q ≠ 153 ∧ q ≠ 154 ∧ q ≠ 155 ∧ q ≠ 156) → g_212 q = g q := fun q hq => (hn_214 q (by omega)).trans (hfr_211 q hq)
              refine w_iinc 7 [(5, .int (zI (((x : Nat) : Int) + 1))), (7, .long (zJ ((ch (coT c ((j : Nat) : Int)).toNat x : Nat) : Int))), (6, .int (zI (61 * (((j + 1) : Nat) : Int) + (((a + x) : Nat) : Int)))), (0, .ref (B + 141)), (1, .int (zI ((k : Nat) : Int))), (2, .int (zI ((j : Nat) : Int))), (3, .int (zI ((a : Nat) : Int))), (4, .int (zI ((61 * ((j : Nat) : Int)) + ((a : Nat) : Int))))] dX11_laysOne_239 rfl (by decide) rfl ?_
              refine w_goto 43 dX11_laysOne_242 (by decide) ?_
              refine w_sub [(0, .ref (B + 141)), (1, .int (zI ((k : Nat) : Int))), (2, .int (zI ((j : Nat) : Int))), (3, .int (zI ((a : Nat) : Int))), (4, .int (zI ((61 * ((j : Nat) : Int)) + ((a : Nat) : Int)))), (5, .int (zI (((x : Nat) : Int) + 1)))] [3, 4, 5, 6, 7, 0] rfl ?_
              refine w_lv (lv' := [(0, .ref (B + 141)), (1, .int (zI ((k : Nat) : Int))), (2, .int (zI ((j : Nat) : Int))), (3, .int (zI ((a : Nat) : Int))), (4, .int (zI ((61 * ((j : Nat) : Int)) + ((a : Nat) : Int)))), (5, .int (zI (((x + 1) : Nat) : Int)))]) (lc_s (lc_s (lc_s (lc_s (lc_s (lc_i (by first | omega | with_reducible rfl) rfl)))))) ?_
              exact ih_43 (x + 1) g_212 ⟨hm_215, hnow_216, hse_217, (by have h9 := hbe_218; simp only [uZ_uZ] at h9; exact h9), (by have h9 := hlo_219; simp only [uZ_uZ] at h9; exact h9), (by have h9 := hsh_220; simp only [uZ_uZ] at h9; exact h9), (by have h9 := hro_221; simp only [uZ_uZ] at h9; exact h9), hfr_222, (by first | omega | with_reducible rfl)⟩ (by first | omega | with_reducible rfl)

set_option maxHeartbeats 4000000 in
set_option maxRecDepth 100000 in
theorem c_X11_laysBehind {l : Launch} {D : va_G} {cy : Nat → ClassId} {B N : Nat} {g : Nat → va_E} {cg le sp va o0 tn aw mw fw ls gs sn sw kr : Int} {Nw Sv : Int → Int} {Be Lo Sh Ro : Int → Int} {k : Nat} {c : List Co} (hm : vM cy B g 141 cg le sp va o0 tn aw mw fw ls gs sn sw kr) (hnow : vIA cy B g 142 49 Nw) (hse : vLA cy B g 146 169 Sv) (hbe : vLA cy B g 153 366 Be) (hlo : vLA cy B g 154 366 Lo) (hsh : vLA cy B g 155 366 Sh) (hro : vIA cy B g 156 366 Ro) (hN : 160 ≤ N) (hmc : MC Nw k c) (hc : cok c) (hSv : SvOK Sv) : CTv l yX11_laysBehind wsX11_laysBehind (rmo 4 96) D cy B N g [.ref (B + 141), .int (zI ((k : Nat) : Int))] (fun g' => ∃ Be1 : Int → Int, ∃ Lo1 : Int → Int, ∃ Sh1 : Int → Int, ∃ Ro1 : Int → Int, vLA cy B g' 153 366 Be1 ∧ vLA cy B g' 154 366 Lo1 ∧ vLA cy B g' 155 366 Sh1 ∧ vIA cy B g' 156 366 Ro1 ∧ (NBm c Be1 Lo1 Sh1 Ro1 0) ∧ (∀ q, (q ≠ 153 ∧ q ≠ 154 ∧ q ≠ 155 ∧ q ≠ 156) → g' q = g q)) := by
  refine WW_of (cc := cX11_laysBehind) (maxL := 6) (ret := none) (own := RX11) (by decide) rfl rfl (Nat.le_of_ble_eq_true rfl) rfl ?_
  intro pp ee ss mm bl me co hmn
  have hfr_0 : ∀ q, (q ≠ 153 ∧ q ≠ 154 ∧ q ≠ 155 ∧ q ≠ 156) → g q = g q := fun _ _ => rfl
  have hk3 := hmc.1
  have hcoL := coL_S hc
  refine w_aload_n dX11_laysBehind_0 rfl 0 rfl ?_
  refine w_iload_n dX11_laysBehind_1 rfl 1 rfl ?_
  refine w_calli (As := [.int (zI ((k : Nat) : Int))]) (rest := []) (n := 1) (c_X11_columns (k := k) hm hnow (by first | omega | with_reducible rfl) (by first | omega | with_reducible rfl)) gX11_laysBehind_X11_columns rfl rfl rfl (by decide +kernel) ⟨Nat.le_of_ble_eq_true rfl, Nat.le_of_ble_eq_true rfl⟩ rfl (by first | omega | with_reducible rfl) hm rfl (Nat.le_of_ble_eq_true rfl) ⟨Nat.zero_le _, Nat.zero_le _⟩ dX11_laysBehind_2 rfl (fun g_1 hp_2 => ?_)
  subst g_1
  refine w_istore_n [(2, .int (zI ((c.length : Nat) : Int))), (0, .ref (B + 141)), (1, .int (zI ((k : Nat) : Int)))] dX11_laysBehind_5 rfl (by decide) rfl ?_
  refine w_aload_n dX11_laysBehind_6 rfl 1 rfl ?_
  refine w_iload_n dX11_laysBehind_7 rfl 2 rfl ?_
  refine w_iconst dX11_laysBehind_8 ?_
  refine w_calli (As := [.int (zI ((k : Nat) : Int)), .int (zI 1)]) (rest := []) (n := 2) (c_X11_total1 (k := k) hm hnow (by first | omega | with_reducible rfl) (by first | omega | with_reducible rfl)) gX11_laysBehind_X11_total rfl rfl rfl (by decide +kernel) ⟨Nat.le_of_ble_eq_true rfl, Nat.le_of_ble_eq_true rfl⟩ rfl (by first | omega | with_reducible rfl) hm rfl (Nat.le_of_ble_eq_true rfl) ⟨Nat.zero_le _, Nat.zero_le _⟩ dX11_laysBehind_9 rfl (fun g_3 hp_4 => ?_)
  subst g_3
  refine w_as (st' := [.int (zI ((coR c : Nat) : Int))]) (sc_i (coR_z hc) rfl) ?_
  refine w_istore_n [(3, .int (zI ((coR c : Nat) : Int))), (2, .int (zI ((c.length : Nat) : Int))), (0, .ref (B + 141)), (1, .int (zI ((k : Nat) : Int)))] dX11_laysBehind_12 rfl (by decide) rfl ?_
  refine w_iconst dX11_laysBehind_13 ?_
  refine w_istore [(4, .int (zI 0)), (3, .int (zI ((coR c : Nat) : Int))), (2, .int (zI ((c.length : Nat) : Int))), (0, .ref (B + 141)), (1, .int (zI ((k : Nat) : Int)))] dX11_laysBehind_14 (by decide) rfl ?_
  refine w_sub [(0, .ref (B + 141)), (1, .int (zI ((k : Nat) : Int))), (2, .int (zI ((c.length : Nat) : Int))), (3, .int (zI ((coR c : Nat) : Int))), (4, .int (zI 0))] [3, 4, 2, 1, 0] rfl ?_
  refine w_lv (lv' := [(0, .ref (B + 141)), (1, .int (zI ((k : Nat) : Int))), (2, .int (zI ((c.length : Nat) : Int))), (3, .int (zI ((coR c : Nat) : Int))), (4, .int (zI ((0 : Nat) : Int)))]) (lc_s (lc_s (lc_s (lc_s (lc_i (by first | omega | with_reducible rfl) rfl))))) ?_
  refine w_loop6 (fun (a : Nat) (Bea : Int → Int) (Loa : Int → Int) (Sha : Int → Int) (Roa : Int → Int) (gl_5 : (Nat → va_E)) => vM cy B gl_5 141 cg le sp va o0 tn aw mw fw ls gs sn sw kr ∧ vIA cy B gl_5 142 49 Nw ∧ vLA cy B gl_5 146 169 Sv ∧ vLA cy B gl_5 153 366 Bea ∧ vLA cy B gl_5 154 366 Loa ∧ vLA cy B gl_5 155 366 Sha ∧ vIA cy B gl_5 156 366 Roa ∧ (∀ q, (q ≠ 153 ∧ q ≠ 154 ∧ q ≠ 155 ∧ q ≠ 156) → gl_5 q = g q) ∧ a ≤ 61 ∧ NBr2 c Bea Loa Sha Roa c.length a) (fun (a : Nat) (Bea : Int → Int) (Loa : Int → Int) (Sha : Int → Int) (Roa : Int → Int) (gl_5 : (Nat → va_E)) => 61 - a) (fun (a : Nat) (Bea : Int → Int) (Loa : Int → Int) (Sha : Int → Int) (Roa : Int → Int) (gl_5 : (Nat → va_E)) => gl_5) (fun (a : Nat) (Bea : Int → Int) (Loa : Int → Int) (Sha : Int → Int) (Roa : Int → Int) (gl_5 : (Nat → va_E)) => [(0, .ref (B + 141)), (1, .int (zI ((k : Nat) : Int))), (2, .int (zI ((c.length : Nat) : Int))), (3, .int (zI ((coR c : Nat) : Int))), (4, .int (zI ((a : Nat) : Int)))]) ?_ 0 Be Lo Sh Ro g ⟨hm, hnow, hse, hbe, hlo, hsh, hro, hfr_0, (by first | omega | with_reducible rfl), (fun y hy => absurd hy (Nat.not_lt_zero _))⟩
  rintro a Bea Loa Sha Roa gl_5 ⟨hm_6, hnow_7, hse_8, hbe_9, hlo_10, hsh_11, hro_12, hfr_13, ha, hN9⟩ ih_16
  refine w_iload dX11_laysBehind_16 4 rfl ?_
  refine w_bipush dX11_laysBehind_18 (by decide) ?_
  refine w_icmp_ge 102 dX11_laysBehind_20 (by decide) (by first | omega | with_reducible rfl) (by first | omega | with_reducible rfl) (fun c_20 => ?_) (fun c_20 => ?_)
  · refine w_iload_n dX11_laysBehind_102 rfl 2 rfl ?_
    refine w_iconst dX11_laysBehind_103 ?_
    refine w_isub dX11_laysBehind_104 ?_
    refine w_istore [(4, .int (zI (((c.length : Nat) : Int) - 1))), (0, .ref (B + 141)), (1, .int (zI ((k : Nat) : Int))), (2, .int (zI ((c.length : Nat) : Int))), (3, .int (zI ((coR c : Nat) : Int)))] dX11_laysBehind_105 (by decide) rfl ?_
    refine w_sub [(0, .ref (B + 141)), (1, .int (zI ((k : Nat) : Int))), (4, .int (zI (((c.length : Nat) : Int) - 1)))] [1, 2, 0] rfl ?_
    refine w_lv (lv' := [(0, .ref (B + 141)), (1, .int (zI ((k : Nat) : Int))), (4, .int (zI ((((c.length) : Nat) : Int) - 1)))]) (lc_s (lc_s (lc_i (by first | omega | with_reducible rfl) rfl))) ?_
    refine w_loop6 (fun (m : Nat) (Bea : Int → Int) (Loa : Int → Int) (Sha : Int → Int) (Roa : Int → Int) (gl_14 : (Nat → va_E)) => vM cy B gl_14 141 cg le sp va o0 tn aw mw fw ls gs sn sw kr ∧ vIA cy B gl_14 142 49 Nw ∧ vLA cy B gl_14 146 169 Sv ∧ vLA cy B gl_14 153 366 Bea ∧ vLA cy B gl_14 154 366 Loa ∧ vLA cy B gl_14 155 366 Sha ∧ vIA cy B gl_14 156 366 Roa ∧ (∀ q, (q ≠ 153 ∧ q ≠ 154 ∧ q ≠ 155 ∧ q ≠ 156) → gl_14 q = g q) ∧ m ≤ c.length ∧ NBm c Bea Loa Sha Roa m) (fun (m : Nat) (Bea : Int → Int) (Loa : Int → Int) (Sha : Int → Int) (Roa : Int → Int) (gl_14 : (Nat → va_E)) => m) (fun (m : Nat) (Bea : Int → Int) (Loa : Int → Int) (Sha : Int → Int) (Roa : Int → Int) (gl_14 : (Nat → va_E)) => gl_14) (fun (m : Nat) (Bea : Int → Int) (Loa : Int → Int) (Sha : Int → Int) (Roa : Int → Int) (gl_14 : (Nat → va_E)) => [(0, .ref (B + 141)), (1, .int (zI ((k : Nat) : Int))), (4, .int (zI (((m : Nat) : Int) - 1)))]) ?_ (c.length) Bea Loa Sha Roa gl_5 ⟨hm_6, hnow_7, hse_8, hbe_9, hlo_10, hsh_11, hro_12, hfr_13, (by first | omega | with_reducible rfl), (NBm_end (by rw [show 61 = a by omega]; exact hN9))⟩
    rintro m Bea Loa Sha Roa gl_14 ⟨hm_15, hnow_16, hse_17, hbe_18, hlo_19, hsh_20, hro_21, hfr_22, hm9, hB9⟩ ih_107
    refine w_iload dX11_laysBehind_107 2 rfl ?_
    refine w_if_lt 143 dX11_laysBehind_109 (by decide) (by first | omega | with_reducible rfl) (fun c_109 => ?_) (fun c_109 => ?_)
    · have hm0 : m = 0 := by omega
      rw [hm0] at hB9
      exact w_vret dX11_laysBehind_143 rfl ⟨Bea, Loa, Sha, Roa, hbe_18, hlo_19, hsh_20, hro_21, hB9, hfr_22⟩
    · refine w_iconst dX11_laysBehind_112 ?_
      refine w_istore [(5, .int (zI 0)), (0, .ref (B + 141)), (1, .int (zI ((k : Nat) : Int))), (4, .int (zI (((m : Nat) : Int) - 1)))] dX11_laysBehind_113 (by decide) rfl ?_
      refine w_sub [(0, .ref (B + 141)), (1, .int (zI ((k : Nat) : Int))), (4, .int (zI (((m : Nat) : Int) - 1))), (5, .int (zI 0))] [1, 2, 3, 0] rfl ?_
      refine w_lv (lv' := [(0, .ref (B + 141)), (1, .int (zI ((k : Nat) : Int))), (4, .int (zI (((m - 1) : Nat) : Int))), (5, .int (zI ((0 : Nat) : Int)))]) (lc_s (lc_s (lc_i (by first | omega | with_reducible rfl) (lc_i (by first | omega | with_reducible rfl) rfl)))) ?_
      refine w_loop6 (fun (a : Nat) (Bea : Int → Int) (Loa : Int → Int) (Sha : Int → Int) (Roa : Int → Int) (gl_23 : (Nat → va_E)) => vM cy B gl_23 141 cg le sp va o0 tn aw mw fw ls gs sn sw kr ∧ vIA cy B gl_23 142 49 Nw ∧ vLA cy B gl_23 146 169 Sv ∧ vLA cy B gl_23 153 366 Bea ∧ vLA cy B gl_23 154 366 Loa ∧ vLA cy B gl_23 155 366 Sha ∧ vIA cy B gl_23 156 366 Roa ∧ (∀ q, (q ≠ 153 ∧ q ≠ 154 ∧ q ≠ 155 ∧ q ≠ 156) → gl_23 q = g q) ∧ a ≤ 61 ∧ NBm c Bea Loa Sha Roa m ∧ NBr2 c Bea Loa Sha Roa (m - 1) a) (fun (a : Nat) (Bea : Int → Int) (Loa : Int → Int) (Sha : Int → Int) (Roa : Int → Int) (gl_23 : (Nat → va_E)) => 61 - a) (fun (a : Nat) (Bea : Int → Int) (Loa : Int → Int) (Sha : Int → Int) (Roa : Int → Int) (gl_23 : (Nat → va_E)) => gl_23) (fun (a : Nat) (Bea : Int → Int) (Loa : Int → Int) (Sha : Int → Int) (Roa : Int → Int) (gl_23 : (Nat → va_E)) => [(0, .ref (B + 141)), (1, .int (zI ((k : Nat) : Int))), (4, .int (zI (((m - 1) : Nat) : Int))), (5, .int (zI ((a : Nat) : Int)))]) ?_ 0 Bea Loa Sha Roa gl_14 ⟨hm_15, hnow_16, hse_17, hbe_18, hlo_19, hsh_20, hro_21, hfr_22, (by first | omega | with_reducible rfl), hB9, (fun y hy => absurd hy (Nat.not_lt_zero _))⟩
      rintro a Bea Loa Sha Roa gl_23 ⟨hm_24, hnow_25, hse_26, hbe_27, hlo_28, hsh_29, hro_30, hfr_31, ha, hB8, hR8⟩ ih_115
      refine w_iload dX11_laysBehind_115 3 rfl ?_
      refine w_bipush dX11_laysBehind_117 (by decide) ?_
      refine w_icmp_ge 137 dX11_laysBehind_119 (by decide) (by first | omega | with_reducible rfl) (by first | omega | with_reducible rfl) (fun c_119 => ?_) (fun c_119 => ?_)
      · refine w_iinc 2 [(4, .int (zI ((((m - 1) : Nat) : Int) + (-1)))), (0, .ref (B + 141)), (1, .int (zI ((k : Nat) : Int))), (5, .int (zI ((a : Nat) : Int)))] dX11_laysBehind_137 rfl (by decide) rfl ?_
        refine w_goto 107 dX11_laysBehind_140 (by decide) ?_
        refine w_sub [(0, .ref (B + 141)), (1, .int (zI ((k : Nat) : Int))), (4, .int (zI ((((m - 1) : Nat) : Int) + (-1))))] [1, 2, 0] rfl ?_
        refine w_lv (lv' := [(0, .ref (B + 141)), (1, .int (zI ((k : Nat) : Int))), (4, .int (zI ((((m - 1) : Nat) : Int) - 1)))]) (lc_s (lc_s (lc_i (by first | omega | with_reducible rfl) rfl))) ?_
        exact ih_107 (m - 1) Bea Loa Sha Roa gl_23 ⟨hm_24, hnow_25, hse_26, hbe_27, hlo_28, hsh_29, hro_30, hfr_31, (by first | omega | with_reducible rfl), (NBm_row (by rw [show m - 1 + 1 = m by omega]; exact hB8) (by rw [show 61 = a by omega]; exact hR8))⟩ (by first | omega | with_reducible rfl)
      · refine w_aload_n dX11_laysBehind_122 rfl 0 rfl ?_
        refine w_iload_n dX11_laysBehind_123 rfl 1 rfl ?_
        refine w_iload dX11_laysBehind_124 2 rfl ?_
        refine w_iload dX11_laysBehind_126 3 rfl ?_
        refine w_callv (As := [.int (zI ((k : Nat) : Int)), .int (zI (((m - 1) : Nat) : Int)), .int (zI ((a : Nat) : Int))]) (rest := []) (n := 3) (c_X11_laysOne (k := k) (j := (m - 1)) (a := a) hm_24 hnow_25 hse_26 hbe_27 hlo_28 hsh_29 hro_30 (by first | omega | with_reducible rfl) (by first | omega | with_reducible rfl) (by first | omega | with_reducible rfl) (by first | omega | with_reducible rfl) (by first | omega | with_reducible rfl) (by first | omega | with_reducible rfl) (fun y hy => by rw [show m - 1 + 1 = m by omega]; exact hB8 m (Nat.le_refl _) (by omega) y hy)) gX11_laysBehind_X11_laysOne rfl rfl rfl (by decide +kernel) ⟨Nat.le_of_ble_eq_true rfl, Nat.le_of_ble_eq_true rfl⟩ rfl (by first | omega | with_reducible rfl) hm_24 rfl (Nat.le_of_ble_eq_true rfl) ⟨Nat.zero_le _, Nat.zero_le _⟩ dX11_laysBehind_128 rfl (fun g_32 hp_33 => ?_)
        obtain ⟨hbe_34, hlo_35, hsh_36, hro_37, hf_38⟩ := hp_33
        have hm_39 : vM cy B g_32 141 cg le sp va o0 tn aw mw fw ls gs sn sw kr := vM_fr hm_24 (fun q h1 h2 => hf_38 q (by omega))
        have hnow_40 : vIA cy B g_32 142 49 Nw := vIA_fr hnow_25 (fun q h1 h2 => hf_38 q (by omega))
        have hse_41 : vLA cy B g_32 146 169 Sv := vLA_fr hse_26 (fun q h1 h2 => hf_38 q (by omega))
        have hfr_42 : ∀ q, (q ≠ 153 ∧ q ≠ 154 ∧ q ≠ 155 ∧ q ≠ 156) → g_32 q = g q := fun q hq => (hf_38 q (by omega)).trans (hfr_31 q hq)
        refine w_iinc 3 [(5, .int (zI (((a : Nat) : Int) + 1))), (0, .ref (B + 141)), (1, .int (zI ((k : Nat) : Int))), (4, .int (zI (((m - 1) : Nat) : Int)))] dX11_laysBehind_131 rfl (by decide) rfl ?_
        refine w_goto 115 dX11_laysBehind_134 (by decide) ?_
        refine w_sub [(0, .ref (B + 141)), (1, .int (zI ((k : Nat) : Int))), (4, .int (zI (((m - 1) : Nat) : Int))), (5, .int (zI (((a : Nat) : Int) + 1)))] [1, 2, 3, 0] rfl ?_
        refine w_lv (lv' := [(0, .ref (B + 141)), (1, .int (zI ((k : Nat) : Int))), (4, .int (zI (((m - 1) : Nat) : Int))), (5, .int (zI (((a + 1) : Nat) : Int)))]) (lc_s (lc_s (lc_i (by first | omega | with_reducible rfl) (lc_i (by first | omega | with_reducible rfl) rfl)))) ?_
        exact ih_115 (a + 1) (uZ Bea (61 * (((m - 1) : Nat) : Int) + ((a : Nat) : Int)) (MB c 1 (m - 1) a)) (uZ Loa (61 * (((m - 1) : Nat) : Int) + ((a : Nat) : Int)) (MB c 2 (m - 1) a)) (uZ Sha (61 * (((m - 1) : Nat) : Int) + ((a : Nat) : Int)) (MB c 3 (m - 1) a)) (uZ Roa (61 * (((m - 1) : Nat) : Int) + ((a : Nat) : Int)) (MB c 4 (m - 1) a)) g_32 ⟨hm_39, hnow_40, hse_41, hbe_34, hlo_35, hsh_36, hro_37, hfr_42, (by first | omega | with_reducible rfl), (NBm_up hB8 (by omega) (by omega)), (NBr2_up hR8 rfl rfl rfl rfl)⟩ (by first | omega | with_reducible rfl)
  · refine w_bipush dX11_laysBehind_23 (by decide) ?_
    refine w_iload_n dX11_laysBehind_25 rfl 2 rfl ?_
    refine w_imul dX11_laysBehind_26 ?_
    refine w_iload dX11_laysBehind_27 4 rfl ?_
    refine w_iadd dX11_laysBehind_29 ?_
    refine w_istore [(5, .int (zI ((61 * ((c.length : Nat) : Int)) + ((a : Nat) : Int)))), (0, .ref (B + 141)), (1, .int (zI ((k : Nat) : Int))), (2, .int (zI ((c.length : Nat) : Int))), (3, .int (zI ((coR c : Nat) : Int))), (4, .int (zI ((a : Nat) : Int)))] dX11_laysBehind_30 (by decide) rfl ?_
    refine w_aload_n dX11_laysBehind_32 rfl 1 rfl ?_
    refine w_get (i := 25) (T := TX11) (NF := 32) 141 (by first | omega | with_reducible rfl) hm_6 rfl (fun _ h => (List.mem_cons_of_mem _ (List.mem_append_right _ h))) (by decide) (List.mem_of_getElem? (i := 1) rfl) rfl dX11_laysBehind_33 ?_
    refine w_iload dX11_laysBehind_36 0 rfl ?_
    refine w_iload dX11_laysBehind_38 5 rfl ?_
    refine w_iload_n dX11_laysBehind_40 rfl 4 rfl ?_
    refine w_icmp_ne 48 dX11_laysBehind_41 (by decide) (by first | omega | with_reducible rfl) (by first | omega | with_reducible rfl) (fun c_41 => ?_) (fun c_41 => ?_)
    · refine w_lconst0 dX11_laysBehind_48 ?_
      refine w_as (st' := [.long (zJ (MB c 1 c.length a)), .int (zI ((61 * ((c.length : Nat) : Int)) + ((a : Nat) : Int))), .ref (B + 153)]) (sc_l (by rw [MB_end (by omega)]; first | exact (if_pos (by omega)).symm | exact (if_neg (by omega)).symm) rfl) ?_
      refine w_last 153 (by first | omega | with_reducible rfl) hbe_9 (by first | omega | with_reducible rfl) dX11_laysBehind_49 (fun g_43 he_44 hn_45 => ?_)
      have hm_46 : vM cy B g_43 141 cg le sp va o0 tn aw mw fw ls gs sn sw kr := vM_fr hm_6 (fun q h1 h2 => hn_45 q (by omega))
      have hnow_47 : vIA cy B g_43 142 49 Nw := vIA_fr hnow_7 (fun q h1 h2 => hn_45 q (by omega))
      have hse_48 : vLA cy B g_43 146 169 Sv := vLA_fr hse_8 (fun q h1 h2 => hn_45 q (by omega))
      have hbe_49 : vLA cy B g_43 153 366 (uZ Bea ((61 * ((c.length : Nat) : Int)) + ((a : Nat) : Int)) (MB c 1 c.length a)) := he_44
      have hlo_50 : vLA cy B g_43 154 366 Loa := vLA_fr hlo_10 (fun q h1 h2 => hn_45 q (by omega))
      have hsh_51 : vLA cy B g_43 155 366 Sha := vLA_fr hsh_11 (fun q h1 h2 => hn_45 q (by omega))
      have hro_52 : vIA cy B g_43 156 366 Roa := vIA_fr hro_12 (fun q h1 h2 => hn_45 q (by omega))
      have hfr_53 : ∀ q, (q ≠ 153 ∧ q ≠ 154 ∧ q ≠ 155 ∧ q ≠ 156) → g_43 q = g q := fun q hq => (hn_45 q (by omega)).trans (hfr_13 q hq)
      refine w_aload_n dX11_laysBehind_50 rfl 1 rfl ?_
      refine w_get (i := 26) (T := TX11) (NF := 32) 141 (by first | omega | with_reducible rfl) hm_46 rfl (fun _ h => (List.mem_cons_of_mem _ (List.mem_append_right _ h))) (by decide) (List.mem_of_getElem? (i := 2) rfl) rfl dX11_laysBehind_51 ?_
      refine w_iload dX11_laysBehind_54 0 rfl ?_
      refine w_aload_n dX11_laysBehind_56 rfl 1 rfl ?_
      refine w_get (i := 25) (T := TX11) (NF := 32) 141 (by first | omega | with_reducible rfl) hm_46 rfl (fun _ h => (List.mem_cons_of_mem _ (List.mem_append_right _ h))) (by decide) (List.mem_of_getElem? (i := 1) rfl) rfl dX11_laysBehind_57 ?_
      refine w_iload dX11_laysBehind_60 0 rfl ?_
      refine w_lald 153 (by first | omega | with_reducible rfl) hbe_49 (by first | omega | with_reducible rfl) dX11_laysBehind_62 ?_
      refine w_as (st' := [.long (zJ (MB c 2 c.length a)), .int (zI ((61 * ((c.length : Nat) : Int)) + ((a : Nat) : Int))), .ref (B + 154)]) (sc_l (by rw [uZ_same, MB_end (by omega), MB_end (by omega)]) rfl) ?_
      refine w_last 154 (by first | omega | with_reducible rfl) hlo_50 (by first | omega | with_reducible rfl) dX11_laysBehind_63 (fun g_54 he_55 hn_56 => ?_)
      have hm_57 : vM cy B g_54 141 cg le sp va o0 tn aw mw fw ls gs sn sw kr := vM_fr hm_46 (fun q h1 h2 => hn_56 q (by omega))
      have hnow_58 : vIA cy B g_54 142 49 Nw := vIA_fr hnow_47 (fun q h1 h2 => hn_56 q (by omega))
      have hse_59 : vLA cy B g_54 146 169 Sv := vLA_fr hse_48 (fun q h1 h2 => hn_56 q (by omega))
      have hbe_60 : vLA cy B g_54 153 366 (uZ Bea ((61 * ((c.length : Nat) : Int)) + ((a : Nat) : Int)) (MB c 1 c.length a)) := vLA_fr hbe_49 (fun q h1 h2 => hn_56 q (by omega))
      have hlo_61 : vLA cy B g_54 154 366 (uZ Loa ((61 * ((c.length : Nat) : Int)) + ((a : Nat) : Int)) (MB c 2 c.length a)) := he_55
      have hsh_62 : vLA cy B g_54 155 366 Sha := vLA_fr hsh_51 (fun q h1 h2 => hn_56 q (by omega))
      have hro_63 : vIA cy B g_54 156 366 Roa := vIA_fr hro_52 (fun q h1 h2 => hn_56 q (by omega))
      have hfr_64 : ∀ q, (q ≠ 153 ∧ q ≠ 154 ∧ q ≠ 155 ∧ q ≠ 156) → g_54 q = g q := fun q hq => (hn_56 q (by omega)).trans (hfr_53 q hq)
      refine w_aload_n dX11_laysBehind_64 rfl 1 rfl ?_
      refine w_get (i := 27) (T := TX11) (NF := 32) 141 (by first | omega | with_reducible rfl) hm_57 rfl (fun _ h => (List.mem_cons_of_mem _ (List.mem_append_right _ h))) (by decide) (List.mem_of_getElem? (i := 3) rfl) rfl dX11_laysBehind_65 ?_
      refine w_iload dX11_laysBehind_68 0 rfl ?_
      refine w_aload_n dX11_laysBehind_70 rfl 1 rfl ?_
      refine w_get (i := 25) (T := TX11) (NF := 32) 141 (by first | omega | with_reducible rfl) hm_57 rfl (fun _ h => (List.mem_cons_of_mem _ (List.mem_append_right _ h))) (by decide) (List.mem_of_getElem? (i := 1) rfl) rfl dX11_laysBehind_71 ?_
      refine w_iload dX11_laysBehind_74 0 rfl ?_
      refine w_lald 153 (by first | omega | with_reducible rfl) hbe_60 (by first | omega | with_reducible rfl) dX11_laysBehind_76 ?_
      refine w_as (st' := [.long (zJ (MB c 3 c.length a)), .int (zI ((61 * ((c.length : Nat) : Int)) + ((a : Nat) : Int))), .ref (B + 155)]) (sc_l (by rw [uZ_same, MB_end (by omega), MB_end (by omega)]) rfl) ?_
      refine w_last 155 (by first | omega | with_reducible rfl) hsh_62 (by first | omega | with_reducible rfl) dX11_laysBehind_77 (fun g_65 he_66 hn_67 => ?_)
      have hm_68 : vM cy B g_65 141 cg le sp va o0 tn aw mw fw ls gs sn sw kr := vM_fr hm_57 (fun q h1 h2 => hn_67 q (by omega))
      have hnow_69 : vIA cy B g_65 142 49 Nw := vIA_fr hnow_58 (fun q h1 h2 => hn_67 q (by omega))
      have hse_70 : vLA cy B g_65 146 169 Sv := vLA_fr hse_59 (fun q h1 h2 => hn_67 q (by omega))
      have hbe_71 : vLA cy B g_65 153 366 (uZ Bea ((61 * ((c.length : Nat) : Int)) + ((a : Nat) : Int)) (MB c 1 c.length a)) := vLA_fr hbe_60 (fun q h1 h2 => hn_67 q (by omega))
      have hlo_72 : vLA cy B g_65 154 366 (uZ Loa ((61 * ((c.length : Nat) : Int)) + ((a : Nat) : Int)) (MB c 2 c.length a)) := vLA_fr hlo_61 (fun q h1 h2 => hn_67 q (by omega))
      have hsh_73 : vLA cy B g_65 155 366 (uZ Sha ((61 * ((c.length : Nat) : Int)) + ((a : Nat) : Int)) (MB c 3 c.length a)) := he_66
      have hro_74 : vIA cy B g_65 156 366 Roa := vIA_fr hro_63 (fun q h1 h2 => hn_67 q (by omega))
      have hfr_75 : ∀ q, (q ≠ 153 ∧ q ≠ 154 ∧ q ≠ 155 ∧ q ≠ 156) → g_65 q = g q := fun q hq => (hn_67 q (by omega)).trans (hfr_64 q hq)
      refine w_aload_n dX11_laysBehind_78 rfl 1 rfl ?_
      refine w_get (i := 28) (T := TX11) (NF := 32) 141 (by first | omega | with_reducible rfl) hm_68 rfl (fun _ h => (List.mem_cons_of_mem _ (List.mem_append_right _ h))) (by decide) (List.mem_of_getElem? (i := 4) rfl) rfl dX11_laysBehind_79 ?_
      refine w_iload dX11_laysBehind_82 0 rfl ?_
      refine w_iload dX11_laysBehind_84 5 rfl ?_
      refine w_iload_n dX11_laysBehind_86 rfl 4 rfl ?_
      refine w_icmp_ne 94 dX11_laysBehind_87 (by decide) (by first | omega | with_reducible rfl) (by first | omega | with_reducible rfl) (fun c_87 => ?_) (fun c_87 => ?_)
      · refine w_iconst dX11_laysBehind_94 ?_
        refine w_as (st' := [.int (zI (MB c 4 c.length a)), .int (zI ((61 * ((c.length : Nat) : Int)) + ((a : Nat) : Int))), .ref (B + 156)]) (sc_i (by rw [MB_end (by omega)]; first | exact (if_pos (by omega)).symm | exact (if_neg (by omega)).symm) rfl) ?_
        refine w_iast 156 (by first | omega | with_reducible rfl) hro_74 (by first | omega | with_reducible rfl) dX11_laysBehind_95 (fun g_76 he_77 hn_78 => ?_)
        have hm_79 : vM cy B g_76 141 cg le sp va o0 tn aw mw fw ls gs sn sw kr := vM_fr hm_68 (fun q h1 h2 => hn_78 q (by omega))
        have hnow_80 : vIA cy B g_76 142 49 Nw := vIA_fr hnow_69 (fun q h1 h2 => hn_78 q (by omega))
        have hse_81 : vLA cy B g_76 146 169 Sv := vLA_fr hse_70 (fun q h1 h2 => hn_78 q (by omega))
        have hbe_82 : vLA cy B g_76 153 366 (uZ Bea ((61 * ((c.length : Nat) : Int)) + ((a : Nat) : Int)) (MB c 1 c.length a)) := vLA_fr hbe_71 (fun q h1 h2 => hn_78 q (by omega))
        have hlo_83 : vLA cy B g_76 154 366 (uZ Loa ((61 * ((c.length : Nat) : Int)) + ((a : Nat) : Int)) (MB c 2 c.length a)) := vLA_fr hlo_72 (fun q h1 h2 => hn_78 q (by omega))
        have hsh_84 : vLA cy B g_76 155 366 (uZ Sha ((61 * ((c.length : Nat) : Int)) + ((a : Nat) : Int)) (MB c 3 c.length a)) := vLA_fr hsh_73 (fun q h1 h2 => hn_78 q (by omega))
        have hro_85 : vIA cy B g_76 156 366 (uZ Roa ((61 * ((c.length : Nat) : Int)) + ((a : Nat) : Int)) (MB c 4 c.length a)) := he_77
        have hfr_86 : ∀ q, (q ≠ 153 ∧ q ≠ 154 ∧ q ≠ 155 ∧ q ≠ 156) → g_76 q = g q := fun q hq => (hn_78 q (by omega)).trans (hfr_75 q hq)
        refine w_iinc 5 [(4, .int (zI (((a : Nat) : Int) + 1))), (5, .int (zI ((61 * ((c.length : Nat) : Int)) + ((a : Nat) : Int)))), (0, .ref (B + 141)), (1, .int (zI ((k : Nat) : Int))), (2, .int (zI ((c.length : Nat) : Int))), (3, .int (zI ((coR c : Nat) : Int)))] dX11_laysBehind_96 rfl (by decide) rfl ?_
        refine w_goto 16 dX11_laysBehind_99 (by decide) ?_
        refine w_sub [(0, .ref (B + 141)), (1, .int (zI ((k : Nat) : Int))), (2, .int (zI ((c.length : Nat) : Int))), (3, .int (zI ((coR c : Nat) : Int))), (4, .int (zI (((a : Nat) : Int) + 1)))] [2, 3, 4, 5, 0] rfl ?_
        refine w_lv (lv' := [(0, .ref (B + 141)), (1, .int (zI ((k : Nat) : Int))), (2, .int (zI ((c.length : Nat) : Int))), (3, .int (zI ((coR c : Nat) : Int))), (4, .int (zI (((a + 1) : Nat) : Int)))]) (lc_s (lc_s (lc_s (lc_s (lc_i (by first | omega | with_reducible rfl) rfl))))) ?_
        exact ih_16 (a + 1) (uZ Bea ((61 * ((c.length : Nat) : Int)) + ((a : Nat) : Int)) (MB c 1 c.length a)) (uZ Loa ((61 * ((c.length : Nat) : Int)) + ((a : Nat) : Int)) (MB c 2 c.length a)) (uZ Sha ((61 * ((c.length : Nat) : Int)) + ((a : Nat) : Int)) (MB c 3 c.length a)) (uZ Roa ((61 * ((c.length : Nat) : Int)) + ((a : Nat) : Int)) (MB c 4 c.length a)) g_76 ⟨hm_79, hnow_80, hse_81, hbe_82, hlo_83, hsh_84, hro_85, hfr_86, (by first | omega | with_reducible rfl), (NBr2_up hN9 rfl rfl rfl rfl)⟩ (by first | omega | with_reducible rfl)
      · refine w_iconst dX11_laysBehind_90 ?_
        refine w_goto 95 dX11_laysBehind_91 (by decide) ?_
        refine w_as (st' := [.int (zI (MB c 4 c.length a)), .int (zI ((61 * ((c.length : Nat) : Int)) + ((a : Nat) : Int))), .ref (B + 156)]) (sc_i (by rw [MB_end (by omega)]; first | exact (if_pos (by omega)).symm | exact (if_neg (by omega)).symm) rfl) ?_
        refine w_iast 156 (by first | omega | with_reducible rfl) hro_74 (by first | omega | with_reducible rfl) dX11_laysBehind_95 (fun g_87 he_88 hn_89 => ?_)
        have hm_90 : vM cy B g_87 141 cg le sp va o0 tn aw mw fw ls gs sn sw kr := vM_fr hm_68 (fun q h1 h2 => hn_89 q (by omega))
        have hnow_91 : vIA cy B g_87 142 49 Nw := vIA_fr hnow_69 (fun q h1 h2 => hn_89 q (by omega))
        have hse_92 : vLA cy B g_87 146 169 Sv := vLA_fr hse_70 (fun q h1 h2 => hn_89 q (by omega))
        have hbe_93 : vLA cy B g_87 153 366 (uZ Bea ((61 * ((c.length : Nat) : Int)) + ((a : Nat) : Int)) (MB c 1 c.length a)) := vLA_fr hbe_71 (fun q h1 h2 => hn_89 q (by omega))
        have hlo_94 : vLA cy B g_87 154 366 (uZ Loa ((61 * ((c.length : Nat) : Int)) + ((a : Nat) : Int)) (MB c 2 c.length a)) := vLA_fr hlo_72 (fun q h1 h2 => hn_89 q (by omega))
        have hsh_95 : vLA cy B g_87 155 366 (uZ Sha ((61 * ((c.length : Nat) : Int)) + ((a : Nat) : Int)) (MB c 3 c.length a)) := vLA_fr hsh_73 (fun q h1 h2 => hn_89 q (by omega))
        have hro_96 : vIA cy B g_87 156 366 (uZ Roa ((61 * ((c.length : Nat) : Int)) + ((a : Nat) : Int)) (MB c 4 c.length a)) := he_88
        have hfr_97 : ∀ q, (q ≠ 153 ∧ q ≠ 154 ∧ q ≠ 155 ∧ q ≠ 156) → g_87 q = g q := fun q hq => (hn_89 q (by omega)).trans (hfr_75 q hq)
        refine w_iinc 5 [(4, .int (zI (((a : Nat) : Int) + 1))), (5, .int (zI ((61 * ((c.length : Nat) : Int)) + ((a : Nat) : Int)))), (0, .ref (B + 141)), (1, .int (zI ((k : Nat) : Int))), (2, .int (zI ((c.length : Nat) : Int))), (3, .int (zI ((coR c : Nat) : Int)))] dX11_laysBehind_96 rfl (by decide) rfl ?_
        refine w_goto 16 dX11_laysBehind_99 (by decide) ?_
        refine w_sub [(0, .ref (B + 141)), (1, .int (zI ((k : Nat) : Int))), (2, .int (zI ((c.length : Nat) : Int))), (3, .int (zI ((coR c : Nat) : Int))), (4, .int (zI (((a : Nat) : Int) + 1)))] [2, 3, 4, 5, 0] rfl ?_
        refine w_lv (lv' := [(0, .ref (B + 141)), (1, .int (zI ((k : Nat) : Int))), (2, .int (zI ((c.length : Nat) : Int))), (3, .int (zI ((coR c : Nat) : Int))), (4, .int (zI (((a + 1) : Nat) : Int)))]) (lc_s (lc_s (lc_s (lc_s (lc_i (by first | omega | with_reducible rfl) rfl))))) ?_
        exact ih_16 (a + 1) (uZ Bea ((61 * ((c.length : Nat) : Int)) + ((a : Nat) : Int)) (MB c 1 c.length a)) (uZ Loa ((61 * ((c.length : Nat) : Int)) + ((a : Nat) : Int)) (MB c 2 c.length a)) (uZ Sha ((61 * ((c.length : Nat) : Int)) + ((a : Nat) : Int)) (MB c 3 c.length a)) (uZ Roa ((61 * ((c.length : Nat) : Int)) + ((a : Nat) : Int)) (MB c 4 c.length a)) g_87 ⟨hm_90, hnow_91, hse_92, hbe_93, hlo_94, hsh_95, hro_96, hfr_97, (by first | omega | with_reducible rfl), (NBr2_up hN9 rfl rfl rfl rfl)⟩ (by first | omega | with_reducible rfl)
    · refine w_lconst1 dX11_laysBehind_44 ?_
      refine w_goto 49 dX11_laysBehind_45 (by decide) ?_
      refine w_as (st' := [.long (zJ (MB c 1 c.length a)), .int (zI ((61 * ((c.length : Nat) : Int)) + ((a : Nat) : Int))), .ref (B + 153)]) (sc_l (by rw [MB_end (by omega)]; first | exact (if_pos (by omega)).symm | exact (if_neg (by omega)).symm) rfl) ?_
      refine w_last 153 (by first | omega | with_reducible rfl) hbe_9 (by first | omega | with_reducible rfl) dX11_laysBehind_49 (fun g_98 he_99 hn_100 => ?_)
      have hm_101 : vM cy B g_98 141 cg le sp va o0 tn aw mw fw ls gs sn sw kr := vM_fr hm_6 (fun q h1 h2 => hn_100 q (by omega))
      have hnow_102 : vIA cy B g_98 142 49 Nw := vIA_fr hnow_7 (fun q h1 h2 => hn_100 q (by omega))
      have hse_103 : vLA cy B g_98 146 169 Sv := vLA_fr hse_8 (fun q h1 h2 => hn_100 q (by omega))
      have hbe_104 : vLA cy B g_98 153 366 (uZ Bea ((61 * ((c.length : Nat) : Int)) + ((a : Nat) : Int)) (MB c 1 c.length a)) := he_99
      have hlo_105 : vLA cy B g_98 154 366 Loa := vLA_fr hlo_10 (fun q h1 h2 => hn_100 q (by omega))
      have hsh_106 : vLA cy B g_98 155 366 Sha := vLA_fr hsh_11 (fun q h1 h2 => hn_100 q (by omega))
      have hro_107 : vIA cy B g_98 156 366 Roa := vIA_fr hro_12 (fun q h1 h2 => hn_100 q (by omega))
      have hfr_108 : ∀ q, (q ≠ 153 ∧ q ≠ 154 ∧ q ≠ 155 ∧ q ≠ 156) → g_98 q = g q := fun q hq => (hn_100 q (by omega)).trans (hfr_13 q hq)
      refine w_aload_n dX11_laysBehind_50 rfl 1 rfl ?_
      refine w_get (i := 26) (T := TX11) (NF := 32) 141 (by first | omega | with_reducible rfl) hm_101 rfl (fun _ h => (List.mem_cons_of_mem _ (List.mem_append_right _ h))) (by decide) (List.mem_of_getElem? (i := 2) rfl) rfl dX11_laysBehind_51 ?_
      refine w_iload dX11_laysBehind_54 0 rfl ?_
      refine w_aload_n dX11_laysBehind_56 rfl 1 rfl ?_
      refine w_get (i := 25) (T := TX11) (NF := 32) 141 (by first | omega | with_reducible rfl) hm_101 rfl (fun _ h => (List.mem_cons_of_mem _ (List.mem_append_right _ h))) (by decide) (List.mem_of_getElem? (i := 1) rfl) rfl dX11_laysBehind_57 ?_
      refine w_iload dX11_laysBehind_60 0 rfl ?_
      refine w_lald 153 (by first | omega | with_reducible rfl) hbe_104 (by first | omega | with_reducible rfl) dX11_laysBehind_62 ?_
      refine w_as (st' := [.long (zJ (MB c 2 c.length a)), .int (zI ((61 * ((c.length : Nat) : Int)) + ((a : Nat) : Int))), .ref (B + 154)]) (sc_l (by rw [uZ_same, MB_end (by omega), MB_end (by omega)]) rfl) ?_
      refine w_last 154 (by first | omega | with_reducible rfl) hlo_105 (by first | omega | with_reducible rfl) dX11_laysBehind_63 (fun g_109 he_110 hn_111 => ?_)
      have hm_112 : vM cy B g_109 141 cg le sp va o0 tn aw mw fw ls gs sn sw kr := vM_fr hm_101 (fun q h1 h2 => hn_111 q (by omega))
      have hnow_113 : vIA cy B g_109 142 49 Nw := vIA_fr hnow_102 (fun q h1 h2 => hn_111 q (by omega))
      have hse_114 : vLA cy B g_109 146 169 Sv := vLA_fr hse_103 (fun q h1 h2 => hn_111 q (by omega))
      have hbe_115 : vLA cy B g_109 153 366 (uZ Bea ((61 * ((c.length : Nat) : Int)) + ((a : Nat) : Int)) (MB c 1 c.length a)) := vLA_fr hbe_104 (fun q h1 h2 => hn_111 q (by omega))
      have hlo_116 : vLA cy B g_109 154 366 (uZ Loa ((61 * ((c.length : Nat) : Int)) + ((a : Nat) : Int)) (MB c 2 c.length a)) := he_110
      have hsh_117 : vLA cy B g_109 155 366 Sha := vLA_fr hsh_106 (fun q h1 h2 => hn_111 q (by omega))
      have hro_118 : vIA cy B g_109 156 366 Roa := vIA_fr hro_107 (fun q h1 h2 => hn_111 q (by omega))
      have hfr_119 : ∀ q, (q ≠ 153 ∧ q ≠ 154 ∧ q ≠ 155 ∧ q ≠ 156) → g_109 q = g q := fun q hq => (hn_111 q (by omega)).trans (hfr_108 q hq)
      refine w_aload_n dX11_laysBehind_64 rfl 1 rfl ?_
      refine w_get (i := 27) (T := TX11) (NF := 32) 141 (by first | omega | with_reducible rfl) hm_112 rfl (fun _ h => (List.mem_cons_of_mem _ (List.mem_append_right _ h))) (by decide) (List.mem_of_getElem? (i := 3) rfl) rfl dX11_laysBehind_65 ?_
      refine w_iload dX11_laysBehind_68 0 rfl ?_
      refine w_aload_n dX11_laysBehind_70 rfl 1 rfl ?_
      refine w_get (i := 25) (T := TX11) (NF := 32) 141 (by first | omega | with_reducible rfl) hm_112 rfl (fun _ h => (List.mem_cons_of_mem _ (List.mem_append_right _ h))) (by decide) (List.mem_of_getElem? (i := 1) rfl) rfl dX11_laysBehind_71 ?_
      refine w_iload dX11_laysBehind_74 0 rfl ?_
      refine w_lald 153 (by first | omega | with_reducible rfl) hbe_115 (by first | omega | with_reducible rfl) dX11_laysBehind_76 ?_
      refine w_as (st' := [.long (zJ (MB c 3 c.length a)), .int (zI ((61 * ((c.length : Nat) : Int)) + ((a : Nat) : Int))), .ref (B + 155)]) (sc_l (by rw [uZ_same, MB_end (by omega), MB_end (by omega)]) rfl) ?_
      refine w_last 155 (by first | omega | with_reducible rfl) hsh_117 (by first | omega | with_reducible rfl) dX11_laysBehind_77 (fun g_120 he_121 hn_122 => ?_)
      have hm_123 : vM cy B g_120 141 cg le sp va o0 tn aw mw fw ls gs sn sw kr := vM_fr hm_112 (fun q h1 h2 => hn_122 q (by omega))
      have hnow_124 : vIA cy B g_120 142 49 Nw := vIA_fr hnow_113 (fun q h1 h2 => hn_122 q (by omega))
      have hse_125 : vLA cy B g_120 146 169 Sv := vLA_fr hse_114 (fun q h1 h2 => hn_122 q (by omega))
      have hbe_126 : vLA cy B g_120 153 366 (uZ Bea ((61 * ((c.length : Nat) : Int)) + ((a : Nat) : Int)) (MB c 1 c.length a)) := vLA_fr hbe_115 (fun q h1 h2 => hn_122 q (by omega))
      have hlo_127 : vLA cy B g_120 154 366 (uZ Loa ((61 * ((c.length : Nat) : Int)) + ((a : Nat) : Int)) (MB c 2 c.length a)) := vLA_fr hlo_116 (fun q h1 h2 => hn_122 q (by omega))
      have hsh_128 : vLA cy B g_120 155 366 (uZ Sha ((61 * ((c.length : Nat) : Int)) + ((a : Nat) : Int)) (MB c 3 c.length a)) := he_121
      have hro_129 : vIA cy B g_120 156 366 Roa := vIA_fr hro_118 (fun q h1 h2 => hn_122 q (by omega))
      have hfr_130 : ∀ q, (q ≠ 153 ∧ q ≠ 154 ∧ q ≠ 155 ∧ q ≠ 156) → g_120 q = g q := fun q hq => (hn_122 q (by omega)).trans (hfr_119 q hq)
      refine w_aload_n dX11_laysBehind_78 rfl 1 rfl ?_
      refine w_get (i := 28) (T := TX11) (NF := 32) 141 (by first | omega | with_reducible rfl) hm_123 rfl (fun _ h => (List.mem_cons_of_mem _ (List.mem_append_right _ h))) (by decide) (List.mem_of_getElem? (i := 4) rfl) rfl dX11_laysBehind_79 ?_
      refine w_iload dX11_laysBehind_82 0 rfl ?_
      refine w_iload dX11_laysBehind_84 5 rfl ?_
      refine w_iload_n dX11_laysBehind_86 rfl 4 rfl ?_
      refine w_icmp_ne 94 dX11_laysBehind_87 (by decide) (by first | omega | with_reducible rfl) (by first | omega | with_reducible rfl) (fun c_87 => ?_) (fun c_87 => ?_)
      · refine w_iconst dX11_laysBehind_94 ?_
        refine w_as (st' := [.int (zI (MB c 4 c.length a)), .int (zI ((61 * ((c.length : Nat) : Int)) + ((a : Nat) : Int))), .ref (B + 156)]) (sc_i (by rw [MB_end (by omega)]; first | exact (if_pos (by omega)).symm | exact (if_neg (by omega)).symm) rfl) ?_
        refine w_iast 156 (by first | omega | with_reducible rfl) hro_129 (by first | omega | with_reducible rfl) dX11_laysBehind_95 (fun g_131 he_132 hn_133 => ?_)
        have hm_134 : vM cy B g_131 141 cg le sp va o0 tn aw mw fw ls gs sn sw kr := vM_fr hm_123 (fun q h1 h2 => hn_133 q (by omega))
        have hnow_135 : vIA cy B g_131 142 49 Nw := vIA_fr hnow_124 (fun q h1 h2 => hn_133 q (by omega))
        have hse_136 : vLA cy B g_131 146 169 Sv := vLA_fr hse_125 (fun q h1 h2 => hn_133 q (by omega))
        have hbe_137 : vLA cy B g_131 153 366 (uZ Bea ((61 * ((c.length : Nat) : Int)) + ((a : Nat) : Int)) (MB c 1 c.length a)) := vLA_fr hbe_126 (fun q h1 h2 => hn_133 q (by omega))
        have hlo_138 : vLA cy B g_131 154 366 (uZ Loa ((61 * ((c.length : Nat) : Int)) + ((a : Nat) : Int)) (MB c 2 c.length a)) := vLA_fr hlo_127 (fun q h1 h2 => hn_133 q (by omega))
        have hsh_139 : vLA cy B g_131 155 366 (uZ Sha ((61 * ((c.length : Nat) : Int)) + ((a : Nat) : Int)) (MB c 3 c.length a)) := vLA_fr hsh_128 (fun q h1 h2 => hn_133 q (by omega))
        have hro_140 : vIA cy B g_131 156 366 (uZ Roa ((61 * ((c.length : Nat) : Int)) + ((a : Nat) : Int)) (MB c 4 c.length a)) := he_132
        have hfr_141 : ∀ q, (q ≠ 153 ∧ q ≠ 154 ∧ q ≠ 155 ∧ q ≠ 156) → g_131 q = g q := fun q hq => (hn_133 q (by omega)).trans (hfr_130 q hq)
        refine w_iinc 5 [(4, .int (zI (((a : Nat) : Int) + 1))), (5, .int (zI ((61 * ((c.length : Nat) : Int)) + ((a : Nat) : Int)))), (0, .ref (B + 141)), (1, .int (zI ((k : Nat) : Int))), (2, .int (zI ((c.length : Nat) : Int))), (3, .int (zI ((coR c : Nat) : Int)))] dX11_laysBehind_96 rfl (by decide) rfl ?_
        refine w_goto 16 dX11_laysBehind_99 (by decide) ?_
        refine w_sub [(0, .ref (B + 141)), (1, .int (zI ((k : Nat) : Int))), (2, .int (zI ((c.length : Nat) : Int))), (3, .int (zI ((coR c : Nat) : Int))), (4, .int (zI (((a : Nat) : Int) + 1)))] [2, 3, 4, 5, 0] rfl ?_
        refine w_lv (lv' := [(0, .ref (B + 141)), (1, .int (zI ((k : Nat) : Int))), (2, .int (zI ((c.length : Nat) : Int))), (3, .int (zI ((coR c : Nat) : Int))), (4, .int (zI (((a + 1) : Nat) : Int)))]) (lc_s (lc_s (lc_s (lc_s (lc_i (by first | omega | with_reducible rfl) rfl))))) ?_
        exact ih_16 (a + 1) (uZ Bea ((61 * ((c.length : Nat) : Int)) + ((a : Nat) : Int)) (MB c 1 c.length a)) (uZ Loa ((61 * ((c.length : Nat) : Int)) + ((a : Nat) : Int)) (MB c 2 c.length a)) (uZ Sha ((61 * ((c.length : Nat) : Int)) + ((a : Nat) : Int)) (MB c 3 c.length a)) (uZ Roa ((61 * ((c.length : Nat) : Int)) + ((a : Nat) : Int)) (MB c 4 c.length a)) g_131 ⟨hm_134, hnow_135, hse_136, hbe_137, hlo_138, hsh_139, hro_140, hfr_141, (by first | omega | with_reducible rfl), (NBr2_up hN9 rfl rfl rfl rfl)⟩ (by first | omega | with_reducible rfl)
      · refine w_iconst dX11_laysBehind_90 ?_
        refine w_goto 95 dX11_laysBehind_91 (by decide) ?_
        refine w_as (st' := [.int (zI (MB c 4 c.length a)), .int (zI ((61 * ((c.length : Nat) : Int)) + ((a : Nat) : Int))), .ref (B + 156)]) (sc_i (by rw [MB_end (by omega)]; first | exact (if_pos (by omega)).symm | exact (if_neg (by omega)).symm) rfl) ?_
        refine w_iast 156 (by first | omega | with_reducible rfl) hro_129 (by first | omega | with_reducible rfl) dX11_laysBehind_95 (fun g_142 he_143 hn_144 => ?_)
        have hm_145 : vM cy B g_142 141 cg le sp va o0 tn aw mw fw ls gs sn sw kr := vM_fr hm_123 (fun q h1 h2 => hn_144 q (by omega))
        have hnow_146 : vIA cy B g_142 142 49 Nw := vIA_fr hnow_124 (fun q h1 h2 => hn_144 q (by omega))
        have hse_147 : vLA cy B g_142 146 169 Sv := vLA_fr hse_125 (fun q h1 h2 => hn_144 q (by omega))
        have hbe_148 : vLA cy B g_142 153 366 (uZ Bea ((61 * ((c.length : Nat) : Int)) + ((a : Nat) : Int)) (MB c 1 c.length a)) := vLA_fr hbe_126 (fun q h1 h2 => hn_144 q (by omega))
        have hlo_149 : vLA cy B g_142 154 366 (uZ Loa ((61 * ((c.length : Nat) : Int)) + ((a : Nat) : Int)) (MB c 2 c.length a)) := vLA_fr hlo_127 (fun q h1 h2 => hn_144 q (by omega))
        have hsh_150 : vLA cy B g_142 155 366 (uZ Sha ((61 * ((c.length : Nat) : Int)) + ((a : Nat) : Int)) (MB c 3 c.length a)) := vLA_fr hsh_128 (fun q h1 h2 => hn_144 q (by omega))
        have hro_151 : vIA cy B g_142 156 366 (uZ Roa ((61 * ((c.length : Nat) : Int)) + ((a : Nat) : Int)) (MB c 4 c.length a)) := he_143
        have hfr_152 : ∀ q, (q ≠ 153 ∧ q ≠ 154 ∧ q ≠ 155 ∧ q ≠ 156) → g_142 q = g q := fun q hq => (hn_144 q (by omega)).trans (hfr_130 q hq)
        refine w_iinc 5 [(4, .int (zI (((a : Nat) : Int) + 1))), (5, .int (zI ((61 * ((c.length : Nat) : Int)) + ((a : Nat) : Int)))), (0, .ref (B + 141)), (1, .int (zI ((k : Nat) : Int))), (2, .int (zI ((c.length : Nat) : Int))), (3, .int (zI ((coR c : Nat) : Int)))] dX11_laysBehind_96 rfl (by decide) rfl ?_
        refine w_goto 16 dX11_laysBehind_99 (by decide) ?_
        refine w_sub [(0, .ref (B + 141)), (1, .int (zI ((k : Nat) : Int))), (2, .int (zI ((c.length : Nat) : Int))), (3, .int (zI ((coR c : Nat) : Int))), (4, .int (zI (((a : Nat) : Int) + 1)))] [2, 3, 4, 5, 0] rfl ?_
        refine w_lv (lv' := [(0, .ref (B + 141)), (1, .int (zI ((k : Nat) : Int))), (2, .int (zI ((c.length : Nat) : Int))), (3, .int (zI ((coR c : Nat) : Int))), (4, .int (zI (((a + 1) : Nat) : Int)))]) (lc_s (lc_s (lc_s (lc_s (lc_i (by first | omega | with_reducible rfl) rfl))))) ?_
        exact ih_16 (a + 1) (uZ Bea ((61 * ((c.length : Nat) : Int)) + ((a : Nat) : Int)) (MB c 1 c.length a)) (uZ Loa ((61 * ((c.length : Nat) : Int)) + ((a : Nat) : Int)) (MB c 2 c.length a)) (uZ Sha ((61 * ((c.length : Nat) : Int)) + ((a : Nat) : Int)) (MB c 3 c.length a)) (uZ Roa ((61 * ((c.length : Nat) : Int)) + ((a : Nat) : Int)) (MB c 4 c.length a)) g_142 ⟨hm_145, hnow_146, hse_147, hbe_148, hlo_149, hsh_150, hro_151, hfr_152, (by first | omega | with_reducible rfl), (NBr2_up hN9 rfl rfl rfl rfl)⟩ (by first | omega | with_reducible rfl)

set_option maxHeartbeats 4000000 in
set_option maxRecDepth 100000 in
theorem c_X11_laysAhead {l : Launch} {D : va_G} {cy : Nat → ClassId} {B N : Nat} {g : Nat → va_E} {cg le sp va o0 tn aw mw fw ls gs sn sw kr : Int} {Nw Sv Ah : Int → Int} {k : Nat} {c : List Co} (hm : vM cy B g 141 cg le sp va o0 tn aw mw fw ls gs sn sw kr) (hnow : vIA cy B g 142 49 Nw) (hse : vLA cy B g 146 169 Sv) (hah : vLA cy B g 152 366 Ah) (hN : 160 ≤ N) (hmc : MC Nw k c) (hc : cok c) (hSv : SvOK Sv) : CTv l yX11_laysAhead wsX11_laysAhead (rmo 3 68) D cy B N g [.ref (B + 141), .int (zI ((k : Nat) : Int))] (fun g' => ∃ Ah1 : Int → Int, vLA cy B g' 152 366 Ah1 ∧ (∀ j : Nat, j ≤ c.length → ∀ y : Nat, y ≤ 60 → Ah1 (61 * ((j : Nat) : Int) + ((y : Nat) : Int)) = ah (clR (coT c) (coV c) j) y) ∧ (∀ q, q ≠ 152 → g' q = g q)) := by
  refine WW_of (cc := cX11_laysAhead) (maxL := 5) (ret := none) (own := RX11) (by decide) rfl rfl (Nat.le_of_ble_eq_true rfl) rfl ?_
  intro pp ee ss mm bl me co hmn
  have hfr_0 : ∀ q, q ≠ 152 → g q = g q := fun _ _ => rfl
  have hk3 := hmc.1
  refine w_iconst dX11_laysAhead_0 ?_
  refine w_istore_n [(2, .int (zI 0)), (0, .ref (B + 141)), (1, .int (zI ((k : Nat) : Int)))] dX11_laysAhead_1 rfl (by decide) rfl ?_
  refine w_sub [(0, .ref (B + 141)), (1, .int (zI ((k : Nat) : Int))), (2, .int (zI 0))] [1, 2, 0] rfl ?_
  refine w_lv (lv' := [(0, .ref (B + 141)), (1, .int (zI ((k : Nat) : Int))), (2, .int (zI ((0 : Nat) : Int)))]) (lc_s (lc_s (lc_i (by first | omega | with_reducible rfl) rfl))) ?_
  refine w_loop3 (fun (i : Nat) (Ahi : Int → Int) (gl_1 : (Nat → va_E)) => vM cy B gl_1 141 cg le sp va o0 tn aw mw fw ls gs sn sw kr ∧ vIA cy B gl_1 142 49 Nw ∧ vLA cy B gl_1 146 169 Sv ∧ vLA cy B gl_1 152 366 Ahi ∧ (∀ q, q ≠ 152 → gl_1 q = g q) ∧ i ≤ 366 ∧ (∀ y : Int, 0 ≤ y → y < i → Ahi y = if y = 0 then 1 else 0)) (fun (i : Nat) (Ahi : Int → Int) (gl_1 : (Nat → va_E)) => 366 - i) (fun (i : Nat) (Ahi : Int → Int) (gl_1 : (Nat → va_E)) => gl_1) (fun (i : Nat) (Ahi : Int → Int) (gl_1 : (Nat → va_E)) => [(0, .ref (B + 141)), (1, .int (zI ((k : Nat) : Int))), (2, .int (zI ((i : Nat) : Int)))]) ?_ 0 Ah g ⟨hm, hnow, hse, hah, hfr_0, (by first | omega | with_reducible rfl), (fun y h1 h2 => by omega)⟩
  rintro i Ahi gl_1 ⟨hm_2, hnow_3, hse_4, hah_5, hfr_6, hi, hz9⟩ ih_2
  refine w_iload_n dX11_laysAhead_2 rfl 2 rfl ?_
  refine w_sipush dX11_laysAhead_3 (by decide) ?_
  refine w_icmp_ge 30 dX11_laysAhead_6 (by decide) (by first | omega | with_reducible rfl) (by first | omega | with_reducible rfl) (fun c_6 => ?_) (fun c_6 => ?_)
  · refine w_iconst dX11_laysAhead_30 ?_
    refine w_istore_n [(2, .int (zI 0)), (0, .ref (B + 141)), (1, .int (zI ((k : Nat) : Int)))] dX11_laysAhead_31 rfl (by decide) rfl ?_
    refine w_sub [(0, .ref (B + 141)), (1, .int (zI ((k : Nat) : Int))), (2, .int (zI 0))] [1, 2, 0] rfl ?_
    refine w_lv (lv' := [(0, .ref (B + 141)), (1, .int (zI ((k : Nat) : Int))), (2, .int (zI ((0 : Nat) : Int)))]) (lc_s (lc_s (lc_i (by first | omega | with_reducible rfl) rfl))) ?_
    refine w_loop3 (fun (j : Nat) (Ahj : Int → Int) (gl_7 : (Nat → va_E)) => vM cy B gl_7 141 cg le sp va o0 tn aw mw fw ls gs sn sw kr ∧ vIA cy B gl_7 142 49 Nw ∧ vLA cy B gl_7 146 169 Sv ∧ vLA cy B gl_7 152 366 Ahj ∧ (∀ q, q ≠ 152 → gl_7 q = g q) ∧ j ≤ c.length ∧ aJR c Ahj j 0 0) (fun (j : Nat) (Ahj : Int → Int) (gl_7 : (Nat → va_E)) => c.length - j) (fun (j : Nat) (Ahj : Int → Int) (gl_7 : (Nat → va_E)) => gl_7) (fun (j : Nat) (Ahj : Int → Int) (gl_7 : (Nat → va_E)) => [(0, .ref (B + 141)), (1, .int (zI ((k : Nat) : Int))), (2, .int (zI ((j : Nat) : Int)))]) ?_ 0 Ahi gl_1 ⟨hm_2, hnow_3, hse_4, hah_5, hfr_6, (by first | omega | with_reducible rfl), (aJR_0 (fun y h1 h2 => hz9 y h1 (by omega)))⟩
    rintro j Ahj gl_7 ⟨hm_8, hnow_9, hse_10, hah_11, hfr_12, hj, hJ9⟩ ih_32
    refine w_iload_n dX11_laysAhead_32 rfl 2 rfl ?_
    refine w_aload_n dX11_laysAhead_33 rfl 0 rfl ?_
    refine w_iload_n dX11_laysAhead_34 rfl 1 rfl ?_
    refine w_calli (As := [.int (zI ((k : Nat) : Int))]) (rest := [.int (zI ((j : Nat) : Int))]) (n := 1) (c_X11_columns (k := k) hm_8 hnow_9 (by first | omega | with_reducible rfl) (by first | omega | with_reducible rfl)) gX11_laysAhead_X11_columns rfl rfl rfl (by decide +kernel) ⟨Nat.le_of_ble_eq_true rfl, Nat.le_of_ble_eq_true rfl⟩ rfl (by first | omega | with_reducible rfl) hm_8 rfl (Nat.le_of_ble_eq_true rfl) ⟨Nat.zero_le _, Nat.zero_le _⟩ dX11_laysAhead_35 rfl (fun g_13 hp_14 => ?_)
    subst g_13
    refine w_icmp_ge 137 dX11_laysAhead_38 (by decide) (by first | omega | with_reducible rfl) (by first | omega | with_reducible rfl) (fun c_38 => ?_) (fun c_38 => ?_)
    · have hje : j = c.length := by omega
      exact w_vret dX11_laysAhead_137 rfl ⟨Ahj, hah_11, (fun i hi y hy => hJ9.1 i (by omega) y hy), hfr_12⟩
    · have hcj := hc.2 ((j : Nat) : Int) (by omega) (by omega)
      have htn : (((coT c ((j : Nat) : Int)).toNat : Nat) : Int) = coT c ((j : Nat) : Int) := by omega
      refine w_iconst dX11_laysAhead_41 ?_
      refine w_istore_n [(3, .int (zI 0)), (0, .ref (B + 141)), (1, .int (zI ((k : Nat) : Int))), (2, .int (zI ((j : Nat) : Int)))] dX11_laysAhead_42 rfl (by decide) rfl ?_
      refine w_sub [(0, .ref (B + 141)), (1, .int (zI ((k : Nat) : Int))), (2, .int (zI ((j : Nat) : Int))), (3, .int (zI 0))] [1, 2, 3, 0] rfl ?_
      refine w_lv (lv' := [(0, .ref (B + 141)), (1, .int (zI ((k : Nat) : Int))), (2, .int (zI ((j : Nat) : Int))), (3, .int (zI ((0 : Nat) : Int)))]) (lc_s (lc_s (lc_s (lc_i (by first | omega | with_reducible rfl) rfl)))) ?_
      refine w_loop3 (fun (a : Nat) (Aha : Int → Int) (gl_15 : (Nat → va_E)) => vM cy B gl_15 141 cg le sp va o0 tn aw mw fw ls gs sn sw kr ∧ vIA cy B gl_15 142 49 Nw ∧ vLA cy B gl_15 146 169 Sv ∧ vLA cy B gl_15 152 366 Aha ∧ (∀ q, q ≠ 152 → gl_15 q = g q) ∧ a ≤ 61 ∧ aJR c Aha j a 0) (fun (a : Nat) (Aha : Int → Int) (gl_15 : (Nat → va_E)) => 61 - a) (fun (a : Nat) (Aha : Int → Int) (gl_15 : (Nat → va_E)) => gl_15) (fun (a : Nat) (Aha : Int → Int) (gl_15 : (Nat → va_E)) => [(0, .ref (B + 141)), (1, .int (zI ((k : Nat) : Int))), (2, .int (zI ((j : Nat) : Int))), (3, .int (zI ((a : Nat) : Int)))]) ?_ 0 Ahj gl_7 ⟨hm_8, hnow_9, hse_10, hah_11, hfr_12, (by first | omega | with_reducible rfl), hJ9⟩
      rintro a Aha gl_15 ⟨hm_16, hnow_17, hse_18, hah_19, hfr_20, ha, hA9⟩ ih_43
      refine w_iload_n dX11_laysAhead_43 rfl 3 rfl ?_
      refine w_bipush dX11_laysAhead_44 (by decide) ?_
      refine w_icmp_ge 131 dX11_laysAhead_46 (by decide) (by first | omega | with_reducible rfl) (by first | omega | with_reducible rfl) (fun c_46 => ?_) (fun c_46 => ?_)
      · refine w_iinc 2 [(2, .int (zI (((j : Nat) : Int) + 1))), (0, .ref (B + 141)), (1, .int (zI ((k : Nat) : Int))), (3, .int (zI ((a : Nat) : Int)))] dX11_laysAhead_131 rfl (by decide) rfl ?_
        refine w_goto 32 dX11_laysAhead_134 (by decide) ?_
        refine w_sub [(0, .ref (B + 141)), (1, .int (zI ((k : Nat) : Int))), (2, .int (zI (((j : Nat) : Int) + 1)))] [1, 2, 0] rfl ?_
        refine w_lv (lv' := [(0, .ref (B + 141)), (1, .int (zI ((k : Nat) : Int))), (2, .int (zI (((j + 1) : Nat) : Int)))]) (lc_s (lc_s (lc_i (by first | omega | with_reducible rfl) rfl))) ?_
        exact ih_32 (j + 1) Aha gl_15 ⟨hm_16, hnow_17, hse_18, hah_19, hfr_20, (by first | omega | with_reducible rfl), (aJR_row hc (by omega) (by rw [show 61 = a by omega]; exact hA9))⟩ (by first | omega | with_reducible rfl)
      · have hah := ah_rg (cs := clR (coT c) (coV c) j) (a := a)
        have hab := ah_60 hc (j := j) (a := a) (by omega)
        refine w_iconst dX11_laysAhead_49 ?_
        refine w_istore [(4, .int (zI 0)), (0, .ref (B + 141)), (1, .int (zI ((k : Nat) : Int))), (2, .int (zI ((j : Nat) : Int))), (3, .int (zI ((a : Nat) : Int)))] dX11_laysAhead_50 (by decide) rfl ?_
        refine w_sub [(0, .ref (B + 141)), (1, .int (zI ((k : Nat) : Int))), (2, .int (zI ((j : Nat) : Int))), (3, .int (zI ((a : Nat) : Int))), (4, .int (zI 0))] [1, 2, 3, 4, 0] rfl ?_
        refine w_lv (lv' := [(0, .ref (B + 141)), (1, .int (zI ((k : Nat) : Int))), (2, .int (zI ((j : Nat) : Int))), (3, .int (zI ((a : Nat) : Int))), (4, .int (zI ((0 : Nat) : Int)))]) (lc_s (lc_s (lc_s (lc_s (lc_i (by first | omega | with_reducible rfl) rfl))))) ?_
        refine w_loop3 (fun (x : Nat) (Ahx : Int → Int) (gl_21 : (Nat → va_E)) => vM cy B gl_21 141 cg le sp va o0 tn aw mw fw ls gs sn sw kr ∧ vIA cy B gl_21 142 49 Nw ∧ vLA cy B gl_21 146 169 Sv ∧ vLA cy B gl_21 152 366 Ahx ∧ (∀ q, q ≠ 152 → gl_21 q = g q) ∧ x ≤ (coT c ((j : Nat) : Int)).toNat + 1 ∧ aJR c Ahx j a x) (fun (x : Nat) (Ahx : Int → Int) (gl_21 : (Nat → va_E)) => 13 - x) (fun (x : Nat) (Ahx : Int → Int) (gl_21 : (Nat → va_E)) => gl_21) (fun (x : Nat) (Ahx : Int → Int) (gl_21 : (Nat → va_E)) => [(0, .ref (B + 141)), (1, .int (zI ((k : Nat) : Int))), (2, .int (zI ((j : Nat) : Int))), (3, .int (zI ((a : Nat) : Int))), (4, .int (zI ((x : Nat) : Int)))]) ?_ 0 Aha gl_15 ⟨hm_16, hnow_17, hse_18, hah_19, hfr_20, (by first | omega | with_reducible rfl), hA9⟩
        rintro x Ahx gl_21 ⟨hm_22, hnow_23, hse_24, hah_25, hfr_26, hx, hX9⟩ ih_52
        have hrd := aJR_rd hX9 (by omega) (by omega)
        refine w_iload dX11_laysAhead_52 4 rfl ?_
        refine w_aload_n dX11_laysAhead_54 rfl 0 rfl ?_
        refine w_iload_n dX11_laysAhead_55 rfl 1 rfl ?_
        refine w_iload_n dX11_laysAhead_56 rfl 2 rfl ?_
        refine w_iconst dX11_laysAhead_57 ?_
        refine w_calli (As := [.int (zI ((k : Nat) : Int)), .int (zI ((j : Nat) : Int)), .int (zI 0)]) (rest := [.int (zI ((x : Nat) : Int))]) (n := 3) (c_X11_of0 (k := k) hm_22 hnow_23 (by first | omega | with_reducible rfl) (by first | omega | with_reducible rfl) (by first | omega | with_reducible rfl)) gX11_laysAhead_X11_of rfl rfl rfl (by decide +kernel) ⟨Nat.le_of_ble_eq_true rfl, Nat.le_of_ble_eq_true rfl⟩ rfl (by first | omega | with_reducible rfl) hm_22 rfl (Nat.le_of_ble_eq_true rfl) ⟨Nat.zero_le _, Nat.zero_le _⟩ dX11_laysAhead_58 rfl (fun g_27 hp_28 => ?_)
        subst g_27
        refine w_icmp_gt 125 dX11_laysAhead_61 (by decide) (by first | omega | with_reducible rfl) (by first | omega | with_reducible rfl) (fun c_61 => ?_) (fun c_61 => ?_)
        · refine w_iinc 3 [(3, .int (zI (((a : Nat) : Int) + 1))), (0, .ref (B + 141)), (1, .int (zI ((k : Nat) : Int))), (2, .int (zI ((j : Nat) : Int))), (4, .int (zI ((x : Nat) : Int)))] dX11_laysAhead_125 rfl (by decide) rfl ?_
          refine w_goto 43 dX11_laysAhead_128 (by decide) ?_
          refine w_sub [(0, .ref (B + 141)), (1, .int (zI ((k : Nat) : Int))), (2, .int (zI ((j : Nat) : Int))), (3, .int (zI (((a : Nat) : Int) + 1)))] [1, 2, 3, 0] rfl ?_
          refine w_lv (lv' := [(0, .ref (B + 141)), (1, .int (zI ((k : Nat) : Int))), (2, .int (zI ((j : Nat) : Int))), (3, .int (zI (((a + 1) : Nat) : Int)))]) (lc_s (lc_s (lc_s (lc_i (by first | omega | with_reducible rfl) rfl)))) ?_
          exact ih_43 (a + 1) Ahx gl_21 ⟨hm_22, hnow_23, hse_24, hah_25, hfr_26, (by first | omega | with_reducible rfl), (aJR_a hc (by omega) (by omega) hX9 (by omega))⟩ (by first | omega | with_reducible rfl)
        · refine w_aload_n dX11_laysAhead_64 rfl 0 rfl ?_
          refine w_get (i := 24) (T := TX11) (NF := 32) 141 (by first | omega | with_reducible rfl) hm_22 rfl (fun _ h => (List.mem_cons_of_mem _ (List.mem_append_right _ h))) (by decide) (List.mem_of_getElem? (i := 1) rfl) rfl dX11_laysAhead_65 ?_
          refine w_bipush dX11_laysAhead_68 (by decide) ?_
          refine w_iload_n dX11_laysAhead_70 rfl 2 rfl ?_
          refine w_imul dX11_laysAhead_71 ?_
          refine w_iload_n dX11_laysAhead_72 rfl 3 rfl ?_
          refine w_iadd dX11_laysAhead_73 ?_
          refine w_lald 152 (by first | omega | with_reducible rfl) hah_25 (by first | omega | with_reducible rfl) dX11_laysAhead_74 ?_
          refine w_as (st' := [.long (zJ (ah (clR (coT c) (coV c) j) a))]) (sc_l hrd rfl) ?_
          refine w_lconst0 dX11_laysAhead_75 ?_
          refine w_lcmp_le 125 dX11_laysAhead_76 dX11_laysAhead_77 (by decide) (by first | omega | with_reducible rfl) (by first | omega | with_reducible rfl) (fun c_76 => ?_) (fun c_76 => ?_)
          · refine w_iinc 3 [(3, .int (zI (((a : Nat) : Int) + 1))), (0, .ref (B + 141)), (1, .int (zI ((k : Nat) : Int))), (2, .int (zI ((j : Nat) : Int))), (4, .int (zI ((x : Nat) : Int)))] dX11_laysAhead_125 rfl (by decide) rfl ?_
            refine w_goto 43 dX11_laysAhead_128 (by decide) ?_
            refine w_sub [(0, .ref (B + 141)), (1, .int (zI ((k : Nat) : Int))), (2, .int (zI ((j : Nat) : Int))), (3, .int (zI (((a : Nat) : Int) + 1)))] [1, 2, 3, 0] rfl ?_
            refine w_lv (lv' := [(0, .ref (B + 141)), (1, .int (zI ((k : Nat) : Int))), (2, .int (zI ((j : Nat) : Int))), (3, .int (zI (((a + 1) : Nat) : Int)))]) (lc_s (lc_s (lc_s (lc_i (by first | omega | with_reducible rfl) rfl)))) ?_
            exact ih_43 (a + 1) Ahx gl_21 ⟨hm_22, hnow_23, hse_24, hah_25, hfr_26, (by first | omega | with_reducible rfl), (aJR_a hc (by omega) (by omega) hX9 (by omega))⟩ (by first | omega | with_reducible rfl)
          · have hsm := ah_small hc (by omega) (hah.2.1 (by omega))
            refine w_aload_n dX11_laysAhead_80 rfl 0 rfl ?_
            refine w_get (i := 24) (T := TX11) (NF := 32) 141 (by first | omega | with_reducible rfl) hm_22 rfl (fun _ h => (List.mem_cons_of_mem _ (List.mem_append_right _ h))) (by decide) (List.mem_of_getElem? (i := 1) rfl) rfl dX11_laysAhead_81 ?_
            refine w_bipush dX11_laysAhead_84 (by decide) ?_
            refine w_iload_n dX11_laysAhead_86 rfl 2 rfl ?_
            refine w_iconst dX11_laysAhead_87 ?_
            refine w_iadd dX11_laysAhead_88 ?_
            refine w_imul dX11_laysAhead_89 ?_
            refine w_iload_n dX11_laysAhead_90 rfl 3 rfl ?_
            refine w_iadd dX11_laysAhead_91 ?_
            refine w_iload dX11_laysAhead_92 4 rfl ?_
            refine w_iadd dX11_laysAhead_94 ?_
            refine w_as (st' := [.int (zI (61 * (((j + 1) : Nat) : Int) + (((a + x) : Nat) : Int))), .ref (B + 152)]) (sc_i (by omega) rfl) ?_
            refine w_dup2 dX11_laysAhead_95 rfl rfl ?_
            refine w_lald 152 (by first | omega | with_reducible rfl) hah_25 (by first | omega | with_reducible rfl) dX11_laysAhead_96 ?_
            refine w_aload_n dX11_laysAhead_97 rfl 0 rfl ?_
            refine w_get (i := 24) (T := TX11) (NF := 32) 141 (by first | omega | with_reducible rfl) hm_22 rfl (fun _ h => (List.mem_cons_of_mem _ (List.mem_append_right _ h))) (by decide) (List.mem_of_getElem? (i := 1) rfl) rfl dX11_laysAhead_98 ?_
            refine w_bipush dX11_laysAhead_101 (by decide) ?_
            refine w_iload_n dX11_laysAhead_103 rfl 2 rfl ?_
            refine w_imul dX11_laysAhead_104 ?_
            refine w_iload_n dX11_laysAhead_105 rfl 3 rfl ?_
            refine w_iadd dX11_laysAhead_106 ?_
            refine w_lald 152 (by first | omega | with_reducible rfl) hah_25 (by first | omega | with_reducible rfl) dX11_laysAhead_107 ?_
            refine w_as (st' := [.long (zJ (ah (clR (coT c) (coV c) j) a)), .long (zJ (Ahx (61 * (((j + 1) : Nat) : Int) + (((a + x) : Nat) : Int)))), .int (zI (61 * (((j + 1) : Nat) : Int) + (((a + x) : Nat) : Int))), .ref (B + 152)]) (sc_l hrd rfl) ?_
            refine w_aload_n dX11_laysAhead_108 rfl 0 rfl ?_
            refine w_iload_n dX11_laysAhead_109 rfl 1 rfl ?_
            refine w_iload_n dX11_laysAhead_110 rfl 2 rfl ?_
            refine w_iload dX11_laysAhead_111 4 rfl ?_
            refine w_calll (As := [.int (zI ((k : Nat) : Int)), .int (zI ((j : Nat) : Int)), .int (zI ((x : Nat) : Int))]) (rest := [.long (zJ (ah (clR (coT c) (coV c) j) a)), .long (zJ (Ahx (61 * (((j + 1) : Nat) : Int) + (((a + x) : Nat) : Int)))), .int (zI (61 * (((j + 1) : Nat) : Int) + (((a + x) : Nat) : Int))), .ref (B + 152)]) (n := 3) (c_X11_setsOf (k := k) hm_22 hnow_23 hse_24 (by first | omega | with_reducible rfl) (by first | omega | with_reducible rfl) (by first | omega | with_reducible rfl) (by first | omega | with_reducible rfl) (by first | omega | with_reducible rfl) (by first | omega | with_reducible rfl)) gX11_laysAhead_X11_setsOf rfl rfl rfl (by decide +kernel) ⟨Nat.le_of_ble_eq_true rfl, Nat.le_of_ble_eq_true rfl⟩ rfl (by first | omega | with_reducible rfl) hm_22 rfl (Nat.le_of_ble_eq_true rfl) ⟨Nat.zero_le _, Nat.zero_le _⟩ dX11_laysAhead_113 rfl (fun g_29 hp_30 => ?_)
            subst g_29
            refine w_as (st' := [.long (zJ ((ch (coT c ((j : Nat) : Int)).toNat x : Nat) : Int)), .long (zJ (ah (clR (coT c) (coV c) j) a)), .long (zJ (Ahx (61 * (((j + 1) : Nat) : Int) + (((a + x) : Nat) : Int)))), .int (zI (61 * (((j + 1) : Nat) : Int) + (((a + x) : Nat) : Int))), .ref (B + 152)]) (sc_l (by rw [Int.toNat_natCast]) rfl) ?_
            refine w_lmul dX11_laysAhead_116 ?_
            refine w_ladd dX11_laysAhead_117 ?_
            refine w_last 152 (by first | omega | with_reducible rfl) hah_25 (by first | omega | with_reducible rfl) dX11_laysAhead_118 (fun g_31 he_32 hn_33 => ?_)
            have hm_34 : vM cy B g_31 141 cg le sp va o0 tn aw mw fw ls gs sn sw kr := vM_fr hm_22 (fun q h1 h2 => hn_33 q (by omega))
            have hnow_35 : vIA cy B g_31 142 49 Nw := vIA_fr hnow_23 (fun q h1 h2 => hn_33 q (by omega))
            have hse_36 : vLA cy B g_31 146 169 Sv := vLA_fr hse_24 (fun q h1 h2 => hn_33 q (by omega))
            have hah_37 : vLA cy B g_31 152 366 (uZ Ahx (61 * (((j + 1) : Nat) : Int) + (((a + x) : Nat) : Int)) ((Ahx (61 * (((j + 1) : Nat) : Int) + (((a + x) : Nat) : Int))) + ((ah (clR (coT c) (coV c) j) a) * ((ch (coT c ((j : Nat) : Int)).toNat x : Nat) : Int)))) := he_32
            have hfr_38 : ∀ q, q ≠ 152 → g_31 q = g q := fun q hq => (hn_33 q (by omega)).trans (hfr_26 q hq)
            refine w_iinc 4 [(4, .int (zI (((x : Nat) : Int) + 1))), (0, .ref (B + 141)), (1, .int (zI ((k : Nat) : Int))), (2, .int (zI ((j : Nat) : Int))), (3, .int (zI ((a : Nat) : Int)))] dX11_laysAhead_119 rfl (by decide) rfl ?_
            refine w_goto 52 dX11_laysAhead_122 (by decide) ?_
            refine w_sub [(0, .ref (B + 141)), (1, .int (zI ((k : Nat) : Int))), (2, .int (zI ((j : Nat) : Int))), (3, .int (zI ((a : Nat) : Int))), (4, .int (zI (((x : Nat) : Int) + 1)))] [1, 2, 3, 4, 0] rfl ?_
            refine w_lv (lv' := [(0, .ref (B + 141)), (1, .int (zI ((k : Nat) : Int))), (2, .int (zI ((j : Nat) : Int))), (3, .int (zI ((a : Nat) : Int))), (4, .int (zI (((x + 1) : Nat) : Int)))]) (lc_s (lc_s (lc_s (lc_s (lc_i (by first | omega | with_reducible rfl) rfl))))) ?_
            exact ih_52 (x + 1) (uZ Ahx (61 * (((j + 1) : Nat) : Int) + (((a + x) : Nat) : Int)) ((Ahx (61 * (((j + 1) : Nat) : Int) + (((a + x) : Nat) : Int))) + ((ah (clR (coT c) (coV c) j) a) * ((ch (coT c ((j : Nat) : Int)).toNat x : Nat) : Int)))) g_31 ⟨hm_34, hnow_35, hse_36, hah_37, hfr_38, (by first | omega | with_reducible rfl), (aJR_x hc (by omega) (by omega) (by omega) hX9)⟩ (by first | omega | with_reducible rfl)
  · refine w_aload_n dX11_laysAhead_9 rfl 0 rfl ?_
    refine w_get (i := 24) (T := TX11) (NF := 32) 141 (by first | omega | with_reducible rfl) hm_2 rfl (fun _ h => (List.mem_cons_of_mem _ (List.mem_append_right _ h))) (by decide) (List.mem_of_getElem? (i := 1) rfl) rfl dX11_laysAhead_10 ?_
    refine w_iload_n dX11_laysAhead_13 rfl 2 rfl ?_
    refine w_iload_n dX11_laysAhead_14 rfl 2 rfl ?_
    refine w_if_ne 22 dX11_laysAhead_15 (by decide) (by first | omega | with_reducible rfl) (fun c_15 => ?_) (fun c_15 => ?_)
    · refine w_lconst0 dX11_laysAhead_22 ?_
      refine w_last 152 (by first | omega | with_reducible rfl) hah_5 (by first | omega | with_reducible rfl) dX11_laysAhead_23 (fun g_39 he_40 hn_41 => ?_)
      have hm_42 : vM cy B g_39 141 cg le sp va o0 tn aw mw fw ls gs sn sw kr := vM_fr hm_2 (fun q h1 h2 => hn_41 q (by omega))
      have hnow_43 : vIA cy B g_39 142 49 Nw := vIA_fr hnow_3 (fun q h1 h2 => hn_41 q (by omega))
      have hse_44 : vLA cy B g_39 146 169 Sv := vLA_fr hse_4 (fun q h1 h2 => hn_41 q (by omega))
      have hah_45 : vLA cy B g_39 152 366 (uZ Ahi ((i : Nat) : Int) 0) := he_40
      have hfr_46 : ∀ q, q ≠ 152 → g_39 q = g q := fun q hq => (hn_41 q (by omega)).trans (hfr_6 q hq)
      refine w_iinc 2 [(2, .int (zI (((i : Nat) : Int) + 1))), (0, .ref (B + 141)), (1, .int (zI ((k : Nat) : Int)))] dX11_laysAhead_24 rfl (by decide) rfl ?_
      refine w_goto 2 dX11_laysAhead_27 (by decide) ?_
      refine w_sub [(0, .ref (B + 141)), (1, .int (zI ((k : Nat) : Int))), (2, .int (zI (((i : Nat) : Int) + 1)))] [1, 2, 0] rfl ?_
      refine w_lv (lv' := [(0, .ref (B + 141)), (1, .int (zI ((k : Nat) : Int))), (2, .int (zI (((i + 1) : Nat) : Int)))]) (lc_s (lc_s (lc_i (by first | omega | with_reducible rfl) rfl))) ?_
      exact ih_2 (i + 1) (uZ Ahi ((i : Nat) : Int) 0) g_39 ⟨hm_42, hnow_43, hse_44, hah_45, hfr_46, (by first | omega | with_reducible rfl), (step_uz hz9 (by first | exact (if_pos (by omega)).symm | exact (if_neg (by omega)).symm))⟩ (by first | omega | with_reducible rfl)
    · refine w_lconst1 dX11_laysAhead_18 ?_
      refine w_goto 23 dX11_laysAhead_19 (by decide) ?_
      refine w_last 152 (by first | omega | with_reducible rfl) hah_5 (by first | omega | with_reducible rfl) dX11_laysAhead_23 (fun g_47 he_48 hn_49 => ?_)
      have hm_50 : vM cy B g_47 141 cg le sp va o0 tn aw mw fw ls gs sn sw kr := vM_fr hm_2 (fun q h1 h2 => hn_49 q (by omega))
      have hnow_51 : vIA cy B g_47 142 49 Nw := vIA_fr hnow_3 (fun q h1 h2 => hn_49 q (by omega))
      have hse_52 : vLA cy B g_47 146 169 Sv := vLA_fr hse_4 (fun q h1 h2 => hn_49 q (by omega))
      have hah_53 : vLA cy B g_47 152 366 (uZ Ahi ((i : Nat) : Int) 1) := he_48
      have hfr_54 : ∀ q, q ≠ 152 → g_47 q = g q := fun q hq => (hn_49 q (by omega)).trans (hfr_6 q hq)
      refine w_iinc 2 [(2, .int (zI (((i : Nat) : Int) + 1))), (0, .ref (B + 141)), (1, .int (zI ((k : Nat) : Int)))] dX11_laysAhead_24 rfl (by decide) rfl ?_
      refine w_goto 2 dX11_laysAhead_27 (by decide) ?_
      refine w_sub [(0, .ref (B + 141)), (1, .int (zI ((k : Nat) : Int))), (2, .int (zI (((i : Nat) : Int) + 1)))] [1, 2, 0] rfl ?_
      refine w_lv (lv' := [(0, .ref (B + 141)), (1, .int (zI ((k : Nat) : Int))), (2, .int (zI (((i + 1) : Nat) : Int)))]) (lc_s (lc_s (lc_i (by first | omega | with_reducible rfl) rfl))) ?_
      exact ih_2 (i + 1) (uZ Ahi ((i : Nat) : Int) 1) g_47 ⟨hm_50, hnow_51, hse_52, hah_53, hfr_54, (by first | omega | with_reducible rfl), (step_uz hz9 (by first | exact (if_pos (by omega)).symm | exact (if_neg (by omega)).symm))⟩ (by first | omega | with_reducible rfl)

