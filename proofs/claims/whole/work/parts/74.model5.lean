/-! ===== the model: the text read ===== -/
def ERZ (f : Int → Int) (S : St) : Prop := ER f S ∧ Z4 f S
theorem ERZ_c {f f' : Int → Int} {A : St} {x : List Co} {c : Co} {kk at1 : Int} (h : ERZ f (A ++ [x])) (hx : x.length < 5) (hk : kk = ((A.length : Nat) : Int)) (ha : at1 = 4 + 15 * kk + 3 * ((x.length : Nat) : Int)) (he : f' = uZ (uZ (uZ (uZ f at1 c.1) (at1 + 1) c.2.1) (at1 + 2) c.2.2) (1 + kk) (((x.length : Nat) : Int) + 1)) : ERZ f' (A ++ [x ++ [c]]) := by
  subst he
  refine ⟨ER_c h.1 hx hk ha, fun y h1 h2 => ?_⟩
  have hl : ∀ y : List Co, (A ++ [y]).length = A.length + 1 := fun y => by rw [List.length_append]; rfl
  rw [hl] at h1
  rw [uZ_ne (by omega), uZ_ne (by omega), uZ_ne (by omega), uZ_ne (by omega)]
  exact h.2 y (by rw [hl]; omega) h2
theorem ERZ_s {f : Int → Int} {S : St} (h : ERZ f S) (hS : S.length < 3) : ERZ (uZ f 0 (((S.length : Nat) : Int) + 1)) (S ++ [[]]) := by
  refine ⟨ER_s h.1 hS h.2, fun y h1 h2 => ?_⟩
  have hl : (S ++ [[]]).length = S.length + 1 := by rw [List.length_append]; rfl
  rw [hl] at h1
  rw [uZ_ne (by omega)]
  exact h.2 y (by omega) h2
theorem ERZ_0 {f : Int → Int} (h : ∀ y : Int, 0 ≤ y → y < 49 → f y = 0) : ERZ f [] := ⟨ER_nil (h 0 (by omega) (by omega)), fun y h1 h2 => h y (by have : (([] : St).length : Int) = 0 := rfl; omega) (by omega)⟩
theorem vcol_nok {n : Nat} {L : Int → Int} {p : Int} : vcol n L p ↔ inA n L p = 99 ∧ nok n L (p + 1) 1 12 44 ∧ nok n L (i3 n L p) 0 (iT n L p) 44 ∧ nok n L (i5 n L p) 0 9 59 := by
  have a1 := numV_f (n := n) (L := L) (p := p + 1)
  have a2 := numV_f (n := n) (L := L) (p := i3 n L p)
  have a3 := numV_f (n := n) (L := L) (p := i5 n L p)
  have e1 : iT n L p = numV n L (p + 1) := rfl
  have e2 : iX n L p = numV n L (i3 n L p) := rfl
  have e3 : iV n L p = numV n L (i5 n L p) := rfl
  have f1 : i2 n L p = numP n L (p + 1) := rfl
  have f2 : i4 n L p = numP n L (i3 n L p) := rfl
  have f3 : i6 n L p = numP n L (i5 n L p) := rfl
  constructor
  · intro h
    obtain ⟨⟨h1, h2, h3, h4⟩, h5, h6, h7, h8, h9, h10⟩ := h
    exact ⟨h1, ⟨by omega, by omega, h2⟩, ⟨by omega, by omega, h3⟩, ⟨by omega, by omega, h4⟩⟩
  · intro h
    obtain ⟨h1, ⟨h2, h3, h4⟩, ⟨h5, h6, h7⟩, h8, h9, h10⟩ := h
    exact ⟨⟨h1, h4, h7, h10⟩, by omega, by omega, by omega, by omega, by omega, by omega⟩
set_option maxHeartbeats 4000000 in
set_option maxRecDepth 100000 in
theorem c_X11_begins {l : Launch} {D : va_G} {cy : Nat → ClassId} {B N : Nat} {g : Nat → va_E} {cg le sp va o0 tn aw mw fw ls gs sn sw kr : Int} {Rd : Int → Int} (hm : vM cy B g 141 cg le sp va o0 tn aw mw fw ls gs sn sw kr) (hrd : vIA cy B g 143 49 Rd) (hN : 160 ≤ N) : CTv l yX11_begins wsX11_begins (rmo 0 0) D cy B N g [.ref (B + 141)] (fun g' => ∃ Rd1 : Int → Int, vIA cy B g' 143 49 Rd1 ∧ (∀ y : Int, 0 ≤ y → y < 49 → Rd1 y = 0) ∧ (∀ q, q ≠ 143 → g' q = g q)) := by
  refine WW_of (cc := cX11_begins) (maxL := 2) (ret := none) (own := RX11) (by decide) rfl rfl (Nat.le_of_ble_eq_true rfl) rfl ?_
  intro pp ee ss mm bl me co hmn
  have hfr_0 : ∀ q, q ≠ 143 → g q = g q := fun _ _ => rfl
  refine w_iconst dX11_begins_0 ?_
  refine w_istore_n [(1, .int (zI 0)), (0, .ref (B + 141))] dX11_begins_1 rfl (by decide) rfl ?_
  refine w_sub [(0, .ref (B + 141)), (1, .int (zI 0))] [1, 0] rfl ?_
  refine w_lv (lv' := [(0, .ref (B + 141)), (1, .int (zI ((0 : Nat) : Int)))]) (lc_s (lc_i (by first | omega | with_reducible rfl) rfl)) ?_
  refine w_loop3 (fun (i : Nat) (Rdi : Int → Int) (gl_1 : (Nat → va_E)) => vM cy B gl_1 141 cg le sp va o0 tn aw mw fw ls gs sn sw kr ∧ vIA cy B gl_1 143 49 Rdi ∧ (∀ q, q ≠ 143 → gl_1 q = g q) ∧ i ≤ 49 ∧ (∀ y : Int, 0 ≤ y → y < i → Rdi y = 0)) (fun (i : Nat) (Rdi : Int → Int) (gl_1 : (Nat → va_E)) => 49 - i) (fun (i : Nat) (Rdi : Int → Int) (gl_1 : (Nat → va_E)) => gl_1) (fun (i : Nat) (Rdi : Int → Int) (gl_1 : (Nat → va_E)) => [(0, .ref (B + 141)), (1, .int (zI ((i : Nat) : Int)))]) ?_ 0 Rd g ⟨hm, hrd, hfr_0, (by first | omega | with_reducible rfl), (fun y h1 h2 => by omega)⟩
  rintro i Rdi gl_1 ⟨hm_2, hrd_3, hfr_4, hi, hz9⟩ ih_2
  refine w_iload_n dX11_begins_2 rfl 1 rfl ?_
  refine w_bipush dX11_begins_3 (by decide) ?_
  refine w_icmp_ge 21 dX11_begins_5 (by decide) (by first | omega | with_reducible rfl) (by first | omega | with_reducible rfl) (fun c_5 => ?_) (fun c_5 => ?_)
  · exact w_vret dX11_begins_21 rfl ⟨Rdi, hrd_3, (fun y h1 h2 => hz9 y h1 (by omega)), hfr_4⟩
  · refine w_aload_n dX11_begins_8 rfl 0 rfl ?_
    refine w_get (i := 1) (T := TX11) (NF := 32) 141 (by first | omega | with_reducible rfl) hm_2 rfl (fun _ h => (List.mem_cons_of_mem _ (List.mem_append_right _ h))) (by decide) (List.mem_of_getElem? (i := 1) rfl) rfl dX11_begins_9 ?_
    refine w_iload_n dX11_begins_12 rfl 1 rfl ?_
    refine w_iconst dX11_begins_13 ?_
    refine w_iast 143 (by first | omega | with_reducible rfl) hrd_3 (by first | omega | with_reducible rfl) dX11_begins_14 (fun g_5 he_6 hn_7 => ?_)
    have hm_8 : vM cy B g_5 141 cg le sp va o0 tn aw mw fw ls gs sn sw kr := vM_fr hm_2 (fun q h1 h2 => hn_7 q (by omega))
    have hrd_9 : vIA cy B g_5 143 49 (uZ Rdi ((i : Nat) : Int) 0) := he_6
    have hfr_10 : ∀ q, q ≠ 143 → g_5 q = g q := fun q hq => (hn_7 q (by omega)).trans (hfr_4 q hq)
    refine w_iinc 1 [(1, .int (zI (((i : Nat) : Int) + 1))), (0, .ref (B + 141))] dX11_begins_15 rfl (by decide) rfl ?_
    refine w_goto 2 dX11_begins_18 (by decide) ?_
    refine w_sub [(0, .ref (B + 141)), (1, .int (zI (((i : Nat) : Int) + 1)))] [1, 0] rfl ?_
    refine w_lv (lv' := [(0, .ref (B + 141)), (1, .int (zI (((i + 1) : Nat) : Int)))]) (lc_s (lc_i (by first | omega | with_reducible rfl) rfl)) ?_
    exact ih_2 (i + 1) (uZ Rdi ((i : Nat) : Int) 0) g_5 ⟨hm_8, hrd_9, hfr_10, (by first | omega | with_reducible rfl), (step_uz (f := fun _ => 0) hz9 rfl)⟩ (by first | omega | with_reducible rfl)

set_option maxHeartbeats 4000000 in
set_option maxRecDepth 100000 in
theorem c_X11_takes {l : Launch} {D : va_G} {cy : Nat → ClassId} {B N : Nat} {g : Nat → va_E} {cg le sp va o0 tn aw mw fw ls gs sn sw kr : Int} {Nw Rd : Int → Int} (hm : vM cy B g 141 cg le sp va o0 tn aw mw fw ls gs sn sw kr) (hnow : vIA cy B g 142 49 Nw) (hrd : vIA cy B g 143 49 Rd) (hN : 160 ≤ N) : CTv l yX11_takes wsX11_takes (rmo 0 0) D cy B N g [.ref (B + 141)] (fun g' => ∃ Nw1 : Int → Int, vM cy B g' 141 0 le sp va o0 tn aw mw fw ls gs sn sw kr ∧ vIA cy B g' 142 49 Nw1 ∧ (∀ y : Int, 0 ≤ y → y < 49 → Nw1 y = Rd y) ∧ (∀ q, (q ≠ 141 ∧ q ≠ 142) → g' q = g q)) := by
  refine WW_of (cc := cX11_takes) (maxL := 2) (ret := none) (own := RX11) (by decide) rfl rfl (Nat.le_of_ble_eq_true rfl) rfl ?_
  intro pp ee ss mm bl me co hmn
  have hfr_0 : ∀ q, (q ≠ 141 ∧ q ≠ 142) → g q = g q := fun _ _ => rfl
  refine w_iconst dX11_takes_0 ?_
  refine w_istore_n [(1, .int (zI 0)), (0, .ref (B + 141))] dX11_takes_1 rfl (by decide) rfl ?_
  refine w_sub [(0, .ref (B + 141)), (1, .int (zI 0))] [1, 0] rfl ?_
  refine w_lv (lv' := [(0, .ref (B + 141)), (1, .int (zI ((0 : Nat) : Int)))]) (lc_s (lc_i (by first | omega | with_reducible rfl) rfl)) ?_
  refine w_loop3 (fun (i : Nat) (Nwi : Int → Int) (gl_1 : (Nat → va_E)) => vM cy B gl_1 141 cg le sp va o0 tn aw mw fw ls gs sn sw kr ∧ vIA cy B gl_1 142 49 Nwi ∧ vIA cy B gl_1 143 49 Rd ∧ (∀ q, (q ≠ 141 ∧ q ≠ 142) → gl_1 q = g q) ∧ i ≤ 49 ∧ (∀ y : Int, 0 ≤ y → y < i → Nwi y = Rd y)) (fun (i : Nat) (Nwi : Int → Int) (gl_1 : (Nat → va_E)) => 49 - i) (fun (i : Nat) (Nwi : Int → Int) (gl_1 : (Nat → va_E)) => gl_1) (fun (i : Nat) (Nwi : Int → Int) (gl_1 : (Nat → va_E)) => [(0, .ref (B + 141)), (1, .int (zI ((i : Nat) : Int)))]) ?_ 0 Nw g ⟨hm, hnow, hrd, hfr_0, (by first | omega | with_reducible rfl), (fun y h1 h2 => by omega)⟩
  rintro i Nwi gl_1 ⟨hm_2, hnow_3, hrd_4, hfr_5, hi, hz9⟩ ih_2
  refine w_iload_n dX11_takes_2 rfl 1 rfl ?_
  refine w_bipush dX11_takes_3 (by decide) ?_
  refine w_icmp_ge 26 dX11_takes_5 (by decide) (by first | omega | with_reducible rfl) (by first | omega | with_reducible rfl) (fun c_5 => ?_) (fun c_5 => ?_)
  · refine w_aload_n dX11_takes_26 rfl 0 rfl ?_
    refine w_iconst dX11_takes_27 ?_
    refine w_put (i := 3) (T := TX11) (NF := 32) 141 (by first | omega | with_reducible rfl) hm_2 rfl (fun _ h => (List.mem_cons_of_mem _ (List.mem_append_right _ h))) tyX11 tyX11_ok nmX11 (by decide) (List.mem_of_getElem? (i := 3) rfl) rfl rfl rfl (Nat.le_of_ble_eq_true rfl) dX11_takes_28 (fun g_6 he_7 hn_8 => ?_)
    have hm_9 : vM cy B g_6 141 0 le sp va o0 tn aw mw fw ls gs sn sw kr := he_7
    have hnow_10 : vIA cy B g_6 142 49 Nwi := vIA_fr hnow_3 (fun q h1 h2 => hn_8 q (by omega))
    have hrd_11 : vIA cy B g_6 143 49 Rd := vIA_fr hrd_4 (fun q h1 h2 => hn_8 q (by omega))
    have hfr_12 : ∀ q, (q ≠ 141 ∧ q ≠ 142) → g_6 q = g q := fun q hq => (hn_8 q (by omega)).trans (hfr_5 q hq)
    exact w_vret dX11_takes_31 rfl ⟨Nwi, hm_9, hnow_10, (fun y h1 h2 => hz9 y h1 (by omega)), hfr_12⟩
  · refine w_aload_n dX11_takes_8 rfl 0 rfl ?_
    refine w_get (i := 0) (T := TX11) (NF := 32) 141 (by first | omega | with_reducible rfl) hm_2 rfl (fun _ h => (List.mem_cons_of_mem _ (List.mem_append_right _ h))) (by decide) (List.mem_of_getElem? (i := 1) rfl) rfl dX11_takes_9 ?_
    refine w_iload_n dX11_takes_12 rfl 1 rfl ?_
    refine w_aload_n dX11_takes_13 rfl 0 rfl ?_
    refine w_get (i := 1) (T := TX11) (NF := 32) 141 (by first | omega | with_reducible rfl) hm_2 rfl (fun _ h => (List.mem_cons_of_mem _ (List.mem_append_right _ h))) (by decide) (List.mem_of_getElem? (i := 2) rfl) rfl dX11_takes_14 ?_
    refine w_iload_n dX11_takes_17 rfl 1 rfl ?_
    refine w_iald 143 (by first | omega | with_reducible rfl) hrd_4 (by first | omega | with_reducible rfl) dX11_takes_18 ?_
    refine w_iast 142 (by first | omega | with_reducible rfl) hnow_3 (by first | omega | with_reducible rfl) dX11_takes_19 (fun g_13 he_14 hn_15 => ?_)
    have hm_16 : vM cy B g_13 141 cg le sp va o0 tn aw mw fw ls gs sn sw kr := vM_fr hm_2 (fun q h1 h2 => hn_15 q (by omega))
    have hnow_17 : vIA cy B g_13 142 49 (uZ Nwi ((i : Nat) : Int) (Rd ((i : Nat) : Int))) := he_14
    have hrd_18 : vIA cy B g_13 143 49 Rd := vIA_fr hrd_4 (fun q h1 h2 => hn_15 q (by omega))
    have hfr_19 : ∀ q, (q ≠ 141 ∧ q ≠ 142) → g_13 q = g q := fun q hq => (hn_15 q (by omega)).trans (hfr_5 q hq)
    refine w_iinc 1 [(1, .int (zI (((i : Nat) : Int) + 1))), (0, .ref (B + 141))] dX11_takes_20 rfl (by decide) rfl ?_
    refine w_goto 2 dX11_takes_23 (by decide) ?_
    refine w_sub [(0, .ref (B + 141)), (1, .int (zI (((i : Nat) : Int) + 1)))] [1, 0] rfl ?_
    refine w_lv (lv' := [(0, .ref (B + 141)), (1, .int (zI (((i + 1) : Nat) : Int)))]) (lc_s (lc_i (by first | omega | with_reducible rfl) rfl)) ?_
    exact ih_2 (i + 1) (uZ Nwi ((i : Nat) : Int) (Rd ((i : Nat) : Int))) g_13 ⟨hm_16, hnow_17, hrd_18, hfr_19, (by first | omega | with_reducible rfl), (step_uz hz9 rfl)⟩ (by first | omega | with_reducible rfl)

set_option maxHeartbeats 4000000 in
set_option maxRecDepth 100000 in
theorem c_X11_puts {l : Launch} {D : va_G} {cy : Nat → ClassId} {B N : Nat} {g : Nat → va_E} {cg le sp va o0 tn aw mw fw ls gs sn sw kr : Int} {Rd : Int → Int} {A : St} {x : List Co} {t a1 v1 : Int} (hm : vM cy B g 141 cg le sp va o0 tn aw mw fw ls gs sn sw kr) (hrd : vIA cy B g 143 49 Rd) (hN : 160 ≤ N) (hEZ : ERZ Rd (A ++ [x])) (hx5 : x.length < 5) : CTv l yX11_puts wsX11_puts (rmo 0 0) D cy B N g [.ref (B + 141), .int (zI t), .int (zI a1), .int (zI v1)] (fun g' => ∃ Rd1 : Int → Int, vIA cy B g' 143 49 Rd1 ∧ (ERZ Rd1 (A ++ [x ++ [(t, a1, v1)]])) ∧ (∀ q, q ≠ 143 → g' q = g q)) := by
  refine WW_of (cc := cX11_puts) (maxL := 6) (ret := none) (own := RX11) (by decide) rfl rfl (Nat.le_of_ble_eq_true rfl) rfl ?_
  intro pp ee ss mm bl me co hmn
  have hfr_0 : ∀ q, q ≠ 143 → g q = g q := fun _ _ => rfl
  have hlA : (A ++ [x]).length = A.length + 1 := by rw [List.length_append]; rfl
  have hE1 := hEZ.1.1
  have hMx := hEZ.1.2 A.length (by omega)
  have hgx : (A ++ [x]).getD A.length [] = x := gD_e
  rw [hgx] at hMx
  have hM1 := hMx.1
  have hM2 := hMx.2.1
  refine w_aload_n dX11_puts_0 rfl 0 rfl ?_
  refine w_get (i := 1) (T := TX11) (NF := 32) 141 (by first | omega | with_reducible rfl) hm rfl (fun _ h => (List.mem_cons_of_mem _ (List.mem_append_right _ h))) (by decide) (List.mem_of_getElem? (i := 1) rfl) rfl dX11_puts_1 ?_
  refine w_iconst dX11_puts_4 ?_
  refine w_iald 143 (by first | omega | with_reducible rfl) hrd (by first | omega | with_reducible rfl) dX11_puts_5 ?_
  refine w_iconst dX11_puts_6 ?_
  refine w_isub dX11_puts_7 ?_
  refine w_as (st' := [.int (zI ((A.length : Nat) : Int))]) (sc_i (by omega) rfl) ?_
  refine w_istore [(4, .int (zI ((A.length : Nat) : Int))), (0, .ref (B + 141)), (1, .int (zI t)), (2, .int (zI a1)), (3, .int (zI v1))] dX11_puts_8 (by decide) rfl ?_
  refine w_iconst dX11_puts_10 ?_
  refine w_bipush dX11_puts_11 (by decide) ?_
  refine w_iload dX11_puts_13 0 rfl ?_
  refine w_imul dX11_puts_15 ?_
  refine w_iadd dX11_puts_16 ?_
  refine w_iconst dX11_puts_17 ?_
  refine w_aload_n dX11_puts_18 rfl 1 rfl ?_
  refine w_get (i := 1) (T := TX11) (NF := 32) 141 (by first | omega | with_reducible rfl) hm rfl (fun _ h => (List.mem_cons_of_mem _ (List.mem_append_right _ h))) (by decide) (List.mem_of_getElem? (i := 1) rfl) rfl dX11_puts_19 ?_
  refine w_iconst dX11_puts_22 ?_
  refine w_iload dX11_puts_23 0 rfl ?_
  refine w_iadd dX11_puts_25 ?_
  refine w_iald 143 (by first | omega | with_reducible rfl) hrd (by first | omega | with_reducible rfl) dX11_puts_26 ?_
  refine w_as (st' := [.int (zI ((x.length : Nat) : Int)), .int (zI 3), .int (zI (4 + (15 * ((A.length : Nat) : Int))))]) (sc_i (by first | omega | with_reducible rfl) rfl) ?_
  refine w_imul dX11_puts_27 ?_
  refine w_iadd dX11_puts_28 ?_
  refine w_istore [(5, .int (zI ((4 + (15 * ((A.length : Nat) : Int))) + (3 * ((x.length : Nat) : Int))))), (4, .int (zI ((A.length : Nat) : Int))), (0, .ref (B + 141)), (1, .int (zI t)), (2, .int (zI a1)), (3, .int (zI v1))] dX11_puts_29 (by decide) rfl ?_
  refine w_aload_n dX11_puts_31 rfl 2 rfl ?_
  refine w_get (i := 1) (T := TX11) (NF := 32) 141 (by first | omega | with_reducible rfl) hm rfl (fun _ h => (List.mem_cons_of_mem _ (List.mem_append_right _ h))) (by decide) (List.mem_of_getElem? (i := 1) rfl) rfl dX11_puts_32 ?_
  refine w_iload dX11_puts_35 0 rfl ?_
  refine w_iload_n dX11_puts_37 rfl 3 rfl ?_
  refine w_iast 143 (by first | omega | with_reducible rfl) hrd (by first | omega | with_reducible rfl) dX11_puts_38 (fun g_1 he_2 hn_3 => ?_)
  have hm_4 : vM cy B g_1 141 cg le sp va o0 tn aw mw fw ls gs sn sw kr := vM_fr hm (fun q h1 h2 => hn_3 q (by omega))
  have hrd_5 : vIA cy B g_1 143 49 (uZ Rd ((4 + (15 * ((A.length : Nat) : Int))) + (3 * ((x.length : Nat) : Int))) t) := he_2
  have hfr_6 : ∀ q, q ≠ 143 → g_1 q = g q := fun q hq => (hn_3 q (by omega)).trans (hfr_0 q hq)
  refine w_aload_n dX11_puts_39 rfl 2 rfl ?_
  refine w_get (i := 1) (T := TX11) (NF := 32) 141 (by first | omega | with_reducible rfl) hm_4 rfl (fun _ h => (List.mem_cons_of_mem _ (List.mem_append_right _ h))) (by decide) (List.mem_of_getElem? (i := 1) rfl) rfl dX11_puts_40 ?_
  refine w_iload dX11_puts_43 0 rfl ?_
  refine w_iconst dX11_puts_45 ?_
  refine w_iadd dX11_puts_46 ?_
  refine w_iload_n dX11_puts_47 rfl 4 rfl ?_
  refine w_iast 143 (by first | omega | with_reducible rfl) hrd_5 (by first | omega | with_reducible rfl) dX11_puts_48 (fun g_7 he_8 hn_9 => ?_)
  have hm_10 : vM cy B g_7 141 cg le sp va o0 tn aw mw fw ls gs sn sw kr := vM_fr hm_4 (fun q h1 h2 => hn_9 q (by omega))
  have hrd_11 : vIA cy B g_7 143 49 (uZ (uZ Rd ((4 + (15 * ((A.length : Nat) : Int))) + (3 * ((x.length : Nat) : Int))) t) (((4 + (15 * ((A.length : Nat) : Int))) + (3 * ((x.length : Nat) : Int))) + 1) a1) := he_8
  have hfr_12 : ∀ q, q ≠ 143 → g_7 q = g q := fun q hq => (hn_9 q (by omega)).trans (hfr_6 q hq)
  refine w_aload_n dX11_puts_49 rfl 2 rfl ?_
  refine w_get (i := 1) (T := TX11) (NF := 32) 141 (by first | omega | with_reducible rfl) hm_10 rfl (fun _ h => (List.mem_cons_of_mem _ (List.mem_append_right _ h))) (by decide) (List.mem_of_getElem? (i := 1) rfl) rfl dX11_puts_50 ?_
  refine w_iload dX11_puts_53 0 rfl ?_
  refine w_iconst dX11_puts_55 ?_
  refine w_iadd dX11_puts_56 ?_
  refine w_iload_n dX11_puts_57 rfl 5 rfl ?_
  refine w_iast 143 (by first | omega | with_reducible rfl) hrd_11 (by first | omega | with_reducible rfl) dX11_puts_58 (fun g_13 he_14 hn_15 => ?_)
  have hm_16 : vM cy B g_13 141 cg le sp va o0 tn aw mw fw ls gs sn sw kr := vM_fr hm_10 (fun q h1 h2 => hn_15 q (by omega))
  have hrd_17 : vIA cy B g_13 143 49 (uZ (uZ (uZ Rd ((4 + (15 * ((A.length : Nat) : Int))) + (3 * ((x.length : Nat) : Int))) t) (((4 + (15 * ((A.length : Nat) : Int))) + (3 * ((x.length : Nat) : Int))) + 1) a1) (((4 + (15 * ((A.length : Nat) : Int))) + (3 * ((x.length : Nat) : Int))) + 2) v1) := he_14
  have hfr_18 : ∀ q, q ≠ 143 → g_13 q = g q := fun q hq => (hn_15 q (by omega)).trans (hfr_12 q hq)
  refine w_aload_n dX11_puts_59 rfl 2 rfl ?_
  refine w_get (i := 1) (T := TX11) (NF := 32) 141 (by first | omega | with_reducible rfl) hm_16 rfl (fun _ h => (List.mem_cons_of_mem _ (List.mem_append_right _ h))) (by decide) (List.mem_of_getElem? (i := 1) rfl) rfl dX11_puts_60 ?_
  refine w_iconst dX11_puts_63 ?_
  refine w_iload dX11_puts_64 1 rfl ?_
  refine w_iadd dX11_puts_66 ?_
  refine w_dup2 dX11_puts_67 rfl rfl ?_
  refine w_iald 143 (by first | omega | with_reducible rfl) hrd_17 (by first | omega | with_reducible rfl) dX11_puts_68 ?_
  refine w_as (st' := [.int (zI ((x.length : Nat) : Int)), .int (zI (1 + ((A.length : Nat) : Int))), .ref (B + 143)]) (sc_i (by rw [uZ_ne (by omega), uZ_ne (by omega), uZ_ne (by omega)]; omega) rfl) ?_
  refine w_iconst dX11_puts_69 ?_
  refine w_iadd dX11_puts_70 ?_
  refine w_iast 143 (by first | omega | with_reducible rfl) hrd_17 (by first | omega | with_reducible rfl) dX11_puts_71 (fun g_19 he_20 hn_21 => ?_)
  have hm_22 : vM cy B g_19 141 cg le sp va o0 tn aw mw fw ls gs sn sw kr := vM_fr hm_16 (fun q h1 h2 => hn_21 q (by omega))
  have hrd_23 : vIA cy B g_19 143 49 (uZ (uZ (uZ (uZ Rd ((4 + (15 * ((A.length : Nat) : Int))) + (3 * ((x.length : Nat) : Int))) t) (((4 + (15 * ((A.length : Nat) : Int))) + (3 * ((x.length : Nat) : Int))) + 1) a1) (((4 + (15 * ((A.length : Nat) : Int))) + (3 * ((x.length : Nat) : Int))) + 2) v1) (1 + ((A.length : Nat) : Int)) (((x.length : Nat) : Int) + 1)) := he_20
  have hfr_24 : ∀ q, q ≠ 143 → g_19 q = g q := fun q hq => (hn_21 q (by omega)).trans (hfr_18 q hq)
  exact w_vret dX11_puts_72 rfl ⟨(uZ (uZ (uZ (uZ Rd ((4 + (15 * ((A.length : Nat) : Int))) + (3 * ((x.length : Nat) : Int))) t) (((4 + (15 * ((A.length : Nat) : Int))) + (3 * ((x.length : Nat) : Int))) + 1) a1) (((4 + (15 * ((A.length : Nat) : Int))) + (3 * ((x.length : Nat) : Int))) + 2) v1) (1 + ((A.length : Nat) : Int)) (((x.length : Nat) : Int) + 1)), hrd_23, (ERZ_c (c := (t, a1, v1)) hEZ hx5 rfl rfl rfl), hfr_24⟩

set_option maxHeartbeats 4000000 in
set_option maxRecDepth 100000 in
theorem m_col_y {l : Launch} {D : va_G} {cy : Nat → ClassId} {B N : Nat} {g : Nat → va_E} {cg va o0 tn aw mw fw ls gs sn sw kr : Int} {n : Nat} {p : Int} {Lm : Int → Int} {Rd : Int → Int} {A : St} {x : List Co} (hm : vM cy B g 141 cg ((n : Nat) : Int) (p + 1) va o0 tn aw mw fw ls gs sn sw kr) (htx : vIA cy B g 145 200 Lm) (hrd : vIA cy B g 143 49 Rd) (hN : 160 ≤ N) (hn : n ≤ 200) (hL : ∀ i : Int, 0 ≤ i → i < n → 0 < Lm i ∧ Lm i < 65536) (hp : 0 ≤ p ∧ p < n) (hEZ : ERZ Rd (A ++ [x])) (hx5 : x.length < 5) (hv : vcol n Lm p) : CTi l yX11_takesColumn wsX11_takesColumn (rmo 3 69) D cy B N g [.ref (B + 141)] 1 (fun g' => ∃ Rd1 : Int → Int, vM cy B g' 141 cg ((n : Nat) : Int) (i7 n Lm p) (iV n Lm p) o0 tn aw mw fw ls gs sn sw kr ∧ vIA cy B g' 143 49 Rd1 ∧ (ERZ Rd1 (A ++ [x ++ [(iT n Lm p, iX n Lm p, iV n Lm p)]])) ∧ (∀ q, (q ≠ 141 ∧ q ≠ 143) → g' q = g q)) := by
  refine WW_of (cc := cX11_takesColumn) (maxL := 3) (ret := (some .boolean)) (own := RX11) (by decide) rfl rfl (Nat.le_of_ble_eq_true rfl) rfl ?_
  intro pp ee ss mm bl me co hmn
  have hfr_0 : ∀ q, (q ≠ 141 ∧ q ≠ 143) → g q = g q := fun _ _ => rfl
  have hlA : (A ++ [x]).length = A.length + 1 := by rw [List.length_append]; rfl
  have hE1 := hEZ.1.1
  have hMx := hEZ.1.2 A.length (by omega)
  have hgx : (A ++ [x]).getD A.length [] = x := gD_e
  rw [hgx] at hMx
  have hM1 := hMx.1
  have hM2 := hMx.2.1
  have hig := i_rg n Lm p
  obtain ⟨-, hk1, hk2, hk3⟩ := vcol_nok.mp hv
  refine w_aload_n dX11_takesColumn_0 rfl 0 rfl ?_
  refine w_get (i := 1) (T := TX11) (NF := 32) 141 (by first | omega | with_reducible rfl) hm rfl (fun _ h => (List.mem_cons_of_mem _ (List.mem_append_right _ h))) (by decide) (List.mem_of_getElem? (i := 1) rfl) rfl dX11_takesColumn_1 ?_
  refine w_iconst dX11_takesColumn_4 ?_
  refine w_iald 143 (by first | omega | with_reducible rfl) hrd (by first | omega | with_reducible rfl) dX11_takesColumn_5 ?_
  refine w_as (st' := [.int (zI ((A.length + 1 : Nat) : Int))]) (sc_i (by omega) rfl) ?_
  refine w_if_eq 40 dX11_takesColumn_6 (by decide) (by first | omega | with_reducible rfl) (fun c_6 => ?_) (fun c_6 => ?_)
  · exfalso; omega
  · refine w_aload_n dX11_takesColumn_9 rfl 0 rfl ?_
    refine w_get (i := 1) (T := TX11) (NF := 32) 141 (by first | omega | with_reducible rfl) hm rfl (fun _ h => (List.mem_cons_of_mem _ (List.mem_append_right _ h))) (by decide) (List.mem_of_getElem? (i := 1) rfl) rfl dX11_takesColumn_10 ?_
    refine w_iconst dX11_takesColumn_13 ?_
    refine w_aload_n dX11_takesColumn_14 rfl 0 rfl ?_
    refine w_get (i := 1) (T := TX11) (NF := 32) 141 (by first | omega | with_reducible rfl) hm rfl (fun _ h => (List.mem_cons_of_mem _ (List.mem_append_right _ h))) (by decide) (List.mem_of_getElem? (i := 1) rfl) rfl dX11_takesColumn_15 ?_
    refine w_iconst dX11_takesColumn_18 ?_
    refine w_iald 143 (by first | omega | with_reducible rfl) hrd (by first | omega | with_reducible rfl) dX11_takesColumn_19 ?_
    refine w_as (st' := [.int (zI ((A.length + 1 : Nat) : Int)), .int (zI 1), .ref (B + 143)]) (sc_i (by omega) rfl) ?_
    refine w_iadd dX11_takesColumn_20 ?_
    refine w_iconst dX11_takesColumn_21 ?_
    refine w_isub dX11_takesColumn_22 ?_
    refine w_as (st' := [.int (zI (1 + ((A.length : Nat) : Int))), .ref (B + 143)]) (sc_i (by omega) rfl) ?_
    refine w_iald 143 (by first | omega | with_reducible rfl) hrd (by first | omega | with_reducible rfl) dX11_takesColumn_23 ?_
    refine w_as (st' := [.int (zI ((x.length : Nat) : Int))]) (sc_i (by omega) rfl) ?_
    refine w_iconst dX11_takesColumn_24 ?_
    refine w_icmp_eq 40 dX11_takesColumn_25 (by decide) (by first | omega | with_reducible rfl) (by first | omega | with_reducible rfl) (fun c_25 => ?_) (fun c_25 => ?_)
    · exfalso; omega
    · refine w_aload_n dX11_takesColumn_28 rfl 0 rfl ?_
      refine w_iconst dX11_takesColumn_29 ?_
      refine w_bipush dX11_takesColumn_30 (by decide) ?_
      refine w_bipush dX11_takesColumn_32 (by decide) ?_
      refine w_calli (As := [.int (zI 1), .int (zI 12), .int (zI 44)]) (rest := []) (n := 3) (c_X11_takesNumber hm htx (by first | omega | with_reducible rfl) (by first | omega | with_reducible rfl) (by first | omega | with_reducible rfl) (by first | omega | with_reducible rfl) (by first | omega | with_reducible rfl) (by first | omega | with_reducible rfl) (by first | omega | with_reducible rfl)) gX11_takesColumn_X11_takesNumber rfl rfl rfl (by decide +kernel) ⟨Nat.le_of_ble_eq_true rfl, Nat.le_of_ble_eq_true rfl⟩ rfl (by first | omega | with_reducible rfl) hm rfl (Nat.le_of_ble_eq_true rfl) ⟨Nat.zero_le _, Nat.zero_le _⟩ dX11_takesColumn_34 rfl (fun g_1 hp_2 => ?_)
      obtain ⟨hm_3, hf_4⟩ := hp_2
      have htx_5 : vIA cy B g_1 145 200 Lm := vIA_fr htx (fun q h1 h2 => hf_4 q (by omega))
      have hrd_6 : vIA cy B g_1 143 49 Rd := vIA_fr hrd (fun q h1 h2 => hf_4 q (by omega))
      have hfr_7 : ∀ q, (q ≠ 141 ∧ q ≠ 143) → g_1 q = g q := fun q hq => (hf_4 q (by omega)).trans (hfr_0 q hq)
      refine w_ifneB 42 dX11_takesColumn_37 (by decide) (fun c_37 => ?_) (fun c_37 => ?_)
      · have hm_8 : vM cy B g_1 141 cg ((n : Nat) : Int) (i3 n Lm p) (iT n Lm p) o0 tn aw mw fw ls gs sn sw kr := by have h9 := hm_3; rw [if_neg (by have := c_37.1; omega)] at h9; rw [i_pl.1 c_37.2.2]; exact h9
        refine w_aload_n dX11_takesColumn_42 rfl 0 rfl ?_
        refine w_get (i := 8) (T := TX11) (NF := 32) 141 (by first | omega | with_reducible rfl) hm_8 rfl (fun _ h => (List.mem_cons_of_mem _ (List.mem_append_right _ h))) (by decide) (List.mem_of_getElem? (i := 2) rfl) rfl dX11_takesColumn_43 ?_
        refine w_istore_n [(1, .int (zI (iT n Lm p))), (0, .ref (B + 141))] dX11_takesColumn_46 rfl (by decide) rfl ?_
        refine w_aload_n dX11_takesColumn_47 rfl 1 rfl ?_
        refine w_iconst dX11_takesColumn_48 ?_
        refine w_iload_n dX11_takesColumn_49 rfl 0 rfl ?_
        refine w_bipush dX11_takesColumn_50 (by decide) ?_
        have hvT : -1 ≤ iT n Lm p ∧ iT n Lm p ≤ 99 := numV_rg n Lm (p + 1)
        refine w_calli (As := [.int (zI 0), .int (zI (iT n Lm p)), .int (zI 44)]) (rest := []) (n := 3) (c_X11_takesNumber hm_8 htx_5 (by first | omega | with_reducible rfl) (by first | omega | with_reducible rfl) (by first | omega | with_reducible rfl) (by first | omega | with_reducible rfl) (by first | omega | with_reducible rfl) (by first | omega | with_reducible rfl) (by first | omega | with_reducible rfl)) gX11_takesColumn_X11_takesNumber rfl rfl rfl (by decide +kernel) ⟨Nat.le_of_ble_eq_true rfl, Nat.le_of_ble_eq_true rfl⟩ rfl (by first | omega | with_reducible rfl) hm_8 rfl (Nat.le_of_ble_eq_true rfl) ⟨Nat.zero_le _, Nat.zero_le _⟩ dX11_takesColumn_52 rfl (fun g_9 hp_10 => ?_)
        obtain ⟨hm_11, hf_12⟩ := hp_10
        have htx_13 : vIA cy B g_9 145 200 Lm := vIA_fr htx_5 (fun q h1 h2 => hf_12 q (by omega))
        have hrd_14 : vIA cy B g_9 143 49 Rd := vIA_fr hrd_6 (fun q h1 h2 => hf_12 q (by omega))
        have hfr_15 : ∀ q, (q ≠ 141 ∧ q ≠ 143) → g_9 q = g q := fun q hq => (hf_12 q (by omega)).trans (hfr_7 q hq)
        refine w_ifneB 60 dX11_takesColumn_55 (by decide) (fun c_55 => ?_) (fun c_55 => ?_)
        · have hm_16 : vM cy B g_9 141 cg ((n : Nat) : Int) (i5 n Lm p) (iX n Lm p) o0 tn aw mw fw ls gs sn sw kr := by have h9 := hm_11; rw [if_neg (by have := c_55.1; omega)] at h9; rw [i_pl.2.1 c_55.2.2]; exact h9
          refine w_aload_n dX11_takesColumn_60 rfl 1 rfl ?_
          refine w_get (i := 8) (T := TX11) (NF := 32) 141 (by first | omega | with_reducible rfl) hm_16 rfl (fun _ h => (List.mem_cons_of_mem _ (List.mem_append_right _ h))) (by decide) (List.mem_of_getElem? (i := 2) rfl) rfl dX11_takesColumn_61 ?_
          refine w_istore_n [(2, .int (zI (iX n Lm p))), (1, .int (zI (iT n Lm p))), (0, .ref (B + 141))] dX11_takesColumn_64 rfl (by decide) rfl ?_
          refine w_aload_n dX11_takesColumn_65 rfl 2 rfl ?_
          refine w_iconst dX11_takesColumn_66 ?_
          refine w_bipush dX11_takesColumn_67 (by decide) ?_
          refine w_bipush dX11_takesColumn_69 (by decide) ?_
          refine w_calli (As := [.int (zI 0), .int (zI 9), .int (zI 59)]) (rest := []) (n := 3) (c_X11_takesNumber hm_16 htx_13 (by first | omega | with_reducible rfl) (by first | omega | with_reducible rfl) (by first | omega | with_reducible rfl) (by first | omega | with_reducible rfl) (by first | omega | with_reducible rfl) (by first | omega | with_reducible rfl) (by first | omega | with_reducible rfl)) gX11_takesColumn_X11_takesNumber rfl rfl rfl (by decide +kernel) ⟨Nat.le_of_ble_eq_true rfl, Nat.le_of_ble_eq_true rfl⟩ rfl (by first | omega | with_reducible rfl) hm_16 rfl (Nat.le_of_ble_eq_true rfl) ⟨Nat.zero_le _, Nat.zero_le _⟩ dX11_takesColumn_71 rfl (fun g_17 hp_18 => ?_)
          obtain ⟨hm_19, hf_20⟩ := hp_18
          have htx_21 : vIA cy B g_17 145 200 Lm := vIA_fr htx_13 (fun q h1 h2 => hf_20 q (by omega))
          have hrd_22 : vIA cy B g_17 143 49 Rd := vIA_fr hrd_14 (fun q h1 h2 => hf_20 q (by omega))
          have hfr_23 : ∀ q, (q ≠ 141 ∧ q ≠ 143) → g_17 q = g q := fun q hq => (hf_20 q (by omega)).trans (hfr_15 q hq)
          refine w_ifneB 79 dX11_takesColumn_74 (by decide) (fun c_74 => ?_) (fun c_74 => ?_)
          · have hm_24 : vM cy B g_17 141 cg ((n : Nat) : Int) (i7 n Lm p) (iV n Lm p) o0 tn aw mw fw ls gs sn sw kr := by have h9 := hm_19; rw [if_neg (by have := c_74.1; omega)] at h9; rw [i_pl.2.2 c_74.2.2]; exact h9
            refine w_aload_n dX11_takesColumn_79 rfl 2 rfl ?_
            refine w_iload_n dX11_takesColumn_80 rfl 1 rfl ?_
            refine w_iload_n dX11_takesColumn_81 rfl 0 rfl ?_
            refine w_aload_n dX11_takesColumn_82 rfl 2 rfl ?_
            refine w_get (i := 8) (T := TX11) (NF := 32) 141 (by first | omega | with_reducible rfl) hm_24 rfl (fun _ h => (List.mem_cons_of_mem _ (List.mem_append_right _ h))) (by decide) (List.mem_of_getElem? (i := 2) rfl) rfl dX11_takesColumn_83 ?_
            refine w_callv (As := [.int (zI (iT n Lm p)), .int (zI (iX n Lm p)), .int (zI (iV n Lm p))]) (rest := []) (n := 3) (c_X11_puts hm_24 hrd_22 (by first | omega | with_reducible rfl) (by first | omega | with_reducible rfl) (by first | omega | with_reducible rfl)) gX11_takesColumn_X11_puts rfl rfl rfl (by decide +kernel) ⟨Nat.le_of_ble_eq_true rfl, Nat.le_of_ble_eq_true rfl⟩ rfl (by first | omega | with_reducible rfl) hm_24 rfl (Nat.le_of_ble_eq_true rfl) ⟨Nat.zero_le _, Nat.zero_le _⟩ dX11_takesColumn_86 rfl (fun g_25 hp_26 => ?_)
            obtain ⟨Rd1_27, hrd_28, hE9, hf_29⟩ := hp_26
            have hm_30 : vM cy B g_25 141 cg ((n : Nat) : Int) (i7 n Lm p) (iV n Lm p) o0 tn aw mw fw ls gs sn sw kr := vM_fr hm_24 (fun q h1 h2 => hf_29 q (by omega))
            have htx_31 : vIA cy B g_25 145 200 Lm := vIA_fr htx_21 (fun q h1 h2 => hf_29 q (by omega))
            have hfr_32 : ∀ q, (q ≠ 141 ∧ q ≠ 143) → g_25 q = g q := fun q hq => (hf_29 q (by omega)).trans (hfr_23 q hq)
            refine w_iconst dX11_takesColumn_89 ?_
            exact w_zret dX11_takesColumn_90 rfl rfl (by first | with_reducible rfl | omega | (split <;> omega)) ⟨Rd1_27, hm_30, hrd_28, hE9, hfr_32⟩
          · exact absurd hk3 c_74
        · exact absurd hk2 c_55
      · exact absurd hk1 c_37
set_option maxHeartbeats 4000000 in
set_option maxRecDepth 100000 in
theorem m_col_n1 {l : Launch} {D : va_G} {cy : Nat → ClassId} {B N : Nat} {g : Nat → va_E} {cg va o0 tn aw mw fw ls gs sn sw kr : Int} {n : Nat} {p : Int} {Lm : Int → Int} {Rd : Int → Int} {A : St} {x : List Co} (hm : vM cy B g 141 cg ((n : Nat) : Int) (p + 1) va o0 tn aw mw fw ls gs sn sw kr) (htx : vIA cy B g 145 200 Lm) (hrd : vIA cy B g 143 49 Rd) (hN : 160 ≤ N) (hn : n ≤ 200) (hL : ∀ i : Int, 0 ≤ i → i < n → 0 < Lm i ∧ Lm i < 65536) (hp : 0 ≤ p ∧ p < n) (hEZ : ERZ Rd (A ++ [x])) (h99 : inA n Lm p = 99) (hno : ¬ (vcol n Lm p ∧ x.length < 5)) : CTi l yX11_takesColumn wsX11_takesColumn (rmo 3 69) D cy B N g [.ref (B + 141)] 0 (fun g' => ∃ sp1 : Int, ∃ va1 : Int, vM cy B g' 141 cg ((n : Nat) : Int) sp1 va1 o0 tn aw mw fw ls gs sn sw kr ∧ (∀ q, q ≠ 141 → g' q = g q)) := by
  refine WW_of (cc := cX11_takesColumn) (maxL := 3) (ret := (some .boolean)) (own := RX11) (by decide) rfl rfl (Nat.le_of_ble_eq_true rfl) rfl ?_
  intro pp ee ss mm bl me co hmn
  have hfr_0 : ∀ q, q ≠ 141 → g q = g q := fun _ _ => rfl
  have hlA : (A ++ [x]).length = A.length + 1 := by rw [List.length_append]; rfl
  have hE1 := hEZ.1.1
  have hMx := hEZ.1.2 A.length (by omega)
  have hgx : (A ++ [x]).getD A.length [] = x := gD_e
  rw [hgx] at hMx
  have hM1 := hMx.1
  have hM2 := hMx.2.1
  have hig := i_rg n Lm p
  refine w_aload_n dX11_takesColumn_0 rfl 0 rfl ?_
  refine w_get (i := 1) (T := TX11) (NF := 32) 141 (by first | omega | with_reducible rfl) hm rfl (fun _ h => (List.mem_cons_of_mem _ (List.mem_append_right _ h))) (by decide) (List.mem_of_getElem? (i := 1) rfl) rfl dX11_takesColumn_1 ?_
  refine w_iconst dX11_takesColumn_4 ?_
  refine w_iald 143 (by first | omega | with_reducible rfl) hrd (by first | omega | with_reducible rfl) dX11_takesColumn_5 ?_
  refine w_as (st' := [.int (zI ((A.length + 1 : Nat) : Int))]) (sc_i (by omega) rfl) ?_
  refine w_if_eq 40 dX11_takesColumn_6 (by decide) (by first | omega | with_reducible rfl) (fun c_6 => ?_) (fun c_6 => ?_)
  · exfalso; omega
  · refine w_aload_n dX11_takesColumn_9 rfl 0 rfl ?_
    refine w_get (i := 1) (T := TX11) (NF := 32) 141 (by first | omega | with_reducible rfl) hm rfl (fun _ h => (List.mem_cons_of_mem _ (List.mem_append_right _ h))) (by decide) (List.mem_of_getElem? (i := 1) rfl) rfl dX11_takesColumn_10 ?_
    refine w_iconst dX11_takesColumn_13 ?_
    refine w_aload_n dX11_takesColumn_14 rfl 0 rfl ?_
    refine w_get (i := 1) (T := TX11) (NF := 32) 141 (by first | omega | with_reducible rfl) hm rfl (fun _ h => (List.mem_cons_of_mem _ (List.mem_append_right _ h))) (by decide) (List.mem_of_getElem? (i := 1) rfl) rfl dX11_takesColumn_15 ?_
    refine w_iconst dX11_takesColumn_18 ?_
    refine w_iald 143 (by first | omega | with_reducible rfl) hrd (by first | omega | with_reducible rfl) dX11_takesColumn_19 ?_
    refine w_as (st' := [.int (zI ((A.length + 1 : Nat) : Int)), .int (zI 1), .ref (B + 143)]) (sc_i (by omega) rfl) ?_
    refine w_iadd dX11_takesColumn_20 ?_
    refine w_iconst dX11_takesColumn_21 ?_
    refine w_isub dX11_takesColumn_22 ?_
    refine w_as (st' := [.int (zI (1 + ((A.length : Nat) : Int))), .ref (B + 143)]) (sc_i (by omega) rfl) ?_
    refine w_iald 143 (by first | omega | with_reducible rfl) hrd (by first | omega | with_reducible rfl) dX11_takesColumn_23 ?_
    refine w_as (st' := [.int (zI ((x.length : Nat) : Int))]) (sc_i (by omega) rfl) ?_
    refine w_iconst dX11_takesColumn_24 ?_
    refine w_icmp_eq 40 dX11_takesColumn_25 (by decide) (by first | omega | with_reducible rfl) (by first | omega | with_reducible rfl) (fun c_25 => ?_) (fun c_25 => ?_)
    · refine w_iconst dX11_takesColumn_40 ?_
      exact w_zret dX11_takesColumn_41 rfl rfl (by first | with_reducible rfl | omega | (split <;> omega)) ⟨(p + 1), va, hm, hfr_0⟩
    · refine w_aload_n dX11_takesColumn_28 rfl 0 rfl ?_
      refine w_iconst dX11_takesColumn_29 ?_
      refine w_bipush dX11_takesColumn_30 (by decide) ?_
      refine w_bipush dX11_takesColumn_32 (by decide) ?_
      refine w_calli (As := [.int (zI 1), .int (zI 12), .int (zI 44)]) (rest := []) (n := 3) (c_X11_takesNumber hm htx (by first | omega | with_reducible rfl) (by first | omega | with_reducible rfl) (by first | omega | with_reducible rfl) (by first | omega | with_reducible rfl) (by first | omega | with_reducible rfl) (by first | omega | with_reducible rfl) (by first | omega | with_reducible rfl)) gX11_takesColumn_X11_takesNumber rfl rfl rfl (by decide +kernel) ⟨Nat.le_of_ble_eq_true rfl, Nat.le_of_ble_eq_true rfl⟩ rfl (by first | omega | with_reducible rfl) hm rfl (Nat.le_of_ble_eq_true rfl) ⟨Nat.zero_le _, Nat.zero_le _⟩ dX11_takesColumn_34 rfl (fun g_1 hp_2 => ?_)
      obtain ⟨hm_3, hf_4⟩ := hp_2
      have htx_5 : vIA cy B g_1 145 200 Lm := vIA_fr htx (fun q h1 h2 => hf_4 q (by omega))
      have hrd_6 : vIA cy B g_1 143 49 Rd := vIA_fr hrd (fun q h1 h2 => hf_4 q (by omega))
      have hfr_7 : ∀ q, q ≠ 141 → g_1 q = g q := fun q hq => (hf_4 q (by omega)).trans (hfr_0 q hq)
      refine w_ifneB 42 dX11_takesColumn_37 (by decide) (fun c_37 => ?_) (fun c_37 => ?_)
      · have hm_8 : vM cy B g_1 141 cg ((n : Nat) : Int) (i3 n Lm p) (iT n Lm p) o0 tn aw mw fw ls gs sn sw kr := by have h9 := hm_3; rw [if_neg (by have := c_37.1; omega)] at h9; rw [i_pl.1 c_37.2.2]; exact h9
        refine w_aload_n dX11_takesColumn_42 rfl 0 rfl ?_
        refine w_get (i := 8) (T := TX11) (NF := 32) 141 (by first | omega | with_reducible rfl) hm_8 rfl (fun _ h => (List.mem_cons_of_mem _ (List.mem_append_right _ h))) (by decide) (List.mem_of_getElem? (i := 2) rfl) rfl dX11_takesColumn_43 ?_
        refine w_istore_n [(1, .int (zI (iT n Lm p))), (0, .ref (B + 141))] dX11_takesColumn_46 rfl (by decide) rfl ?_
        refine w_aload_n dX11_takesColumn_47 rfl 1 rfl ?_
        refine w_iconst dX11_takesColumn_48 ?_
        refine w_iload_n dX11_takesColumn_49 rfl 0 rfl ?_
        refine w_bipush dX11_takesColumn_50 (by decide) ?_
        have hvT : -1 ≤ iT n Lm p ∧ iT n Lm p ≤ 99 := numV_rg n Lm (p + 1)
        refine w_calli (As := [.int (zI 0), .int (zI (iT n Lm p)), .int (zI 44)]) (rest := []) (n := 3) (c_X11_takesNumber hm_8 htx_5 (by first | omega | with_reducible rfl) (by first | omega | with_reducible rfl) (by first | omega | with_reducible rfl) (by first | omega | with_reducible rfl) (by first | omega | with_reducible rfl) (by first | omega | with_reducible rfl) (by first | omega | with_reducible rfl)) gX11_takesColumn_X11_takesNumber rfl rfl rfl (by decide +kernel) ⟨Nat.le_of_ble_eq_true rfl, Nat.le_of_ble_eq_true rfl⟩ rfl (by first | omega | with_reducible rfl) hm_8 rfl (Nat.le_of_ble_eq_true rfl) ⟨Nat.zero_le _, Nat.zero_le _⟩ dX11_takesColumn_52 rfl (fun g_9 hp_10 => ?_)
        obtain ⟨hm_11, hf_12⟩ := hp_10
        have htx_13 : vIA cy B g_9 145 200 Lm := vIA_fr htx_5 (fun q h1 h2 => hf_12 q (by omega))
        have hrd_14 : vIA cy B g_9 143 49 Rd := vIA_fr hrd_6 (fun q h1 h2 => hf_12 q (by omega))
        have hfr_15 : ∀ q, q ≠ 141 → g_9 q = g q := fun q hq => (hf_12 q (by omega)).trans (hfr_7 q hq)
        refine w_ifneB 60 dX11_takesColumn_55 (by decide) (fun c_55 => ?_) (fun c_55 => ?_)
        · have hm_16 : vM cy B g_9 141 cg ((n : Nat) : Int) (i5 n Lm p) (iX n Lm p) o0 tn aw mw fw ls gs sn sw kr := by have h9 := hm_11; rw [if_neg (by have := c_55.1; omega)] at h9; rw [i_pl.2.1 c_55.2.2]; exact h9
          refine w_aload_n dX11_takesColumn_60 rfl 1 rfl ?_
          refine w_get (i := 8) (T := TX11) (NF := 32) 141 (by first | omega | with_reducible rfl) hm_16 rfl (fun _ h => (List.mem_cons_of_mem _ (List.mem_append_right _ h))) (by decide) (List.mem_of_getElem? (i := 2) rfl) rfl dX11_takesColumn_61 ?_
          refine w_istore_n [(2, .int (zI (iX n Lm p))), (1, .int (zI (iT n Lm p))), (0, .ref (B + 141))] dX11_takesColumn_64 rfl (by decide) rfl ?_
          refine w_aload_n dX11_takesColumn_65 rfl 2 rfl ?_
          refine w_iconst dX11_takesColumn_66 ?_
          refine w_bipush dX11_takesColumn_67 (by decide) ?_
          refine w_bipush dX11_takesColumn_69 (by decide) ?_
          refine w_calli (As := [.int (zI 0), .int (zI 9), .int (zI 59)]) (rest := []) (n := 3) (c_X11_takesNumber hm_16 htx_13 (by first | omega | with_reducible rfl) (by first | omega | with_reducible rfl) (by first | omega | with_reducible rfl) (by first | omega | with_reducible rfl) (by first | omega | with_reducible rfl) (by first | omega | with_reducible rfl) (by first | omega | with_reducible rfl)) gX11_takesColumn_X11_takesNumber rfl rfl rfl (by decide +kernel) ⟨Nat.le_of_ble_eq_true rfl, Nat.le_of_ble_eq_true rfl⟩ rfl (by first | omega | with_reducible rfl) hm_16 rfl (Nat.le_of_ble_eq_true rfl) ⟨Nat.zero_le _, Nat.zero_le _⟩ dX11_takesColumn_71 rfl (fun g_17 hp_18 => ?_)
          obtain ⟨hm_19, hf_20⟩ := hp_18
          have htx_21 : vIA cy B g_17 145 200 Lm := vIA_fr htx_13 (fun q h1 h2 => hf_20 q (by omega))
          have hrd_22 : vIA cy B g_17 143 49 Rd := vIA_fr hrd_14 (fun q h1 h2 => hf_20 q (by omega))
          have hfr_23 : ∀ q, q ≠ 141 → g_17 q = g q := fun q hq => (hf_20 q (by omega)).trans (hfr_15 q hq)
          refine w_ifneB 79 dX11_takesColumn_74 (by decide) (fun c_74 => ?_) (fun c_74 => ?_)
          · have hm_24 : vM cy B g_17 141 cg ((n : Nat) : Int) (i7 n Lm p) (iV n Lm p) o0 tn aw mw fw ls gs sn sw kr := by have h9 := hm_19; rw [if_neg (by have := c_74.1; omega)] at h9; rw [i_pl.2.2 c_74.2.2]; exact h9
            exact absurd ⟨vcol_nok.mpr ⟨h99, c_37, c_55, c_74⟩, by omega⟩ hno
          · refine w_iconst dX11_takesColumn_77 ?_
            exact w_zret dX11_takesColumn_78 rfl rfl (by first | with_reducible rfl | omega | (split <;> omega)) ⟨(numP n Lm (i5 n Lm p) + 1), (if figA n Lm (i5 n Lm p) < 0 then 0 else numV n Lm (i5 n Lm p)), hm_19, hfr_23⟩
        · refine w_iconst dX11_takesColumn_58 ?_
          exact w_zret dX11_takesColumn_59 rfl rfl (by first | with_reducible rfl | omega | (split <;> omega)) ⟨(numP n Lm (i3 n Lm p) + 1), (if figA n Lm (i3 n Lm p) < 0 then 0 else numV n Lm (i3 n Lm p)), hm_11, hfr_15⟩
      · refine w_iconst dX11_takesColumn_40 ?_
        exact w_zret dX11_takesColumn_41 rfl rfl (by first | with_reducible rfl | omega | (split <;> omega)) ⟨(numP n Lm (p + 1) + 1), (if figA n Lm (p + 1) < 0 then 0 else numV n Lm (p + 1)), hm_3, hfr_7⟩
set_option maxHeartbeats 4000000 in
set_option maxRecDepth 100000 in
theorem m_col_n0 {l : Launch} {D : va_G} {cy : Nat → ClassId} {B N : Nat} {g : Nat → va_E} {cg va o0 tn aw mw fw ls gs sn sw kr : Int} {n : Nat} {p : Int} {Lm : Int → Int} {Rd : Int → Int} (hm : vM cy B g 141 cg ((n : Nat) : Int) (p + 1) va o0 tn aw mw fw ls gs sn sw kr) (htx : vIA cy B g 145 200 Lm) (hrd : vIA cy B g 143 49 Rd) (hN : 160 ≤ N) (hn : n ≤ 200) (hL : ∀ i : Int, 0 ≤ i → i < n → 0 < Lm i ∧ Lm i < 65536) (hp : 0 ≤ p ∧ p < n) (hEZ : ERZ Rd []) : CTi l yX11_takesColumn wsX11_takesColumn (rmo 3 69) D cy B N g [.ref (B + 141)] 0 (fun g' => ∃ sp1 : Int, ∃ va1 : Int, vM cy B g' 141 cg ((n : Nat) : Int) sp1 va1 o0 tn aw mw fw ls gs sn sw kr ∧ (∀ q, q ≠ 141 → g' q = g q)) := by
  refine WW_of (cc := cX11_takesColumn) (maxL := 3) (ret := (some .boolean)) (own := RX11) (by decide) rfl rfl (Nat.le_of_ble_eq_true rfl) rfl ?_
  intro pp ee ss mm bl me co hmn
  have hfr_0 : ∀ q, q ≠ 141 → g q = g q := fun _ _ => rfl
  refine w_aload_n dX11_takesColumn_0 rfl 0 rfl ?_
  refine w_get (i := 1) (T := TX11) (NF := 32) 141 (by first | omega | with_reducible rfl) hm rfl (fun _ h => (List.mem_cons_of_mem _ (List.mem_append_right _ h))) (by decide) (List.mem_of_getElem? (i := 1) rfl) rfl dX11_takesColumn_1 ?_
  refine w_iconst dX11_takesColumn_4 ?_
  refine w_iald 143 (by first | omega | with_reducible rfl) hrd (by first | omega | with_reducible rfl) dX11_takesColumn_5 ?_
  refine w_as (st' := [.int (zI 0)]) (sc_i hEZ.1.1.1 rfl) ?_
  refine w_if_eq 40 dX11_takesColumn_6 (by decide) (by first | omega | with_reducible rfl) (fun c_6 => ?_) (fun c_6 => ?_)
  · refine w_iconst dX11_takesColumn_40 ?_
    exact w_zret dX11_takesColumn_41 rfl rfl (by first | with_reducible rfl | omega | (split <;> omega)) ⟨(p + 1), va, hm, hfr_0⟩
  · exfalso; omega

set_option maxHeartbeats 4000000 in
set_option maxRecDepth 100000 in
theorem m_it_cy {l : Launch} {D : va_G} {cy : Nat → ClassId} {B N : Nat} {g : Nat → va_E} {cg va o0 tn aw mw fw ls gs sn sw kr : Int} {n : Nat} {p : Int} {Lm : Int → Int} {Rd : Int → Int} {A : St} {x : List Co} (hm : vM cy B g 141 cg ((n : Nat) : Int) p va o0 tn aw mw fw ls gs sn sw kr) (htx : vIA cy B g 145 200 Lm) (hrd : vIA cy B g 143 49 Rd) (hN : 160 ≤ N) (hn : n ≤ 200) (hL : ∀ i : Int, 0 ≤ i → i < n → 0 < Lm i ∧ Lm i < 65536) (hp : 0 ≤ p ∧ p < n) (hEZ : ERZ Rd (A ++ [x])) (hx5 : x.length < 5) (hv : vcol n Lm p) : CTi l yX11_takesItem wsX11_takesItem (rmo 4 91) D cy B N g [.ref (B + 141)] 1 (fun g' => ∃ sp1 : Int, ∃ va1 : Int, ∃ Rd1 : Int → Int, vM cy B g' 141 cg ((n : Nat) : Int) sp1 va1 o0 tn aw mw fw ls gs sn sw kr ∧ vIA cy B g' 143 49 Rd1 ∧ (sp1 = i7 n Lm p) ∧ (ERZ Rd1 (A ++ [x ++ [(iT n Lm p, iX n Lm p, iV n Lm p)]])) ∧ (0 ≤ Rd1 0 ∧ Rd1 0 ≤ 3) ∧ (∀ q, (q ≠ 141 ∧ q ≠ 143) → g' q = g q)) := by
  refine WW_of (cc := cX11_takesItem) (maxL := 3) (ret := (some .boolean)) (own := RX11) (by decide) rfl rfl (Nat.le_of_ble_eq_true rfl) rfl ?_
  intro pp ee ss mm bl me co hmn
  have hfr_0 : ∀ q, (q ≠ 141 ∧ q ≠ 143) → g q = g q := fun _ _ => rfl
  have hil := inA_lt (n := n) (L := Lm) hp.1
  have hi9 := hil.1 hp.2
  have hL9 := hL p hp.1 hp.2
  refine w_aload_n dX11_takesItem_0 rfl 0 rfl ?_
  refine w_get (i := 4) (T := TX11) (NF := 32) 141 (by first | omega | with_reducible rfl) hm rfl (fun _ h => (List.mem_cons_of_mem _ (List.mem_append_right _ h))) (by decide) (List.mem_of_getElem? (i := 1) rfl) rfl dX11_takesItem_1 ?_
  refine w_aload_n dX11_takesItem_4 rfl 0 rfl ?_
  refine w_get (i := 7) (T := TX11) (NF := 32) 141 (by first | omega | with_reducible rfl) hm rfl (fun _ h => (List.mem_cons_of_mem _ (List.mem_append_right _ h))) (by decide) (List.mem_of_getElem? (i := 2) rfl) rfl dX11_takesItem_5 ?_
  refine w_iald 145 (by first | omega | with_reducible rfl) htx (by first | omega | with_reducible rfl) dX11_takesItem_8 ?_
  refine w_as (st' := [.int (zI (inA n Lm p))]) (sc_i (by omega) rfl) ?_
  refine w_istore_n [(1, .int (zI (inA n Lm p))), (0, .ref (B + 141))] dX11_takesItem_9 rfl (by decide) rfl ?_
  refine w_aload_n dX11_takesItem_10 rfl 1 rfl ?_
  refine w_dup dX11_takesItem_11 rfl ?_
  refine w_get (i := 7) (T := TX11) (NF := 32) 141 (by first | omega | with_reducible rfl) hm rfl (fun _ h => (List.mem_cons_of_mem _ (List.mem_append_right _ h))) (by decide) (List.mem_of_getElem? (i := 2) rfl) rfl dX11_takesItem_12 ?_
  refine w_iconst dX11_takesItem_15 ?_
  refine w_iadd dX11_takesItem_16 ?_
  refine w_put (i := 7) (T := TX11) (NF := 32) 141 (by first | omega | with_reducible rfl) hm rfl (fun _ h => (List.mem_cons_of_mem _ (List.mem_append_right _ h))) tyX11 tyX11_ok nmX11 (by decide) (List.mem_of_getElem? (i := 2) rfl) rfl rfl rfl (Nat.le_of_ble_eq_true rfl) dX11_takesItem_17 (fun g_1 he_2 hn_3 => ?_)
  have hm_4 : vM cy B g_1 141 cg ((n : Nat) : Int) (p + 1) va o0 tn aw mw fw ls gs sn sw kr := he_2
  have htx_5 : vIA cy B g_1 145 200 Lm := vIA_fr htx (fun q h1 h2 => hn_3 q (by omega))
  have hrd_6 : vIA cy B g_1 143 49 Rd := vIA_fr hrd (fun q h1 h2 => hn_3 q (by omega))
  have hfr_7 : ∀ q, (q ≠ 141 ∧ q ≠ 143) → g_1 q = g q := fun q hq => (hn_3 q (by omega)).trans (hfr_0 q hq)
  refine w_iload_n dX11_takesItem_20 rfl 0 rfl ?_
  refine w_bipush dX11_takesItem_21 (by decide) ?_
  refine w_icmp_ne 31 dX11_takesItem_23 (by decide) (by first | omega | with_reducible rfl) (by first | omega | with_reducible rfl) (fun c_23 => ?_) (fun c_23 => ?_)
  · have := hv.1.1; exfalso; omega
  · refine w_aload_n dX11_takesItem_26 rfl 1 rfl ?_
    refine w_calli (As := []) (rest := []) (n := 0) (m_col_y hm_4 htx_5 hrd_6 (by first | omega | with_reducible rfl) (by first | omega | with_reducible rfl) hL (by first | omega | with_reducible rfl) hEZ (by first | omega | with_reducible rfl) hv) gX11_takesItem_X11_takesColumn rfl rfl rfl (by decide +kernel) ⟨Nat.le_of_ble_eq_true rfl, Nat.le_of_ble_eq_true rfl⟩ rfl (by first | omega | with_reducible rfl) hm_4 rfl (Nat.le_of_ble_eq_true rfl) ⟨Nat.zero_le _, Nat.zero_le _⟩ dX11_takesItem_27 rfl (fun g_8 hp_9 => ?_)
    obtain ⟨Rd1_10, hm_11, hrd_12, hE9, hf_13⟩ := hp_9
    have htx_14 : vIA cy B g_8 145 200 Lm := vIA_fr htx_5 (fun q h1 h2 => hf_13 q (by omega))
    have hfr_15 : ∀ q, (q ≠ 141 ∧ q ≠ 143) → g_8 q = g q := fun q hq => (hf_13 q (by omega)).trans (hfr_7 q hq)
    exact w_zret dX11_takesItem_30 rfl rfl (by first | with_reducible rfl | omega | (split <;> omega)) ⟨(i7 n Lm p), (iV n Lm p), Rd1_10, hm_11, hrd_12, rfl, hE9, (by have h7 := hE9.1.1; omega), hfr_15⟩
set_option maxHeartbeats 4000000 in
set_option maxRecDepth 100000 in
theorem m_it_c1 {l : Launch} {D : va_G} {cy : Nat → ClassId} {B N : Nat} {g : Nat → va_E} {cg va o0 tn aw mw fw ls gs sn sw kr : Int} {n : Nat} {p : Int} {Lm : Int → Int} {Rd : Int → Int} {A : St} {x : List Co} (hm : vM cy B g 141 cg ((n : Nat) : Int) p va o0 tn aw mw fw ls gs sn sw kr) (htx : vIA cy B g 145 200 Lm) (hrd : vIA cy B g 143 49 Rd) (hN : 160 ≤ N) (hn : n ≤ 200) (hL : ∀ i : Int, 0 ≤ i → i < n → 0 < Lm i ∧ Lm i < 65536) (hp : 0 ≤ p ∧ p < n) (hEZ : ERZ Rd (A ++ [x])) (h99 : inA n Lm p = 99) (hno : ¬ (vcol n Lm p ∧ x.length < 5)) : CTi l yX11_takesItem wsX11_takesItem (rmo 4 91) D cy B N g [.ref (B + 141)] 0 (fun g' => ∃ sp1 : Int, ∃ va1 : Int, ∃ Rd1 : Int → Int, vM cy B g' 141 cg ((n : Nat) : Int) sp1 va1 o0 tn aw mw fw ls gs sn sw kr ∧ vIA cy B g' 143 49 Rd1 ∧ (0 ≤ Rd1 0 ∧ Rd1 0 ≤ 3) ∧ (∀ q, (q ≠ 141 ∧ q ≠ 143) → g' q = g q)) := by
  refine WW_of (cc := cX11_takesItem) (maxL := 3) (ret := (some .boolean)) (own := RX11) (by decide) rfl rfl (Nat.le_of_ble_eq_true rfl) rfl ?_
  intro pp ee ss mm bl me co hmn
  have hfr_0 : ∀ q, (q ≠ 141 ∧ q ≠ 143) → g q = g q := fun _ _ => rfl
  have hil := inA_lt (n := n) (L := Lm) hp.1
  have hi9 := hil.1 hp.2
  have hL9 := hL p hp.1 hp.2
  refine w_aload_n dX11_takesItem_0 rfl 0 rfl ?_
  refine w_get (i := 4) (T := TX11) (NF := 32) 141 (by first | omega | with_reducible rfl) hm rfl (fun _ h => (List.mem_cons_of_mem _ (List.mem_append_right _ h))) (by decide) (List.mem_of_getElem? (i := 1) rfl) rfl dX11_takesItem_1 ?_
  refine w_aload_n dX11_takesItem_4 rfl 0 rfl ?_
  refine w_get (i := 7) (T := TX11) (NF := 32) 141 (by first | omega | with_reducible rfl) hm rfl (fun _ h => (List.mem_cons_of_mem _ (List.mem_append_right _ h))) (by decide) (List.mem_of_getElem? (i := 2) rfl) rfl dX11_takesItem_5 ?_
  refine w_iald 145 (by first | omega | with_reducible rfl) htx (by first | omega | with_reducible rfl) dX11_takesItem_8 ?_
  refine w_as (st' := [.int (zI (inA n Lm p))]) (sc_i (by omega) rfl) ?_
  refine w_istore_n [(1, .int (zI (inA n Lm p))), (0, .ref (B + 141))] dX11_takesItem_9 rfl (by decide) rfl ?_
  refine w_aload_n dX11_takesItem_10 rfl 1 rfl ?_
  refine w_dup dX11_takesItem_11 rfl ?_
  refine w_get (i := 7) (T := TX11) (NF := 32) 141 (by first | omega | with_reducible rfl) hm rfl (fun _ h => (List.mem_cons_of_mem _ (List.mem_append_right _ h))) (by decide) (List.mem_of_getElem? (i := 2) rfl) rfl dX11_takesItem_12 ?_
  refine w_iconst dX11_takesItem_15 ?_
  refine w_iadd dX11_takesItem_16 ?_
  refine w_put (i := 7) (T := TX11) (NF := 32) 141 (by first | omega | with_reducible rfl) hm rfl (fun _ h => (List.mem_cons_of_mem _ (List.mem_append_right _ h))) tyX11 tyX11_ok nmX11 (by decide) (List.mem_of_getElem? (i := 2) rfl) rfl rfl rfl (Nat.le_of_ble_eq_true rfl) dX11_takesItem_17 (fun g_1 he_2 hn_3 => ?_)
  have hm_4 : vM cy B g_1 141 cg ((n : Nat) : Int) (p + 1) va o0 tn aw mw fw ls gs sn sw kr := he_2
  have htx_5 : vIA cy B g_1 145 200 Lm := vIA_fr htx (fun q h1 h2 => hn_3 q (by omega))
  have hrd_6 : vIA cy B g_1 143 49 Rd := vIA_fr hrd (fun q h1 h2 => hn_3 q (by omega))
  have hfr_7 : ∀ q, (q ≠ 141 ∧ q ≠ 143) → g_1 q = g q := fun q hq => (hn_3 q (by omega)).trans (hfr_0 q hq)
  refine w_iload_n dX11_takesItem_20 rfl 0 rfl ?_
  refine w_bipush dX11_takesItem_21 (by decide) ?_
  refine w_icmp_ne 31 dX11_takesItem_23 (by decide) (by first | omega | with_reducible rfl) (by first | omega | with_reducible rfl) (fun c_23 => ?_) (fun c_23 => ?_)
  · exfalso; omega
  · refine w_aload_n dX11_takesItem_26 rfl 1 rfl ?_
    refine w_calli (As := []) (rest := []) (n := 0) (m_col_n1 hm_4 htx_5 hrd_6 (by first | omega | with_reducible rfl) (by first | omega | with_reducible rfl) hL (by first | omega | with_reducible rfl) hEZ (by first | omega | with_reducible rfl) hno) gX11_takesItem_X11_takesColumn rfl rfl rfl (by decide +kernel) ⟨Nat.le_of_ble_eq_true rfl, Nat.le_of_ble_eq_true rfl⟩ rfl (by first | omega | with_reducible rfl) hm_4 rfl (Nat.le_of_ble_eq_true rfl) ⟨Nat.zero_le _, Nat.zero_le _⟩ dX11_takesItem_27 rfl (fun g_8 hp_9 => ?_)
    obtain ⟨sp1_10, va1_11, hm_12, hf_13⟩ := hp_9
    have htx_14 : vIA cy B g_8 145 200 Lm := vIA_fr htx_5 (fun q h1 h2 => hf_13 q (by omega))
    have hrd_15 : vIA cy B g_8 143 49 Rd := vIA_fr hrd_6 (fun q h1 h2 => hf_13 q (by omega))
    have hfr_16 : ∀ q, (q ≠ 141 ∧ q ≠ 143) → g_8 q = g q := fun q hq => (hf_13 q (by omega)).trans (hfr_7 q hq)
    exact w_zret dX11_takesItem_30 rfl rfl (by first | with_reducible rfl | omega | (split <;> omega)) ⟨sp1_10, va1_11, Rd, hm_12, hrd_15, (by have h7 := hEZ.1.1; omega), hfr_16⟩
set_option maxHeartbeats 4000000 in
set_option maxRecDepth 100000 in
theorem m_it_c0 {l : Launch} {D : va_G} {cy : Nat → ClassId} {B N : Nat} {g : Nat → va_E} {cg va o0 tn aw mw fw ls gs sn sw kr : Int} {n : Nat} {p : Int} {Lm : Int → Int} {Rd : Int → Int}  (hm : vM cy B g 141 cg ((n : Nat) : Int) p va o0 tn aw mw fw ls gs sn sw kr) (htx : vIA cy B g 145 200 Lm) (hrd : vIA cy B g 143 49 Rd) (hN : 160 ≤ N) (hn : n ≤ 200) (hL : ∀ i : Int, 0 ≤ i → i < n → 0 < Lm i ∧ Lm i < 65536) (hp : 0 ≤ p ∧ p < n) (hEZ : ERZ Rd []) (h99 : inA n Lm p = 99) : CTi l yX11_takesItem wsX11_takesItem (rmo 4 91) D cy B N g [.ref (B + 141)] 0 (fun g' => ∃ sp1 : Int, ∃ va1 : Int, ∃ Rd1 : Int → Int, vM cy B g' 141 cg ((n : Nat) : Int) sp1 va1 o0 tn aw mw fw ls gs sn sw kr ∧ vIA cy B g' 143 49 Rd1 ∧ (0 ≤ Rd1 0 ∧ Rd1 0 ≤ 3) ∧ (∀ q, (q ≠ 141 ∧ q ≠ 143) → g' q = g q)) := by
  refine WW_of (cc := cX11_takesItem) (maxL := 3) (ret := (some .boolean)) (own := RX11) (by decide) rfl rfl (Nat.le_of_ble_eq_true rfl) rfl ?_
  intro pp ee ss mm bl me co hmn
  have hfr_0 : ∀ q, (q ≠ 141 ∧ q ≠ 143) → g q = g q := fun _ _ => rfl
  have hil := inA_lt (n := n) (L := Lm) hp.1
  have hi9 := hil.1 hp.2
  have hL9 := hL p hp.1 hp.2
  refine w_aload_n dX11_takesItem_0 rfl 0 rfl ?_
  refine w_get (i := 4) (T := TX11) (NF := 32) 141 (by first | omega | with_reducible rfl) hm rfl (fun _ h => (List.mem_cons_of_mem _ (List.mem_append_right _ h))) (by decide) (List.mem_of_getElem? (i := 1) rfl) rfl dX11_takesItem_1 ?_
  refine w_aload_n dX11_takesItem_4 rfl 0 rfl ?_
  refine w_get (i := 7) (T := TX11) (NF := 32) 141 (by first | omega | with_reducible rfl) hm rfl (fun _ h => (List.mem_cons_of_mem _ (List.mem_append_right _ h))) (by decide) (List.mem_of_getElem? (i := 2) rfl) rfl dX11_takesItem_5 ?_
  refine w_iald 145 (by first | omega | with_reducible rfl) htx (by first | omega | with_reducible rfl) dX11_takesItem_8 ?_
  refine w_as (st' := [.int (zI (inA n Lm p))]) (sc_i (by omega) rfl) ?_
  refine w_istore_n [(1, .int (zI (inA n Lm p))), (0, .ref (B + 141))] dX11_takesItem_9 rfl (by decide) rfl ?_
  refine w_aload_n dX11_takesItem_10 rfl 1 rfl ?_
  refine w_dup dX11_takesItem_11 rfl ?_
  refine w_get (i := 7) (T := TX11) (NF := 32) 141 (by first | omega | with_reducible rfl) hm rfl (fun _ h => (List.mem_cons_of_mem _ (List.mem_append_right _ h))) (by decide) (List.mem_of_getElem? (i := 2) rfl) rfl dX11_takesItem_12 ?_
  refine w_iconst dX11_takesItem_15 ?_
  refine w_iadd dX11_takesItem_16 ?_
  refine w_put (i := 7) (T := TX11) (NF := 32) 141 (by first | omega | with_reducible rfl) hm rfl (fun _ h => (List.mem_cons_of_mem _ (List.mem_append_right _ h))) tyX11 tyX11_ok nmX11 (by decide) (List.mem_of_getElem? (i := 2) rfl) rfl rfl rfl (Nat.le_of_ble_eq_true rfl) dX11_takesItem_17 (fun g_1 he_2 hn_3 => ?_)
  have hm_4 : vM cy B g_1 141 cg ((n : Nat) : Int) (p + 1) va o0 tn aw mw fw ls gs sn sw kr := he_2
  have htx_5 : vIA cy B g_1 145 200 Lm := vIA_fr htx (fun q h1 h2 => hn_3 q (by omega))
  have hrd_6 : vIA cy B g_1 143 49 Rd := vIA_fr hrd (fun q h1 h2 => hn_3 q (by omega))
  have hfr_7 : ∀ q, (q ≠ 141 ∧ q ≠ 143) → g_1 q = g q := fun q hq => (hn_3 q (by omega)).trans (hfr_0 q hq)
  refine w_iload_n dX11_takesItem_20 rfl 0 rfl ?_
  refine w_bipush dX11_takesItem_21 (by decide) ?_
  refine w_icmp_ne 31 dX11_takesItem_23 (by decide) (by first | omega | with_reducible rfl) (by first | omega | with_reducible rfl) (fun c_23 => ?_) (fun c_23 => ?_)
  · exfalso; omega
  · refine w_aload_n dX11_takesItem_26 rfl 1 rfl ?_
    refine w_calli (As := []) (rest := []) (n := 0) (m_col_n0 hm_4 htx_5 hrd_6 (by first | omega | with_reducible rfl) (by first | omega | with_reducible rfl) hL (by first | omega | with_reducible rfl) hEZ) gX11_takesItem_X11_takesColumn rfl rfl rfl (by decide +kernel) ⟨Nat.le_of_ble_eq_true rfl, Nat.le_of_ble_eq_true rfl⟩ rfl (by first | omega | with_reducible rfl) hm_4 rfl (Nat.le_of_ble_eq_true rfl) ⟨Nat.zero_le _, Nat.zero_le _⟩ dX11_takesItem_27 rfl (fun g_8 hp_9 => ?_)
    obtain ⟨sp1_10, va1_11, hm_12, hf_13⟩ := hp_9
    have htx_14 : vIA cy B g_8 145 200 Lm := vIA_fr htx_5 (fun q h1 h2 => hf_13 q (by omega))
    have hrd_15 : vIA cy B g_8 143 49 Rd := vIA_fr hrd_6 (fun q h1 h2 => hf_13 q (by omega))
    have hfr_16 : ∀ q, (q ≠ 141 ∧ q ≠ 143) → g_8 q = g q := fun q hq => (hf_13 q (by omega)).trans (hfr_7 q hq)
    exact w_zret dX11_takesItem_30 rfl rfl (by first | with_reducible rfl | omega | (split <;> omega)) ⟨sp1_10, va1_11, Rd, hm_12, hrd_15, (by have h7 := hEZ.1.1.1; have : (([] : St).length : Int) = 0 := rfl; omega), hfr_16⟩
set_option maxHeartbeats 4000000 in
set_option maxRecDepth 100000 in
theorem m_it_sy {l : Launch} {D : va_G} {cy : Nat → ClassId} {B N : Nat} {g : Nat → va_E} {cg va o0 tn aw mw fw ls gs sn sw kr : Int} {n : Nat} {p : Int} {Lm : Int → Int} {Rd : Int → Int} {S : St} (hm : vM cy B g 141 cg ((n : Nat) : Int) p va o0 tn aw mw fw ls gs sn sw kr) (htx : vIA cy B g 145 200 Lm) (hrd : vIA cy B g 143 49 Rd) (hN : 160 ≤ N) (hn : n ≤ 200) (hL : ∀ i : Int, 0 ≤ i → i < n → 0 < Lm i ∧ Lm i < 65536) (hp : 0 ≤ p ∧ p < n) (hEZ : ERZ Rd S) (h115 : inA n Lm p = 115) (h59 : inA n Lm (p + 1) = 59) (hS3 : S.length < 3) : CTi l yX11_takesItem wsX11_takesItem (rmo 4 91) D cy B N g [.ref (B + 141)] 1 (fun g' => ∃ sp1 : Int, ∃ va1 : Int, ∃ Rd1 : Int → Int, vM cy B g' 141 cg ((n : Nat) : Int) sp1 va1 o0 tn aw mw fw ls gs sn sw kr ∧ vIA cy B g' 143 49 Rd1 ∧ (sp1 = p + 2) ∧ (ERZ Rd1 (S ++ [[]])) ∧ (0 ≤ Rd1 0 ∧ Rd1 0 ≤ 3) ∧ (∀ q, (q ≠ 141 ∧ q ≠ 143) → g' q = g q)) := by
  refine WW_of (cc := cX11_takesItem) (maxL := 3) (ret := (some .boolean)) (own := RX11) (by decide) rfl rfl (Nat.le_of_ble_eq_true rfl) rfl ?_
  intro pp ee ss mm bl me co hmn
  have hfr_0 : ∀ q, (q ≠ 141 ∧ q ≠ 143) → g q = g q := fun _ _ => rfl
  have hil := inA_lt (n := n) (L := Lm) hp.1
  have hi9 := hil.1 hp.2
  have hL9 := hL p hp.1 hp.2
  refine w_aload_n dX11_takesItem_0 rfl 0 rfl ?_
  refine w_get (i := 4) (T := TX11) (NF := 32) 141 (by first | omega | with_reducible rfl) hm rfl (fun _ h => (List.mem_cons_of_mem _ (List.mem_append_right _ h))) (by decide) (List.mem_of_getElem? (i := 1) rfl) rfl dX11_takesItem_1 ?_
  refine w_aload_n dX11_takesItem_4 rfl 0 rfl ?_
  refine w_get (i := 7) (T := TX11) (NF := 32) 141 (by first | omega | with_reducible rfl) hm rfl (fun _ h => (List.mem_cons_of_mem _ (List.mem_append_right _ h))) (by decide) (List.mem_of_getElem? (i := 2) rfl) rfl dX11_takesItem_5 ?_
  refine w_iald 145 (by first | omega | with_reducible rfl) htx (by first | omega | with_reducible rfl) dX11_takesItem_8 ?_
  refine w_as (st' := [.int (zI (inA n Lm p))]) (sc_i (by omega) rfl) ?_
  refine w_istore_n [(1, .int (zI (inA n Lm p))), (0, .ref (B + 141))] dX11_takesItem_9 rfl (by decide) rfl ?_
  refine w_aload_n dX11_takesItem_10 rfl 1 rfl ?_
  refine w_dup dX11_takesItem_11 rfl ?_
  refine w_get (i := 7) (T := TX11) (NF := 32) 141 (by first | omega | with_reducible rfl) hm rfl (fun _ h => (List.mem_cons_of_mem _ (List.mem_append_right _ h))) (by decide) (List.mem_of_getElem? (i := 2) rfl) rfl dX11_takesItem_12 ?_
  refine w_iconst dX11_takesItem_15 ?_
  refine w_iadd dX11_takesItem_16 ?_
  refine w_put (i := 7) (T := TX11) (NF := 32) 141 (by first | omega | with_reducible rfl) hm rfl (fun _ h => (List.mem_cons_of_mem _ (List.mem_append_right _ h))) tyX11 tyX11_ok nmX11 (by decide) (List.mem_of_getElem? (i := 2) rfl) rfl rfl rfl (Nat.le_of_ble_eq_true rfl) dX11_takesItem_17 (fun g_1 he_2 hn_3 => ?_)
  have hm_4 : vM cy B g_1 141 cg ((n : Nat) : Int) (p + 1) va o0 tn aw mw fw ls gs sn sw kr := he_2
  have htx_5 : vIA cy B g_1 145 200 Lm := vIA_fr htx (fun q h1 h2 => hn_3 q (by omega))
  have hrd_6 : vIA cy B g_1 143 49 Rd := vIA_fr hrd (fun q h1 h2 => hn_3 q (by omega))
  have hfr_7 : ∀ q, (q ≠ 141 ∧ q ≠ 143) → g_1 q = g q := fun q hq => (hn_3 q (by omega)).trans (hfr_0 q hq)
  refine w_iload_n dX11_takesItem_20 rfl 0 rfl ?_
  refine w_bipush dX11_takesItem_21 (by decide) ?_
  refine w_icmp_ne 31 dX11_takesItem_23 (by decide) (by first | omega | with_reducible rfl) (by first | omega | with_reducible rfl) (fun c_23 => ?_) (fun c_23 => ?_)
  · refine w_iload_n dX11_takesItem_31 rfl 0 rfl ?_
    refine w_bipush dX11_takesItem_32 (by decide) ?_
    refine w_icmp_ne 62 dX11_takesItem_34 (by decide) (by first | omega | with_reducible rfl) (by first | omega | with_reducible rfl) (fun c_34 => ?_) (fun c_34 => ?_)
    · exfalso; omega
    · refine w_aload_n dX11_takesItem_37 rfl 1 rfl ?_
      refine w_get (i := 1) (T := TX11) (NF := 32) 141 (by first | omega | with_reducible rfl) hm_4 rfl (fun _ h => (List.mem_cons_of_mem _ (List.mem_append_right _ h))) (by decide) (List.mem_of_getElem? (i := 3) rfl) rfl dX11_takesItem_38 ?_
      refine w_iconst dX11_takesItem_41 ?_
      refine w_iald 143 (by first | omega | with_reducible rfl) hrd_6 (by first | omega | with_reducible rfl) dX11_takesItem_42 ?_
      refine w_as (st' := [.int (zI ((S.length : Nat) : Int))]) (sc_i hEZ.1.1.1 rfl) ?_
      refine w_iconst dX11_takesItem_43 ?_
      refine w_icmp_ge 62 dX11_takesItem_44 (by decide) (by first | omega | with_reducible rfl) (by first | omega | with_reducible rfl) (fun c_44 => ?_) (fun c_44 => ?_)
      · exfalso; omega
      · refine w_aload_n dX11_takesItem_47 rfl 1 rfl ?_
        refine w_bipush dX11_takesItem_48 (by decide) ?_
        refine w_bipush dX11_takesItem_50 (by decide) ?_
        refine w_calli (As := [.int (zI 59), .int (zI 59)]) (rest := []) (n := 2) (c_X11_isAt hm_4 htx_5 (by first | omega | with_reducible rfl) (by first | omega | with_reducible rfl) (by first | omega | with_reducible rfl) (by first | omega | with_reducible rfl) (by first | omega | with_reducible rfl) (by first | omega | with_reducible rfl) (by first | omega | with_reducible rfl)) gX11_takesItem_X11_isAt rfl rfl rfl (by decide +kernel) ⟨Nat.le_of_ble_eq_true rfl, Nat.le_of_ble_eq_true rfl⟩ rfl (by first | omega | with_reducible rfl) hm_4 rfl (Nat.le_of_ble_eq_true rfl) ⟨Nat.zero_le _, Nat.zero_le _⟩ dX11_takesItem_52 rfl (fun g_8 hp_9 => ?_)
        subst g_8
        refine w_ifeqB 62 dX11_takesItem_55 (by decide) (fun c_55 => ?_) (fun c_55 => ?_)
        · exact absurd ⟨by omega, by omega⟩ c_55
        · refine w_iconst dX11_takesItem_58 ?_
          refine w_goto 63 dX11_takesItem_59 (by decide) ?_
          refine w_istore_n [(2, .int (zI 1)), (1, .int (zI (inA n Lm p))), (0, .ref (B + 141))] dX11_takesItem_63 rfl (by decide) rfl ?_
          refine w_aload_n dX11_takesItem_64 rfl 2 rfl ?_
          refine w_dup dX11_takesItem_65 rfl ?_
          refine w_get (i := 7) (T := TX11) (NF := 32) 141 (by first | omega | with_reducible rfl) hm_4 rfl (fun _ h => (List.mem_cons_of_mem _ (List.mem_append_right _ h))) (by decide) (List.mem_of_getElem? (i := 2) rfl) rfl dX11_takesItem_66 ?_
          refine w_iconst dX11_takesItem_69 ?_
          refine w_iadd dX11_takesItem_70 ?_
          refine w_put (i := 7) (T := TX11) (NF := 32) 141 (by first | omega | with_reducible rfl) hm_4 rfl (fun _ h => (List.mem_cons_of_mem _ (List.mem_append_right _ h))) tyX11 tyX11_ok nmX11 (by decide) (List.mem_of_getElem? (i := 2) rfl) rfl rfl rfl (Nat.le_of_ble_eq_true rfl) dX11_takesItem_71 (fun g_10 he_11 hn_12 => ?_)
          have hm_13 : vM cy B g_10 141 cg ((n : Nat) : Int) ((p + 1) + 1) va o0 tn aw mw fw ls gs sn sw kr := he_11
          have htx_14 : vIA cy B g_10 145 200 Lm := vIA_fr htx_5 (fun q h1 h2 => hn_12 q (by omega))
          have hrd_15 : vIA cy B g_10 143 49 Rd := vIA_fr hrd_6 (fun q h1 h2 => hn_12 q (by omega))
          have hfr_16 : ∀ q, (q ≠ 141 ∧ q ≠ 143) → g_10 q = g q := fun q hq => (hn_12 q (by omega)).trans (hfr_7 q hq)
          refine w_aload_n dX11_takesItem_74 rfl 2 rfl ?_
          refine w_get (i := 1) (T := TX11) (NF := 32) 141 (by first | omega | with_reducible rfl) hm_13 rfl (fun _ h => (List.mem_cons_of_mem _ (List.mem_append_right _ h))) (by decide) (List.mem_of_getElem? (i := 3) rfl) rfl dX11_takesItem_75 ?_
          refine w_iconst dX11_takesItem_78 ?_
          refine w_dup2 dX11_takesItem_79 rfl rfl ?_
          refine w_iald 143 (by first | omega | with_reducible rfl) hrd_15 (by first | omega | with_reducible rfl) dX11_takesItem_80 ?_
          refine w_as (st' := [.int (zI ((S.length : Nat) : Int)), .int (zI 0), .ref (B + 143)]) (sc_i hEZ.1.1.1 rfl) ?_
          refine w_iload_n dX11_takesItem_81 rfl 0 rfl ?_
          refine w_if_eq 89 dX11_takesItem_82 (by decide) (by first | omega | with_reducible rfl) (fun c_82 => ?_) (fun c_82 => ?_)
          · exfalso; omega
          · refine w_iconst dX11_takesItem_85 ?_
            refine w_goto 90 dX11_takesItem_86 (by decide) ?_
            refine w_iadd dX11_takesItem_90 ?_
            refine w_iast 143 (by first | omega | with_reducible rfl) hrd_15 (by first | omega | with_reducible rfl) dX11_takesItem_91 (fun g_17 he_18 hn_19 => ?_)
            have hm_20 : vM cy B g_17 141 cg ((n : Nat) : Int) ((p + 1) + 1) va o0 tn aw mw fw ls gs sn sw kr := vM_fr hm_13 (fun q h1 h2 => hn_19 q (by omega))
            have htx_21 : vIA cy B g_17 145 200 Lm := vIA_fr htx_14 (fun q h1 h2 => hn_19 q (by omega))
            have hrd_22 : vIA cy B g_17 143 49 (uZ Rd 0 (((S.length : Nat) : Int) + 1)) := he_18
            have hfr_23 : ∀ q, (q ≠ 141 ∧ q ≠ 143) → g_17 q = g q := fun q hq => (hn_19 q (by omega)).trans (hfr_16 q hq)
            refine w_iload_n dX11_takesItem_92 rfl 0 rfl ?_
            exact w_zret dX11_takesItem_93 rfl rfl (by first | with_reducible rfl | omega | (split <;> omega)) ⟨((p + 1) + 1), va, (uZ Rd 0 (((S.length : Nat) : Int) + 1)), hm_20, hrd_22, (by omega), (ERZ_s hEZ hS3), (by rw [uZ_same]; omega), hfr_23⟩
  · exfalso; omega
set_option maxHeartbeats 4000000 in
set_option maxRecDepth 100000 in
theorem m_it_n {l : Launch} {D : va_G} {cy : Nat → ClassId} {B N : Nat} {g : Nat → va_E} {cg va o0 tn aw mw fw ls gs sn sw kr : Int} {n : Nat} {p : Int} {Lm : Int → Int} {Rd : Int → Int} {S : St} (hm : vM cy B g 141 cg ((n : Nat) : Int) p va o0 tn aw mw fw ls gs sn sw kr) (htx : vIA cy B g 145 200 Lm) (hrd : vIA cy B g 143 49 Rd) (hN : 160 ≤ N) (hn : n ≤ 200) (hL : ∀ i : Int, 0 ≤ i → i < n → 0 < Lm i ∧ Lm i < 65536) (hp : 0 ≤ p ∧ p < n) (hEZ : ERZ Rd S) (hno : inA n Lm p ≠ 99 ∧ ¬ (inA n Lm p = 115 ∧ inA n Lm (p + 1) = 59 ∧ S.length < 3)) : CTi l yX11_takesItem wsX11_takesItem (rmo 4 91) D cy B N g [.ref (B + 141)] 0 (fun g' => ∃ sp1 : Int, ∃ va1 : Int, ∃ Rd1 : Int → Int, vM cy B g' 141 cg ((n : Nat) : Int) sp1 va1 o0 tn aw mw fw ls gs sn sw kr ∧ vIA cy B g' 143 49 Rd1 ∧ (0 ≤ Rd1 0 ∧ Rd1 0 ≤ 3) ∧ (∀ q, (q ≠ 141 ∧ q ≠ 143) → g' q = g q)) := by
  refine WW_of (cc := cX11_takesItem) (maxL := 3) (ret := (some .boolean)) (own := RX11) (by decide) rfl rfl (Nat.le_of_ble_eq_true rfl) rfl ?_
  intro pp ee ss mm bl me co hmn
  have hfr_0 : ∀ q, (q ≠ 141 ∧ q ≠ 143) → g q = g q := fun _ _ => rfl
  have hil := inA_lt (n := n) (L := Lm) hp.1
  have hi9 := hil.1 hp.2
  have hL9 := hL p hp.1 hp.2
  have hS3 := hEZ.1.1
  refine w_aload_n dX11_takesItem_0 rfl 0 rfl ?_
  refine w_get (i := 4) (T := TX11) (NF := 32) 141 (by first | omega | with_reducible rfl) hm rfl (fun _ h => (List.mem_cons_of_mem _ (List.mem_append_right _ h))) (by decide) (List.mem_of_getElem? (i := 1) rfl) rfl dX11_takesItem_1 ?_
  refine w_aload_n dX11_takesItem_4 rfl 0 rfl ?_
  refine w_get (i := 7) (T := TX11) (NF := 32) 141 (by first | omega | with_reducible rfl) hm rfl (fun _ h => (List.mem_cons_of_mem _ (List.mem_append_right _ h))) (by decide) (List.mem_of_getElem? (i := 2) rfl) rfl dX11_takesItem_5 ?_
  refine w_iald 145 (by first | omega | with_reducible rfl) htx (by first | omega | with_reducible rfl) dX11_takesItem_8 ?_
  refine w_as (st' := [.int (zI (inA n Lm p))]) (sc_i (by omega) rfl) ?_
  refine w_istore_n [(1, .int (zI (inA n Lm p))), (0, .ref (B + 141))] dX11_takesItem_9 rfl (by decide) rfl ?_
  refine w_aload_n dX11_takesItem_10 rfl 1 rfl ?_
  refine w_dup dX11_takesItem_11 rfl ?_
  refine w_get (i := 7) (T := TX11) (NF := 32) 141 (by first | omega | with_reducible rfl) hm rfl (fun _ h => (List.mem_cons_of_mem _ (List.mem_append_right _ h))) (by decide) (List.mem_of_getElem? (i := 2) rfl) rfl dX11_takesItem_12 ?_
  refine w_iconst dX11_takesItem_15 ?_
  refine w_iadd dX11_takesItem_16 ?_
  refine w_put (i := 7) (T := TX11) (NF := 32) 141 (by first | omega | with_reducible rfl) hm rfl (fun _ h => (List.mem_cons_of_mem _ (List.mem_append_right _ h))) tyX11 tyX11_ok nmX11 (by decide) (List.mem_of_getElem? (i := 2) rfl) rfl rfl rfl (Nat.le_of_ble_eq_true rfl) dX11_takesItem_17 (fun g_1 he_2 hn_3 => ?_)
  have hm_4 : vM cy B g_1 141 cg ((n : Nat) : Int) (p + 1) va o0 tn aw mw fw ls gs sn sw kr := he_2
  have htx_5 : vIA cy B g_1 145 200 Lm := vIA_fr htx (fun q h1 h2 => hn_3 q (by omega))
  have hrd_6 : vIA cy B g_1 143 49 Rd := vIA_fr hrd (fun q h1 h2 => hn_3 q (by omega))
  have hfr_7 : ∀ q, (q ≠ 141 ∧ q ≠ 143) → g_1 q = g q := fun q hq => (hn_3 q (by omega)).trans (hfr_0 q hq)
  refine w_iload_n dX11_takesItem_20 rfl 0 rfl ?_
  refine w_bipush dX11_takesItem_21 (by decide) ?_
  refine w_icmp_ne 31 dX11_takesItem_23 (by decide) (by first | omega | with_reducible rfl) (by first | omega | with_reducible rfl) (fun c_23 => ?_) (fun c_23 => ?_)
  · refine w_iload_n dX11_takesItem_31 rfl 0 rfl ?_
    refine w_bipush dX11_takesItem_32 (by decide) ?_
    refine w_icmp_ne 62 dX11_takesItem_34 (by decide) (by first | omega | with_reducible rfl) (by first | omega | with_reducible rfl) (fun c_34 => ?_) (fun c_34 => ?_)
    · refine w_iconst dX11_takesItem_62 ?_
      refine w_istore_n [(2, .int (zI 0)), (1, .int (zI (inA n Lm p))), (0, .ref (B + 141))] dX11_takesItem_63 rfl (by decide) rfl ?_
      refine w_aload_n dX11_takesItem_64 rfl 2 rfl ?_
      refine w_dup dX11_takesItem_65 rfl ?_
      refine w_get (i := 7) (T := TX11) (NF := 32) 141 (by first | omega | with_reducible rfl) hm_4 rfl (fun _ h => (List.mem_cons_of_mem _ (List.mem_append_right _ h))) (by decide) (List.mem_of_getElem? (i := 2) rfl) rfl dX11_takesItem_66 ?_
      refine w_iconst dX11_takesItem_69 ?_
      refine w_iadd dX11_takesItem_70 ?_
      refine w_put (i := 7) (T := TX11) (NF := 32) 141 (by first | omega | with_reducible rfl) hm_4 rfl (fun _ h => (List.mem_cons_of_mem _ (List.mem_append_right _ h))) tyX11 tyX11_ok nmX11 (by decide) (List.mem_of_getElem? (i := 2) rfl) rfl rfl rfl (Nat.le_of_ble_eq_true rfl) dX11_takesItem_71 (fun g_8 he_9 hn_10 => ?_)
      have hm_11 : vM cy B g_8 141 cg ((n : Nat) : Int) ((p + 1) + 1) va o0 tn aw mw fw ls gs sn sw kr := he_9
      have htx_12 : vIA cy B g_8 145 200 Lm := vIA_fr htx_5 (fun q h1 h2 => hn_10 q (by omega))
      have hrd_13 : vIA cy B g_8 143 49 Rd := vIA_fr hrd_6 (fun q h1 h2 => hn_10 q (by omega))
      have hfr_14 : ∀ q, (q ≠ 141 ∧ q ≠ 143) → g_8 q = g q := fun q hq => (hn_10 q (by omega)).trans (hfr_7 q hq)
      refine w_aload_n dX11_takesItem_74 rfl 2 rfl ?_
      refine w_get (i := 1) (T := TX11) (NF := 32) 141 (by first | omega | with_reducible rfl) hm_11 rfl (fun _ h => (List.mem_cons_of_mem _ (List.mem_append_right _ h))) (by decide) (List.mem_of_getElem? (i := 3) rfl) rfl dX11_takesItem_75 ?_
      refine w_iconst dX11_takesItem_78 ?_
      refine w_dup2 dX11_takesItem_79 rfl rfl ?_
      refine w_iald 143 (by first | omega | with_reducible rfl) hrd_13 (by first | omega | with_reducible rfl) dX11_takesItem_80 ?_
      refine w_as (st' := [.int (zI ((S.length : Nat) : Int)), .int (zI 0), .ref (B + 143)]) (sc_i hEZ.1.1.1 rfl) ?_
      refine w_iload_n dX11_takesItem_81 rfl 0 rfl ?_
      refine w_if_eq 89 dX11_takesItem_82 (by decide) (by first | omega | with_reducible rfl) (fun c_82 => ?_) (fun c_82 => ?_)
      · refine w_iconst dX11_takesItem_89 ?_
        refine w_iadd dX11_takesItem_90 ?_
        refine w_iast 143 (by first | omega | with_reducible rfl) hrd_13 (by first | omega | with_reducible rfl) dX11_takesItem_91 (fun g_15 he_16 hn_17 => ?_)
        have hm_18 : vM cy B g_15 141 cg ((n : Nat) : Int) ((p + 1) + 1) va o0 tn aw mw fw ls gs sn sw kr := vM_fr hm_11 (fun q h1 h2 => hn_17 q (by omega))
        have htx_19 : vIA cy B g_15 145 200 Lm := vIA_fr htx_12 (fun q h1 h2 => hn_17 q (by omega))
        have hrd_20 : vIA cy B g_15 143 49 (uZ Rd 0 (((S.length : Nat) : Int) + 0)) := he_16
        have hfr_21 : ∀ q, (q ≠ 141 ∧ q ≠ 143) → g_15 q = g q := fun q hq => (hn_17 q (by omega)).trans (hfr_14 q hq)
        refine w_iload_n dX11_takesItem_92 rfl 0 rfl ?_
        exact w_zret dX11_takesItem_93 rfl rfl (by first | with_reducible rfl | omega | (split <;> omega)) ⟨((p + 1) + 1), va, (uZ Rd 0 (((S.length : Nat) : Int) + 0)), hm_18, hrd_20, (by rw [uZ_same]; omega), hfr_21⟩
      · refine w_iconst dX11_takesItem_85 ?_
        refine w_goto 90 dX11_takesItem_86 (by decide) ?_
        refine w_iadd dX11_takesItem_90 ?_
        refine w_iast 143 (by first | omega | with_reducible rfl) hrd_13 (by first | omega | with_reducible rfl) dX11_takesItem_91 (fun g_22 he_23 hn_24 => ?_)
        have hm_25 : vM cy B g_22 141 cg ((n : Nat) : Int) ((p + 1) + 1) va o0 tn aw mw fw ls gs sn sw kr := vM_fr hm_11 (fun q h1 h2 => hn_24 q (by omega))
        have htx_26 : vIA cy B g_22 145 200 Lm := vIA_fr htx_12 (fun q h1 h2 => hn_24 q (by omega))
        have hrd_27 : vIA cy B g_22 143 49 (uZ Rd 0 (((S.length : Nat) : Int) + 1)) := he_23
        have hfr_28 : ∀ q, (q ≠ 141 ∧ q ≠ 143) → g_22 q = g q := fun q hq => (hn_24 q (by omega)).trans (hfr_14 q hq)
        refine w_iload_n dX11_takesItem_92 rfl 0 rfl ?_
        exact w_zret dX11_takesItem_93 rfl rfl (by first | with_reducible rfl | omega | (split <;> omega)) ⟨((p + 1) + 1), va, (uZ Rd 0 (((S.length : Nat) : Int) + 1)), hm_25, hrd_27, (by rw [uZ_same]; omega), hfr_28⟩
    · refine w_aload_n dX11_takesItem_37 rfl 1 rfl ?_
      refine w_get (i := 1) (T := TX11) (NF := 32) 141 (by first | omega | with_reducible rfl) hm_4 rfl (fun _ h => (List.mem_cons_of_mem _ (List.mem_append_right _ h))) (by decide) (List.mem_of_getElem? (i := 3) rfl) rfl dX11_takesItem_38 ?_
      refine w_iconst dX11_takesItem_41 ?_
      refine w_iald 143 (by first | omega | with_reducible rfl) hrd_6 (by first | omega | with_reducible rfl) dX11_takesItem_42 ?_
      refine w_as (st' := [.int (zI ((S.length : Nat) : Int))]) (sc_i hEZ.1.1.1 rfl) ?_
      refine w_iconst dX11_takesItem_43 ?_
      refine w_icmp_ge 62 dX11_takesItem_44 (by decide) (by first | omega | with_reducible rfl) (by first | omega | with_reducible rfl) (fun c_44 => ?_) (fun c_44 => ?_)
      · refine w_iconst dX11_takesItem_62 ?_
        refine w_istore_n [(2, .int (zI 0)), (1, .int (zI (inA n Lm p))), (0, .ref (B + 141))] dX11_takesItem_63 rfl (by decide) rfl ?_
        refine w_aload_n dX11_takesItem_64 rfl 2 rfl ?_
        refine w_dup dX11_takesItem_65 rfl ?_
        refine w_get (i := 7) (T := TX11) (NF := 32) 141 (by first | omega | with_reducible rfl) hm_4 rfl (fun _ h => (List.mem_cons_of_mem _ (List.mem_append_right _ h))) (by decide) (List.mem_of_getElem? (i := 2) rfl) rfl dX11_takesItem_66 ?_
        refine w_iconst dX11_takesItem_69 ?_
        refine w_iadd dX11_takesItem_70 ?_
        refine w_put (i := 7) (T := TX11) (NF := 32) 141 (by first | omega | with_reducible rfl) hm_4 rfl (fun _ h => (List.mem_cons_of_mem _ (List.mem_append_right _ h))) tyX11 tyX11_ok nmX11 (by decide) (List.mem_of_getElem? (i := 2) rfl) rfl rfl rfl (Nat.le_of_ble_eq_true rfl) dX11_takesItem_71 (fun g_29 he_30 hn_31 => ?_)
        have hm_32 : vM cy B g_29 141 cg ((n : Nat) : Int) ((p + 1) + 1) va o0 tn aw mw fw ls gs sn sw kr := he_30
        have htx_33 : vIA cy B g_29 145 200 Lm := vIA_fr htx_5 (fun q h1 h2 => hn_31 q (by omega))
        have hrd_34 : vIA cy B g_29 143 49 Rd := vIA_fr hrd_6 (fun q h1 h2 => hn_31 q (by omega))
        have hfr_35 : ∀ q, (q ≠ 141 ∧ q ≠ 143) → g_29 q = g q := fun q hq => (hn_31 q (by omega)).trans (hfr_7 q hq)
        refine w_aload_n dX11_takesItem_74 rfl 2 rfl ?_
        refine w_get (i := 1) (T := TX11) (NF := 32) 141 (by first | omega | with_reducible rfl) hm_32 rfl (fun _ h => (List.mem_cons_of_mem _ (List.mem_append_right _ h))) (by decide) (List.mem_of_getElem? (i := 3) rfl) rfl dX11_takesItem_75 ?_
        refine w_iconst dX11_takesItem_78 ?_
        refine w_dup2 dX11_takesItem_79 rfl rfl ?_
        refine w_iald 143 (by first | omega | with_reducible rfl) hrd_34 (by first | omega | with_reducible rfl) dX11_takesItem_80 ?_
        refine w_as (st' := [.int (zI ((S.length : Nat) : Int)), .int (zI 0), .ref (B + 143)]) (sc_i hEZ.1.1.1 rfl) ?_
        refine w_iload_n dX11_takesItem_81 rfl 0 rfl ?_
        refine w_if_eq 89 dX11_takesItem_82 (by decide) (by first | omega | with_reducible rfl) (fun c_82 => ?_) (fun c_82 => ?_)
        · refine w_iconst dX11_takesItem_89 ?_
          refine w_iadd dX11_takesItem_90 ?_
          refine w_iast 143 (by first | omega | with_reducible rfl) hrd_34 (by first | omega | with_reducible rfl) dX11_takesItem_91 (fun g_36 he_37 hn_38 => ?_)
          have hm_39 : vM cy B g_36 141 cg ((n : Nat) : Int) ((p + 1) + 1) va o0 tn aw mw fw ls gs sn sw kr := vM_fr hm_32 (fun q h1 h2 => hn_38 q (by omega))
          have htx_40 : vIA cy B g_36 145 200 Lm := vIA_fr htx_33 (fun q h1 h2 => hn_38 q (by omega))
          have hrd_41 : vIA cy B g_36 143 49 (uZ Rd 0 (((S.length : Nat) : Int) + 0)) := he_37
          have hfr_42 : ∀ q, (q ≠ 141 ∧ q ≠ 143) → g_36 q = g q := fun q hq => (hn_38 q (by omega)).trans (hfr_35 q hq)
          refine w_iload_n dX11_takesItem_92 rfl 0 rfl ?_
          exact w_zret dX11_takesItem_93 rfl rfl (by first | with_reducible rfl | omega | (split <;> omega)) ⟨((p + 1) + 1), va, (uZ Rd 0 (((S.length : Nat) : Int) + 0)), hm_39, hrd_41, (by rw [uZ_same]; omega), hfr_42⟩
        · refine w_iconst dX11_takesItem_85 ?_
          refine w_goto 90 dX11_takesItem_86 (by decide) ?_
          refine w_iadd dX11_takesItem_90 ?_
          refine w_iast 143 (by first | omega | with_reducible rfl) hrd_34 (by first | omega | with_reducible rfl) dX11_takesItem_91 (fun g_43 he_44 hn_45 => ?_)
          have hm_46 : vM cy B g_43 141 cg ((n : Nat) : Int) ((p + 1) + 1) va o0 tn aw mw fw ls gs sn sw kr := vM_fr hm_32 (fun q h1 h2 => hn_45 q (by omega))
          have htx_47 : vIA cy B g_43 145 200 Lm := vIA_fr htx_33 (fun q h1 h2 => hn_45 q (by omega))
          have hrd_48 : vIA cy B g_43 143 49 (uZ Rd 0 (((S.length : Nat) : Int) + 1)) := he_44
          have hfr_49 : ∀ q, (q ≠ 141 ∧ q ≠ 143) → g_43 q = g q := fun q hq => (hn_45 q (by omega)).trans (hfr_35 q hq)
          refine w_iload_n dX11_takesItem_92 rfl 0 rfl ?_
          exact w_zret dX11_takesItem_93 rfl rfl (by first | with_reducible rfl | omega | (split <;> omega)) ⟨((p + 1) + 1), va, (uZ Rd 0 (((S.length : Nat) : Int) + 1)), hm_46, hrd_48, (by rw [uZ_same]; omega), hfr_49⟩
      · refine w_aload_n dX11_takesItem_47 rfl 1 rfl ?_
        refine w_bipush dX11_takesItem_48 (by decide) ?_
        refine w_bipush dX11_takesItem_50 (by decide) ?_
        refine w_calli (As := [.int (zI 59), .int (zI 59)]) (rest := []) (n := 2) (c_X11_isAt hm_4 htx_5 (by first | omega | with_reducible rfl) (by first | omega | with_reducible rfl) (by first | omega | with_reducible rfl) (by first | omega | with_reducible rfl) (by first | omega | with_reducible rfl) (by first | omega | with_reducible rfl) (by first | omega | with_reducible rfl)) gX11_takesItem_X11_isAt rfl rfl rfl (by decide +kernel) ⟨Nat.le_of_ble_eq_true rfl, Nat.le_of_ble_eq_true rfl⟩ rfl (by first | omega | with_reducible rfl) hm_4 rfl (Nat.le_of_ble_eq_true rfl) ⟨Nat.zero_le _, Nat.zero_le _⟩ dX11_takesItem_52 rfl (fun g_50 hp_51 => ?_)
        subst g_50
        refine w_ifeqB 62 dX11_takesItem_55 (by decide) (fun c_55 => ?_) (fun c_55 => ?_)
        · refine w_iconst dX11_takesItem_62 ?_
          refine w_istore_n [(2, .int (zI 0)), (1, .int (zI (inA n Lm p))), (0, .ref (B + 141))] dX11_takesItem_63 rfl (by decide) rfl ?_
          refine w_aload_n dX11_takesItem_64 rfl 2 rfl ?_
          refine w_dup dX11_takesItem_65 rfl ?_
          refine w_get (i := 7) (T := TX11) (NF := 32) 141 (by first | omega | with_reducible rfl) hm_4 rfl (fun _ h => (List.mem_cons_of_mem _ (List.mem_append_right _ h))) (by decide) (List.mem_of_getElem? (i := 2) rfl) rfl dX11_takesItem_66 ?_
          refine w_iconst dX11_takesItem_69 ?_
          refine w_iadd dX11_takesItem_70 ?_
          refine w_put (i := 7) (T := TX11) (NF := 32) 141 (by first | omega | with_reducible rfl) hm_4 rfl (fun _ h => (List.mem_cons_of_mem _ (List.mem_append_right _ h))) tyX11 tyX11_ok nmX11 (by decide) (List.mem_of_getElem? (i := 2) rfl) rfl rfl rfl (Nat.le_of_ble_eq_true rfl) dX11_takesItem_71 (fun g_52 he_53 hn_54 => ?_)
          have hm_55 : vM cy B g_52 141 cg ((n : Nat) : Int) ((p + 1) + 1) va o0 tn aw mw fw ls gs sn sw kr := he_53
          have htx_56 : vIA cy B g_52 145 200 Lm := vIA_fr htx_5 (fun q h1 h2 => hn_54 q (by omega))
          have hrd_57 : vIA cy B g_52 143 49 Rd := vIA_fr hrd_6 (fun q h1 h2 => hn_54 q (by omega))
          have hfr_58 : ∀ q, (q ≠ 141 ∧ q ≠ 143) → g_52 q = g q := fun q hq => (hn_54 q (by omega)).trans (hfr_7 q hq)
          refine w_aload_n dX11_takesItem_74 rfl 2 rfl ?_
          refine w_get (i := 1) (T := TX11) (NF := 32) 141 (by first | omega | with_reducible rfl) hm_55 rfl (fun _ h => (List.mem_cons_of_mem _ (List.mem_append_right _ h))) (by decide) (List.mem_of_getElem? (i := 3) rfl) rfl dX11_takesItem_75 ?_
          refine w_iconst dX11_takesItem_78 ?_
          refine w_dup2 dX11_takesItem_79 rfl rfl ?_
          refine w_iald 143 (by first | omega | with_reducible rfl) hrd_57 (by first | omega | with_reducible rfl) dX11_takesItem_80 ?_
          refine w_as (st' := [.int (zI ((S.length : Nat) : Int)), .int (zI 0), .ref (B + 143)]) (sc_i hEZ.1.1.1 rfl) ?_
          refine w_iload_n dX11_takesItem_81 rfl 0 rfl ?_
          refine w_if_eq 89 dX11_takesItem_82 (by decide) (by first | omega | with_reducible rfl) (fun c_82 => ?_) (fun c_82 => ?_)
          · refine w_iconst dX11_takesItem_89 ?_
            refine w_iadd dX11_takesItem_90 ?_
            refine w_iast 143 (by first | omega | with_reducible rfl) hrd_57 (by first | omega | with_reducible rfl) dX11_takesItem_91 (fun g_59 he_60 hn_61 => ?_)
            have hm_62 : vM cy B g_59 141 cg ((n : Nat) : Int) ((p + 1) + 1) va o0 tn aw mw fw ls gs sn sw kr := vM_fr hm_55 (fun q h1 h2 => hn_61 q (by omega))
            have htx_63 : vIA cy B g_59 145 200 Lm := vIA_fr htx_56 (fun q h1 h2 => hn_61 q (by omega))
            have hrd_64 : vIA cy B g_59 143 49 (uZ Rd 0 (((S.length : Nat) : Int) + 0)) := he_60
            have hfr_65 : ∀ q, (q ≠ 141 ∧ q ≠ 143) → g_59 q = g q := fun q hq => (hn_61 q (by omega)).trans (hfr_58 q hq)
            refine w_iload_n dX11_takesItem_92 rfl 0 rfl ?_
            exact w_zret dX11_takesItem_93 rfl rfl (by first | with_reducible rfl | omega | (split <;> omega)) ⟨((p + 1) + 1), va, (uZ Rd 0 (((S.length : Nat) : Int) + 0)), hm_62, hrd_64, (by rw [uZ_same]; omega), hfr_65⟩
          · refine w_iconst dX11_takesItem_85 ?_
            refine w_goto 90 dX11_takesItem_86 (by decide) ?_
            refine w_iadd dX11_takesItem_90 ?_
            refine w_iast 143 (by first | omega | with_reducible rfl) hrd_57 (by first | omega | with_reducible rfl) dX11_takesItem_91 (fun g_66 he_67 hn_68 => ?_)
            have hm_69 : vM cy B g_66 141 cg ((n : Nat) : Int) ((p + 1) + 1) va o0 tn aw mw fw ls gs sn sw kr := vM_fr hm_55 (fun q h1 h2 => hn_68 q (by omega))
            have htx_70 : vIA cy B g_66 145 200 Lm := vIA_fr htx_56 (fun q h1 h2 => hn_68 q (by omega))
            have hrd_71 : vIA cy B g_66 143 49 (uZ Rd 0 (((S.length : Nat) : Int) + 1)) := he_67
            have hfr_72 : ∀ q, (q ≠ 141 ∧ q ≠ 143) → g_66 q = g q := fun q hq => (hn_68 q (by omega)).trans (hfr_58 q hq)
            refine w_iload_n dX11_takesItem_92 rfl 0 rfl ?_
            exact w_zret dX11_takesItem_93 rfl rfl (by first | with_reducible rfl | omega | (split <;> omega)) ⟨((p + 1) + 1), va, (uZ Rd 0 (((S.length : Nat) : Int) + 1)), hm_69, hrd_71, (by rw [uZ_same]; omega), hfr_72⟩
        · exact absurd ⟨by omega, by omega, by omega⟩ hno.2
  · exfalso; omega

theorem c_X11_takesItem {l : Launch} {D : va_G} {cy : Nat → ClassId} {B N : Nat} {g : Nat → va_E} {cg va o0 tn aw mw fw ls gs sn sw kr : Int} {n : Nat} {p : Int} {Lm : Int → Int} {Rd : Int → Int} {S : St} (hm : vM cy B g 141 cg ((n : Nat) : Int) p va o0 tn aw mw fw ls gs sn sw kr) (htx : vIA cy B g 145 200 Lm) (hrd : vIA cy B g 143 49 Rd) (hN : 160 ≤ N) (hn : n ≤ 200) (hL : ∀ i : Int, 0 ≤ i → i < n → 0 < Lm i ∧ Lm i < 65536) (hp : 0 ≤ p ∧ p < n) (hEZ : ERZ Rd S) : CTi l yX11_takesItem wsX11_takesItem (rmo 4 91) D cy B N g [.ref (B + 141)] (if (psI n Lm p S).isSome = true then 1 else 0) (fun g' => ∃ sp1 : Int, ∃ va1 : Int, ∃ Rd1 : Int → Int, vM cy B g' 141 cg ((n : Nat) : Int) sp1 va1 o0 tn aw mw fw ls gs sn sw kr ∧ vIA cy B g' 143 49 Rd1 ∧ (∀ v, (psI n Lm p S) = some v → sp1 = v.1 ∧ ERZ Rd1 v.2) ∧ (0 ≤ Rd1 0 ∧ Rd1 0 ≤ 3) ∧ (∀ q, (q ≠ 141 ∧ q ≠ 143) → g' q = g q)) := by
  by_cases h99 : inA n Lm p = 99
  · rcases S.eq_nil_or_concat with h0 | ⟨A, x, hAx⟩
    · subst h0
      have hps : psI n Lm p [] = none := by rw [ps_c h99, if_neg (fun q => absurd q.2.1 (by decide))]
      refine CTi_mono (m_it_c0 hm htx hrd hN hn hL hp hEZ h99) (by rw [hps]; rfl) ?_
      rintro g' ⟨s1, v1, r1, h5, h6, h7, h8⟩
      exact ⟨s1, v1, r1, h5, h6, fun v hv => by rw [hps] at hv; exact absurd hv (by simp), h7, h8⟩
    · rw [List.concat_eq_append] at hAx
      subst hAx
      have hL9 : (A ++ [x]).getLastD [] = x := List.getLastD_concat ..
      have hl9 : (A ++ [x]).length = A.length + 1 := by rw [List.length_append]; rfl
      by_cases hv : vcol n Lm p ∧ x.length < 5
      · have hps : psI n Lm p (A ++ [x]) = some (i7 n Lm p, addc (A ++ [x]) (iT n Lm p, iX n Lm p, iV n Lm p)) := by rw [ps_c h99, if_pos ⟨hv.1, by omega, by rw [hL9]; exact hv.2⟩]
        refine CTi_mono (m_it_cy hm htx hrd hN hn hL hp hEZ hv.2 hv.1) (by rw [hps]; rfl) ?_
        rintro g' ⟨s1, v1, r1, h5, h6, h7, h8, h9, h10⟩
        refine ⟨s1, v1, r1, h5, h6, fun v hv9 => ?_, h9, h10⟩
        rw [hps] at hv9
        have hv8 := Option.some.inj hv9
        subst hv8
        refine ⟨h7, ?_⟩
        show ERZ r1 (addc (A ++ [x]) _)
        rw [addc_eq]
        exact h8
      · have hps : psI n Lm p (A ++ [x]) = none := by rw [ps_c h99, if_neg (fun q => hv ⟨q.1, by have := q.2.2; rw [hL9] at this; exact this⟩)]
        refine CTi_mono (m_it_c1 hm htx hrd hN hn hL hp hEZ h99 hv) (by rw [hps]; rfl) ?_
        rintro g' ⟨s1, v1, r1, h5, h6, h7, h8⟩
        exact ⟨s1, v1, r1, h5, h6, fun v hv => by rw [hps] at hv; exact absurd hv (by simp), h7, h8⟩
  · by_cases hs : inA n Lm p = 115 ∧ inA n Lm (p + 1) = 59 ∧ S.length < 3
    · have hps : psI n Lm p S = some (p + 2, S ++ [[]]) := by rw [ps_s hs.1, if_pos hs.2]
      refine CTi_mono (m_it_sy hm htx hrd hN hn hL hp hEZ hs.1 hs.2.1 hs.2.2) (by rw [hps]; rfl) ?_
      rintro g' ⟨s1, v1, r1, h5, h6, h7, h8, h9, h10⟩
      refine ⟨s1, v1, r1, h5, h6, fun v hv9 => ?_, h9, h10⟩
      rw [hps] at hv9
      have hv8 := Option.some.inj hv9
      subst hv8
      exact ⟨h7, h8⟩
    · have hps : psI n Lm p S = none := by
        by_cases h115 : inA n Lm p = 115
        · rw [ps_s h115, if_neg (fun q => hs ⟨h115, q⟩)]
        · exact ps_o h115 h99
      refine CTi_mono (m_it_n hm htx hrd hN hn hL hp hEZ ⟨h99, hs⟩) (by rw [hps]; rfl) ?_
      rintro g' ⟨s1, v1, r1, h5, h6, h7, h8⟩
      exact ⟨s1, v1, r1, h5, h6, fun v hv => by rw [hps] at hv; exact absurd hv (by simp), h7, h8⟩

set_option maxHeartbeats 4000000 in
set_option maxRecDepth 100000 in
theorem c_X11_reads {l : Launch} {D : va_G} {cy : Nat → ClassId} {B N : Nat} {g : Nat → va_E} {cg sp va o0 tn aw mw fw ls gs sn sw kr : Int} {n : Nat} {Lm : Int → Int} {Rd : Int → Int} (hm : vM cy B g 141 cg ((n : Nat) : Int) sp va o0 tn aw mw fw ls gs sn sw kr) (htx : vIA cy B g 145 200 Lm) (hrd : vIA cy B g 143 49 Rd) (hN : 160 ≤ N) (hn : n ≤ 200) (hL : ∀ i : Int, 0 ≤ i → i < n → 0 < Lm i ∧ Lm i < 65536) : CTi l yX11_reads wsX11_reads (rmo 5 113) D cy B N g [.ref (B + 141)] (if (psF n Lm 200 0 []).1 < 0 then -4 else (psF n Lm 200 0 []).1) (fun g' => ∃ sp1 : Int, ∃ va1 : Int, ∃ Rd1 : Int → Int, vM cy B g' 141 cg ((n : Nat) : Int) sp1 va1 o0 tn aw mw fw ls gs sn sw kr ∧ vIA cy B g' 143 49 Rd1 ∧ ((psF n Lm 200 0 []).1 = -1 → ER Rd1 (psF n Lm 200 0 []).2) ∧ (0 ≤ Rd1 0 ∧ Rd1 0 ≤ 3) ∧ (∀ q, (q ≠ 141 ∧ q ≠ 143) → g' q = g q)) := by
  refine WW_of (cc := cX11_reads) (maxL := 2) (ret := (some .int)) (own := RX11) (by decide) rfl rfl (Nat.le_of_ble_eq_true rfl) rfl ?_
  intro pp ee ss mm bl me co hmn
  have hfr_0 : ∀ q, (q ≠ 141 ∧ q ≠ 143) → g q = g q := fun _ _ => rfl
  refine w_aload_n dX11_reads_0 rfl 0 rfl ?_
  refine w_callv (As := []) (rest := []) (n := 0) (c_X11_begins hm hrd (by first | omega | with_reducible rfl)) gX11_reads_X11_begins rfl rfl rfl (by decide +kernel) ⟨Nat.le_of_ble_eq_true rfl, Nat.le_of_ble_eq_true rfl⟩ rfl (by first | omega | with_reducible rfl) hm rfl (Nat.le_of_ble_eq_true rfl) ⟨Nat.zero_le _, Nat.zero_le _⟩ dX11_reads_1 rfl (fun g_1 hp_2 => ?_)
  obtain ⟨Rd1_3, hrd_4, hz_1, hf_5⟩ := hp_2
  have hm_6 : vM cy B g_1 141 cg ((n : Nat) : Int) sp va o0 tn aw mw fw ls gs sn sw kr := vM_fr hm (fun q h1 h2 => hf_5 q (by omega))
  have htx_7 : vIA cy B g_1 145 200 Lm := vIA_fr htx (fun q h1 h2 => hf_5 q (by omega))
  have hfr_8 : ∀ q, (q ≠ 141 ∧ q ≠ 143) → g_1 q = g q := fun q hq => (hf_5 q (by omega)).trans (hfr_0 q hq)
  refine w_aload_n dX11_reads_4 rfl 0 rfl ?_
  refine w_iconst dX11_reads_5 ?_
  refine w_put (i := 7) (T := TX11) (NF := 32) 141 (by first | omega | with_reducible rfl) hm_6 rfl (fun _ h => (List.mem_cons_of_mem _ (List.mem_append_right _ h))) tyX11 tyX11_ok nmX11 (by decide) (List.mem_of_getElem? (i := 1) rfl) rfl rfl rfl (Nat.le_of_ble_eq_true rfl) dX11_reads_6 (fun g_9 he_10 hn_11 => ?_)
  have hm_12 : vM cy B g_9 141 cg ((n : Nat) : Int) 0 va o0 tn aw mw fw ls gs sn sw kr := he_10
  have htx_13 : vIA cy B g_9 145 200 Lm := vIA_fr htx_7 (fun q h1 h2 => hn_11 q (by omega))
  have hrd_14 : vIA cy B g_9 143 49 Rd1_3 := vIA_fr hrd_4 (fun q h1 h2 => hn_11 q (by omega))
  have hfr_15 : ∀ q, (q ≠ 141 ∧ q ≠ 143) → g_9 q = g q := fun q hq => (hn_11 q (by omega)).trans (hfr_8 q hq)
  refine w_sub [(0, .ref (B + 141))] [0] rfl ?_
  refine w_lv (lv' := [(0, .ref (B + 141))]) (lc_s rfl) ?_
  refine w_loop6 (fun (i : Nat) (p : Int) (S : St) (vaj : Int) (Rdj : Int → Int) (gl_16 : (Nat → va_E)) => vM cy B gl_16 141 cg ((n : Nat) : Int) p vaj o0 tn aw mw fw ls gs sn sw kr ∧ vIA cy B gl_16 145 200 Lm ∧ vIA cy B gl_16 143 49 Rdj ∧ (∀ q, (q ≠ 141 ∧ q ≠ 143) → gl_16 q = g q) ∧ (2 * ((i : Nat) : Int) ≤ p ∧ p ≤ n) ∧ S.length ≤ 3 ∧ ERZ Rdj S ∧ psF n Lm (200 - i) p S = (psF n Lm 200 0 [])) (fun (i : Nat) (p : Int) (S : St) (vaj : Int) (Rdj : Int → Int) (gl_16 : (Nat → va_E)) => (n - p).toNat) (fun (i : Nat) (p : Int) (S : St) (vaj : Int) (Rdj : Int → Int) (gl_16 : (Nat → va_E)) => gl_16) (fun (i : Nat) (p : Int) (S : St) (vaj : Int) (Rdj : Int → Int) (gl_16 : (Nat → va_E)) => [(0, .ref (B + 141))]) ?_ 0 0 ([]) va Rd1_3 g_9 ⟨hm_12, htx_13, hrd_14, hfr_15, (by first | omega | with_reducible rfl), (by decide), (ERZ_0 hz_1), rfl⟩
  rintro i p S vaj Rdj gl_16 ⟨hm_17, htx_18, hrd_19, hfr_20, hi, hS3, hEZ, hps⟩ ih_9
  refine w_aload_n dX11_reads_9 rfl 0 rfl ?_
  refine w_get (i := 7) (T := TX11) (NF := 32) 141 (by first | omega | with_reducible rfl) hm_17 rfl (fun _ h => (List.mem_cons_of_mem _ (List.mem_append_right _ h))) (by decide) (List.mem_of_getElem? (i := 1) rfl) rfl dX11_reads_10 ?_
  refine w_aload_n dX11_reads_13 rfl 0 rfl ?_
  refine w_get (i := 5) (T := TX11) (NF := 32) 141 (by first | omega | with_reducible rfl) hm_17 rfl (fun _ h => (List.mem_cons_of_mem _ (List.mem_append_right _ h))) (by decide) (List.mem_of_getElem? (i := 2) rfl) rfl dX11_reads_14 ?_
  refine w_icmp_ge 37 dX11_reads_17 (by decide) (by first | omega | with_reducible rfl) (by first | omega | with_reducible rfl) (fun c_17 => ?_) (fun c_17 => ?_)
  · have hend : psF n Lm (200 - i) p S = (-1, S) := by rw [show 200 - i = (199 - i) + 1 by omega]; exact psF_end (by omega)
    rw [hend] at hps
    refine w_bipush dX11_reads_37 (by decide) ?_
    exact w_iret dX11_reads_39 rfl (by rw [← hps]; rfl) ⟨p, vaj, Rdj, hm_17, hrd_19, (fun _ => by rw [← hps]; exact hEZ.1), (by have h7 := hEZ.1.1; omega), hfr_20⟩
  · have hpn : p < n := by omega
    refine w_aload_n dX11_reads_20 rfl 0 rfl ?_
    refine w_get (i := 7) (T := TX11) (NF := 32) 141 (by first | omega | with_reducible rfl) hm_17 rfl (fun _ h => (List.mem_cons_of_mem _ (List.mem_append_right _ h))) (by decide) (List.mem_of_getElem? (i := 1) rfl) rfl dX11_reads_21 ?_
    refine w_istore_n [(1, .int (zI p)), (0, .ref (B + 141))] dX11_reads_24 rfl (by decide) rfl ?_
    refine w_aload_n dX11_reads_25 rfl 1 rfl ?_
    refine w_calli (As := []) (rest := []) (n := 0) (c_X11_takesItem hm_17 htx_18 hrd_19 (by first | omega | with_reducible rfl) (by first | omega | with_reducible rfl) hL (by first | omega | with_reducible rfl) hEZ) gX11_reads_X11_takesItem rfl rfl rfl (by decide +kernel) ⟨Nat.le_of_ble_eq_true rfl, Nat.le_of_ble_eq_true rfl⟩ rfl (by first | omega | with_reducible rfl) hm_17 rfl (Nat.le_of_ble_eq_true rfl) ⟨Nat.zero_le _, Nat.zero_le _⟩ dX11_reads_26 rfl (fun g_21 hp_22 => ?_)
    obtain ⟨sp1_23, va1_24, Rd1_25, hm_26, hrd_27, hit_26, hr0_26, hf_28⟩ := hp_22
    have htx_29 : vIA cy B g_21 145 200 Lm := vIA_fr htx_18 (fun q h1 h2 => hf_28 q (by omega))
    have hfr_30 : ∀ q, (q ≠ 141 ∧ q ≠ 143) → g_21 q = g q := fun q hq => (hf_28 q (by omega)).trans (hfr_20 q hq)
    refine w_ifneB 34 dX11_reads_29 (by decide) (fun c_29 => ?_) (fun c_29 => ?_)
    · obtain ⟨v9, hv9⟩ := Option.isSome_iff_exists.mp c_29
      obtain ⟨h91, h92⟩ := hit_26 v9 hv9
      have hrg9 := psI_rg (by omega) hv9 hS3
      have hps9 : psF n Lm (200 - (i + 1)) v9.1 v9.2 = (psF n Lm 200 0 []) := by rw [← hps, show 200 - i = (199 - i) + 1 by omega, psF_go hpn hv9, show 200 - (i + 1) = 199 - i by omega]
      refine w_goto 9 dX11_reads_34 (by decide) ?_
      refine w_sub [(0, .ref (B + 141))] [1] rfl ?_
      refine w_lv (lv' := [(0, .ref (B + 141))]) (lc_s rfl) ?_
      exact ih_9 (i + 1) sp1_23 (v9.2) va1_24 Rd1_25 g_21 ⟨hm_26, htx_29, hrd_27, hfr_30, (by omega), hrg9.2.2, h92, (by rw [h91]; exact hps9)⟩ (by first | omega | with_reducible rfl)
    · have hn9 : psI n Lm p S = none := by cases hq : psI n Lm p S with | none => rfl | some q => exact absurd (by rw [hq]; rfl) c_29
      have hfe : (psF n Lm 200 0 []) = (p, S) := by rw [← hps, show 200 - i = (199 - i) + 1 by omega, psF_no hpn hn9]
      refine w_iload_n dX11_reads_32 rfl 0 rfl ?_
      exact w_iret dX11_reads_33 rfl (by rw [hfe]; exact (if_neg (by show ¬ p < 0; omega)).symm) ⟨sp1_23, va1_24, Rd1_25, hm_26, hrd_27, (fun q => by rw [hfe] at q; exact absurd (show p = -1 from q) (by omega)), hr0_26, hfr_30⟩

