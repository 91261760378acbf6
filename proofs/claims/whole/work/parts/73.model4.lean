/-! ===== the model: what is told ===== -/
theorem inA_lt {n : Nat} {L : Int → Int} {p : Int} (h0 : 0 ≤ p) : (p < n → inA n L p = L p) ∧ (¬ p < n → inA n L p = 0) := ⟨fun h => inA_in ⟨h0, h⟩, fun h => inA_out (fun q => h q.2)⟩
abbrev nok (n : Nat) (L : Int → Int) (p lo hi sg : Int) : Prop := 0 ≤ figA n L p ∧ (lo ≤ numV n L p ∧ numV n L p ≤ hi) ∧ inA n L (numP n L p) = sg
theorem figA_y {n : Nat} {L : Int → Int} {p : Int} (h : 48 ≤ inA n L p ∧ inA n L p ≤ 57) : figA n L p = inA n L p - 48 := if_pos h
theorem figA_n {n : Nat} {L : Int → Int} {p : Int} (h : ¬ (48 ≤ inA n L p ∧ inA n L p ≤ 57)) : figA n L p = -1 := if_neg h
theorem num_0 {n : Nat} {L : Int → Int} {p : Int} (h : figA n L p = -1) : numP n L p = p := by unfold numP; rw [if_pos (by omega)]
theorem num_1 {n : Nat} {L : Int → Int} {p : Int} (h : 0 ≤ figA n L p) (h2 : figA n L (p + 1) = -1) : numP n L p = p + 1 ∧ numV n L p = figA n L p := ⟨by unfold numP; rw [if_neg (by omega), if_pos (by omega)], by unfold numV; rw [if_neg (by omega), if_pos (by omega)]⟩
theorem num_2 {n : Nat} {L : Int → Int} {p : Int} (h : 0 ≤ figA n L p) (h2 : 0 ≤ figA n L (p + 1)) : numP n L p = p + 1 + 1 ∧ numV n L p = figA n L p * 10 + figA n L (p + 1) := ⟨by unfold numP; rw [if_neg (by omega), if_neg (by omega)], by unfold numV; rw [if_neg (by omega), if_neg (by omega)]⟩
theorem ps_c {n : Nat} {L : Int → Int} {p : Int} {S : St} (h : inA n L p = 99) : psI n L p S = (if vcol n L p ∧ 0 < S.length ∧ (S.getLastD []).length < 5 then some (i7 n L p, addc S (iT n L p, iX n L p, iV n L p)) else none) := by
  unfold psI
  rw [if_neg (by omega)]
theorem ps_s {n : Nat} {L : Int → Int} {p : Int} {S : St} (h : inA n L p = 115) : psI n L p S = (if inA n L (p + 1) = 59 ∧ S.length < 3 then some (p + 2, S ++ [[]]) else none) := by
  unfold psI
  rw [if_pos h]
theorem ps_o {n : Nat} {L : Int → Int} {p : Int} {S : St} (h : inA n L p ≠ 115) (h2 : inA n L p ≠ 99) : psI n L p S = none := by
  unfold psI
  rw [if_neg h, if_neg (fun q => h2 q.1.1.1)]
/-- the places in an item of a column -/
theorem i_pl {n : Nat} {L : Int → Int} {p : Int} : (inA n L (i2 n L p) = 44 → i3 n L p = i2 n L p + 1) ∧ (inA n L (i4 n L p) = 44 → i5 n L p = i4 n L p + 1) ∧ (inA n L (i6 n L p) = 59 → i7 n L p = i6 n L p + 1) := by
  unfold i3 i5 i7 skp
  exact ⟨fun h => if_pos h, fun h => if_pos h, fun h => if_pos h⟩
theorem numV_f {n : Nat} {L : Int → Int} {p : Int} : 0 ≤ numV n L p ↔ 0 ≤ figA n L p := by
  have h1 := figA_rg n L p
  have h2 := figA_rg n L (p + 1)
  unfold numV
  by_cases a : figA n L p < 0
  · rw [if_pos a]
    omega
  · rw [if_neg a]
    by_cases b : figA n L (p + 1) < 0
    · rw [if_pos b]
    · rw [if_neg b]
      omega
/-- the last stratum -/
theorem ER_last {f : Int → Int} {S : St} (h : ER f S) (h0 : 0 < S.length) : ∃ A x, S = A ++ [x] ∧ S.length = A.length + 1 ∧ S.getLastD [] = x ∧ MC f A.length x := by
  rcases S.eq_nil_or_concat with q | ⟨A, x, e⟩
  · rw [q] at h0
    exact absurd h0 (by decide)
  · rw [List.concat_eq_append] at e
    have hl : S.length = A.length + 1 := by rw [e, List.length_append]; rfl
    refine ⟨A, x, e, hl, by rw [e]; exact List.getLastD_concat .., ?_⟩
    have h1 := h.2 A.length (by omega)
    have h2 : S.getD A.length [] = x := by rw [e]; exact gD_e
    rw [h2] at h1
    exact h1
theorem ER_nil {f : Int → Int} (h : f 0 = 0) : ER f [] := ⟨⟨h, by decide⟩, fun k hk => absurd hk (Nat.not_lt_zero _)⟩
/-- rows of numbers read so far: nothing behind the strata told -/
def Z4 (f : Int → Int) (S : St) : Prop := ∀ y : Int, 1 + ((S.length : Nat) : Int) ≤ y → y < 4 → f y = 0
set_option maxHeartbeats 4000000 in
set_option maxRecDepth 100000 in
theorem c_X11_isAt {l : Launch} {D : va_G} {cy : Nat → ClassId} {B N : Nat} {g : Nat → va_E} {cg sp va o0 tn aw mw fw ls gs sn sw kr : Int} {n : Nat} {Lm : Int → Int} {lo hi : Int} (hm : vM cy B g 141 cg ((n : Nat) : Int) sp va o0 tn aw mw fw ls gs sn sw kr) (htx : vIA cy B g 145 200 Lm) (hN : 160 ≤ N) (hn : n ≤ 200) (hL : ∀ i : Int, 0 ≤ i → i < n → 0 < Lm i ∧ Lm i < 65536) (hsp : 0 ≤ sp ∧ sp ≤ 1000) (h_lo : -2147483648 ≤ lo ∧ lo < 2147483648) (h_hi : -2147483648 ≤ hi ∧ hi < 2147483648) (hlo : 1 ≤ lo) : CTi l yX11_isAt wsX11_isAt (rmo 1 22) D cy B N g [.ref (B + 141), .int (zI lo), .int (zI hi)] (if lo ≤ inA n Lm sp ∧ inA n Lm sp ≤ hi then 1 else 0) (fun g' => g' = g) := by
  refine WW_of (cc := cX11_isAt) (maxL := 3) (ret := (some .boolean)) (own := RX11) (by decide) rfl rfl (Nat.le_of_ble_eq_true rfl) rfl ?_
  intro pp ee ss mm bl me co hmn
  have hil := inA_lt (n := n) (L := Lm) hsp.1
  refine w_aload_n dX11_isAt_0 rfl 0 rfl ?_
  refine w_get (i := 7) (T := TX11) (NF := 32) 141 (by first | omega | with_reducible rfl) hm rfl (fun _ h => (List.mem_cons_of_mem _ (List.mem_append_right _ h))) (by decide) (List.mem_of_getElem? (i := 1) rfl) rfl dX11_isAt_1 ?_
  refine w_aload_n dX11_isAt_4 rfl 0 rfl ?_
  refine w_get (i := 5) (T := TX11) (NF := 32) 141 (by first | omega | with_reducible rfl) hm rfl (fun _ h => (List.mem_cons_of_mem _ (List.mem_append_right _ h))) (by decide) (List.mem_of_getElem? (i := 2) rfl) rfl dX11_isAt_5 ?_
  refine w_icmp_ge 32 dX11_isAt_8 (by decide) (by first | omega | with_reducible rfl) (by first | omega | with_reducible rfl) (fun c_8 => ?_) (fun c_8 => ?_)
  · have hi9 := hil.2 (by omega)
    refine w_iconst dX11_isAt_32 ?_
    exact w_zret dX11_isAt_33 rfl rfl (by first | rw [if_pos (by omega)] | rw [if_neg (by omega)]) rfl
  · have hi9 := hil.1 (by omega)
    have hL9 := hL sp hsp.1 (by omega)
    refine w_aload_n dX11_isAt_11 rfl 0 rfl ?_
    refine w_get (i := 4) (T := TX11) (NF := 32) 141 (by first | omega | with_reducible rfl) hm rfl (fun _ h => (List.mem_cons_of_mem _ (List.mem_append_right _ h))) (by decide) (List.mem_of_getElem? (i := 3) rfl) rfl dX11_isAt_12 ?_
    refine w_aload_n dX11_isAt_15 rfl 0 rfl ?_
    refine w_get (i := 7) (T := TX11) (NF := 32) 141 (by first | omega | with_reducible rfl) hm rfl (fun _ h => (List.mem_cons_of_mem _ (List.mem_append_right _ h))) (by decide) (List.mem_of_getElem? (i := 1) rfl) rfl dX11_isAt_16 ?_
    refine w_iald 145 (by first | omega | with_reducible rfl) htx (by first | omega | with_reducible rfl) dX11_isAt_19 ?_
    refine w_iload_n dX11_isAt_20 rfl 1 rfl ?_
    refine w_iload_n dX11_isAt_21 rfl 2 rfl ?_
    refine w_calliS (As := [.int (zI (Lm sp)), .int (zI lo), .int (zI hi)]) (rest := []) (n := 3) (c_X11_in (by first | omega | with_reducible rfl) (by first | omega | with_reducible rfl) (by first | omega | with_reducible rfl)) gX11_isAt_X11_in rfl rfl rfl (by decide +kernel) ⟨Nat.le_of_ble_eq_true rfl, Nat.le_of_ble_eq_true rfl⟩ rfl (Nat.le_of_ble_eq_true rfl) ⟨Nat.zero_le _, Nat.zero_le _⟩ dX11_isAt_22 rfl (fun g_1 hp_2 => ?_)
    subst g_1
    refine w_ifeqB 32 dX11_isAt_25 (by decide) (fun c_25 => ?_) (fun c_25 => ?_)
    · refine w_iconst dX11_isAt_32 ?_
      exact w_zret dX11_isAt_33 rfl rfl (by first | rw [if_pos (by omega)] | rw [if_neg (by omega)]) rfl
    · refine w_iconst dX11_isAt_28 ?_
      refine w_goto 33 dX11_isAt_29 (by decide) ?_
      exact w_zret dX11_isAt_33 rfl rfl (by first | rw [if_pos (by omega)] | rw [if_neg (by omega)]) rfl

set_option maxHeartbeats 4000000 in
set_option maxRecDepth 100000 in
theorem c_X11_takesNumber {l : Launch} {D : va_G} {cy : Nat → ClassId} {B N : Nat} {g : Nat → va_E} {cg sp va o0 tn aw mw fw ls gs sn sw kr : Int} {n : Nat} {Lm : Int → Int} {lo hi sg : Int} (hm : vM cy B g 141 cg ((n : Nat) : Int) sp va o0 tn aw mw fw ls gs sn sw kr) (htx : vIA cy B g 145 200 Lm) (hN : 160 ≤ N) (hn : n ≤ 200) (hL : ∀ i : Int, 0 ≤ i → i < n → 0 < Lm i ∧ Lm i < 65536) (hsp : 0 ≤ sp ∧ sp ≤ 900) (h_lo : -2147483648 ≤ lo ∧ lo < 2147483648) (h_hi : -2147483648 ≤ hi ∧ hi < 2147483648) (hsg : 1 ≤ sg ∧ sg < 65536) : CTi l yX11_takesNumber wsX11_takesNumber (rmo 2 44) D cy B N g [.ref (B + 141), .int (zI lo), .int (zI hi), .int (zI sg)] (if nok n Lm sp lo hi sg then 1 else 0) (fun g' => vM cy B g' 141 cg ((n : Nat) : Int) (numP n Lm sp + 1) (if figA n Lm sp < 0 then 0 else numV n Lm sp) o0 tn aw mw fw ls gs sn sw kr ∧ (∀ q, q ≠ 141 → g' q = g q)) := by
  refine WW_of (cc := cX11_takesNumber) (maxL := 6) (ret := (some .boolean)) (own := RX11) (by decide) rfl rfl (Nat.le_of_ble_eq_true rfl) rfl ?_
  intro pp ee ss mm bl me co hmn
  have hfr_0 : ∀ q, q ≠ 141 → g q = g q := fun _ _ => rfl
  have hfg := figA_rg n Lm sp
  have hfg1 := figA_rg n Lm (sp + 1)
  have hil := inA_lt (n := n) (L := Lm) hsp.1
  have hil1 := inA_lt (n := n) (L := Lm) (p := sp + 1) (by omega)
  refine w_aload_n dX11_takesNumber_0 rfl 0 rfl ?_
  refine w_get (i := 7) (T := TX11) (NF := 32) 141 (by first | omega | with_reducible rfl) hm rfl (fun _ h => (List.mem_cons_of_mem _ (List.mem_append_right _ h))) (by decide) (List.mem_of_getElem? (i := 1) rfl) rfl dX11_takesNumber_1 ?_
  refine w_istore [(4, .int (zI sp)), (0, .ref (B + 141)), (1, .int (zI lo)), (2, .int (zI hi)), (3, .int (zI sg))] dX11_takesNumber_4 (by decide) rfl ?_
  refine w_aload_n dX11_takesNumber_6 rfl 1 rfl ?_
  refine w_iconst dX11_takesNumber_7 ?_
  refine w_put (i := 8) (T := TX11) (NF := 32) 141 (by first | omega | with_reducible rfl) hm rfl (fun _ h => (List.mem_cons_of_mem _ (List.mem_append_right _ h))) tyX11 tyX11_ok nmX11 (by decide) (List.mem_of_getElem? (i := 2) rfl) rfl rfl rfl (Nat.le_of_ble_eq_true rfl) dX11_takesNumber_8 (fun g_1 he_2 hn_3 => ?_)
  have hm_4 : vM cy B g_1 141 cg ((n : Nat) : Int) sp 0 o0 tn aw mw fw ls gs sn sw kr := he_2
  have htx_5 : vIA cy B g_1 145 200 Lm := vIA_fr htx (fun q h1 h2 => hn_3 q (by omega))
  have hfr_6 : ∀ q, q ≠ 141 → g_1 q = g q := fun q hq => (hn_3 q (by omega)).trans (hfr_0 q hq)
  refine w_aload_n dX11_takesNumber_11 rfl 1 rfl ?_
  refine w_get (i := 7) (T := TX11) (NF := 32) 141 (by first | omega | with_reducible rfl) hm_4 rfl (fun _ h => (List.mem_cons_of_mem _ (List.mem_append_right _ h))) (by decide) (List.mem_of_getElem? (i := 1) rfl) rfl dX11_takesNumber_12 ?_
  refine w_iload dX11_takesNumber_15 0 rfl ?_
  refine w_iconst dX11_takesNumber_17 ?_
  refine w_iadd dX11_takesNumber_18 ?_
  refine w_icmp_ge 70 dX11_takesNumber_19 (by decide) (by first | omega | with_reducible rfl) (by first | omega | with_reducible rfl) (fun c_19 => ?_) (fun c_19 => ?_)
  · exfalso; omega
  · refine w_aload_n dX11_takesNumber_22 rfl 1 rfl ?_
    refine w_bipush dX11_takesNumber_23 (by decide) ?_
    refine w_bipush dX11_takesNumber_25 (by decide) ?_
    refine w_calli (As := [.int (zI 48), .int (zI 57)]) (rest := []) (n := 2) (c_X11_isAt hm_4 htx_5 (by first | omega | with_reducible rfl) (by first | omega | with_reducible rfl) (by first | omega | with_reducible rfl) (by first | omega | with_reducible rfl) (by first | omega | with_reducible rfl) (by first | omega | with_reducible rfl) (by first | omega | with_reducible rfl)) gX11_takesNumber_X11_isAt rfl rfl rfl (by decide +kernel) ⟨Nat.le_of_ble_eq_true rfl, Nat.le_of_ble_eq_true rfl⟩ rfl (by first | omega | with_reducible rfl) hm_4 rfl (Nat.le_of_ble_eq_true rfl) ⟨Nat.zero_le _, Nat.zero_le _⟩ dX11_takesNumber_27 rfl (fun g_7 hp_8 => ?_)
    subst g_7
    refine w_ifeqB 70 dX11_takesNumber_30 (by decide) (fun c_30 => ?_) (fun c_30 => ?_)
    · have hfn := figA_n c_30
      have hnp := num_0 (n := n) (L := Lm) (p := sp) (by omega)
      have hat := congrArg (inA n Lm) hnp
      refine w_aload_n dX11_takesNumber_70 rfl 1 rfl ?_
      refine w_get (i := 7) (T := TX11) (NF := 32) 141 (by first | omega | with_reducible rfl) hm_4 rfl (fun _ h => (List.mem_cons_of_mem _ (List.mem_append_right _ h))) (by decide) (List.mem_of_getElem? (i := 1) rfl) rfl dX11_takesNumber_71 ?_
      refine w_iload dX11_takesNumber_74 0 rfl ?_
      refine w_icmp_le 104 dX11_takesNumber_76 (by decide) (by first | omega | with_reducible rfl) (by first | omega | with_reducible rfl) (fun c_76 => ?_) (fun c_76 => ?_)
      · refine w_iconst dX11_takesNumber_104 ?_
        refine w_istore [(5, .int (zI 0)), (4, .int (zI sp)), (0, .ref (B + 141)), (1, .int (zI lo)), (2, .int (zI hi)), (3, .int (zI sg))] dX11_takesNumber_105 (by decide) rfl ?_
        refine w_aload_n dX11_takesNumber_107 rfl 2 rfl ?_
        refine w_dup dX11_takesNumber_108 rfl ?_
        refine w_get (i := 7) (T := TX11) (NF := 32) 141 (by first | omega | with_reducible rfl) hm_4 rfl (fun _ h => (List.mem_cons_of_mem _ (List.mem_append_right _ h))) (by decide) (List.mem_of_getElem? (i := 1) rfl) rfl dX11_takesNumber_109 ?_
        refine w_iconst dX11_takesNumber_112 ?_
        refine w_iadd dX11_takesNumber_113 ?_
        refine w_put (i := 7) (T := TX11) (NF := 32) 141 (by first | omega | with_reducible rfl) hm_4 rfl (fun _ h => (List.mem_cons_of_mem _ (List.mem_append_right _ h))) tyX11 tyX11_ok nmX11 (by decide) (List.mem_of_getElem? (i := 1) rfl) rfl rfl rfl (Nat.le_of_ble_eq_true rfl) dX11_takesNumber_114 (fun g_9 he_10 hn_11 => ?_)
        have hm_12 : vM cy B g_9 141 cg ((n : Nat) : Int) (sp + 1) 0 o0 tn aw mw fw ls gs sn sw kr := he_10
        have htx_13 : vIA cy B g_9 145 200 Lm := vIA_fr htx_5 (fun q h1 h2 => hn_11 q (by omega))
        have hfr_14 : ∀ q, q ≠ 141 → g_9 q = g q := fun q hq => (hn_11 q (by omega)).trans (hfr_6 q hq)
        refine w_iload dX11_takesNumber_117 0 rfl ?_
        exact w_zret dX11_takesNumber_119 rfl rfl (by first | (exfalso; omega) | (rw [if_pos (by omega)]; done) | (rw [if_neg (by omega)]; done)) ⟨(by have h9 := hm_12; first | (exfalso; omega) | (rw [hnp.1, if_neg (by omega), hnp.2, show figA n Lm sp = 10 * 0 + Lm sp - 48 by omega]; exact h9) | (rw [hnp.1, if_neg (by omega), hnp.2, show figA n Lm sp * 10 + figA n Lm (sp + 1) = 10 * (10 * 0 + Lm sp - 48) + Lm (sp + 1) - 48 by omega]; exact h9) | (rw [hnp, if_pos (by omega)]; exact h9)), hfr_14⟩
      · refine w_aload_n dX11_takesNumber_79 rfl 1 rfl ?_
        refine w_get (i := 8) (T := TX11) (NF := 32) 141 (by first | omega | with_reducible rfl) hm_4 rfl (fun _ h => (List.mem_cons_of_mem _ (List.mem_append_right _ h))) (by decide) (List.mem_of_getElem? (i := 2) rfl) rfl dX11_takesNumber_80 ?_
        refine w_iload_n dX11_takesNumber_83 rfl 2 rfl ?_
        refine w_iload_n dX11_takesNumber_84 rfl 3 rfl ?_
        refine w_calliS (As := [.int (zI 0), .int (zI lo), .int (zI hi)]) (rest := []) (n := 3) (c_X11_in (by first | omega | with_reducible rfl) (by first | omega | with_reducible rfl) (by first | omega | with_reducible rfl)) gX11_takesNumber_X11_in rfl rfl rfl (by decide +kernel) ⟨Nat.le_of_ble_eq_true rfl, Nat.le_of_ble_eq_true rfl⟩ rfl (Nat.le_of_ble_eq_true rfl) ⟨Nat.zero_le _, Nat.zero_le _⟩ dX11_takesNumber_85 rfl (fun g_15 hp_16 => ?_)
        subst g_15
        refine w_ifeqB 104 dX11_takesNumber_88 (by decide) (fun c_88 => ?_) (fun c_88 => ?_)
        · refine w_iconst dX11_takesNumber_104 ?_
          refine w_istore [(5, .int (zI 0)), (4, .int (zI sp)), (0, .ref (B + 141)), (1, .int (zI lo)), (2, .int (zI hi)), (3, .int (zI sg))] dX11_takesNumber_105 (by decide) rfl ?_
          refine w_aload_n dX11_takesNumber_107 rfl 2 rfl ?_
          refine w_dup dX11_takesNumber_108 rfl ?_
          refine w_get (i := 7) (T := TX11) (NF := 32) 141 (by first | omega | with_reducible rfl) hm_4 rfl (fun _ h => (List.mem_cons_of_mem _ (List.mem_append_right _ h))) (by decide) (List.mem_of_getElem? (i := 1) rfl) rfl dX11_takesNumber_109 ?_
          refine w_iconst dX11_takesNumber_112 ?_
          refine w_iadd dX11_takesNumber_113 ?_
          refine w_put (i := 7) (T := TX11) (NF := 32) 141 (by first | omega | with_reducible rfl) hm_4 rfl (fun _ h => (List.mem_cons_of_mem _ (List.mem_append_right _ h))) tyX11 tyX11_ok nmX11 (by decide) (List.mem_of_getElem? (i := 1) rfl) rfl rfl rfl (Nat.le_of_ble_eq_true rfl) dX11_takesNumber_114 (fun g_17 he_18 hn_19 => ?_)
          have hm_20 : vM cy B g_17 141 cg ((n : Nat) : Int) (sp + 1) 0 o0 tn aw mw fw ls gs sn sw kr := he_18
          have htx_21 : vIA cy B g_17 145 200 Lm := vIA_fr htx_5 (fun q h1 h2 => hn_19 q (by omega))
          have hfr_22 : ∀ q, q ≠ 141 → g_17 q = g q := fun q hq => (hn_19 q (by omega)).trans (hfr_6 q hq)
          refine w_iload dX11_takesNumber_117 0 rfl ?_
          exact w_zret dX11_takesNumber_119 rfl rfl (by first | (exfalso; omega) | (rw [if_pos (by omega)]; done) | (rw [if_neg (by omega)]; done)) ⟨(by have h9 := hm_20; first | (exfalso; omega) | (rw [hnp.1, if_neg (by omega), hnp.2, show figA n Lm sp = 10 * 0 + Lm sp - 48 by omega]; exact h9) | (rw [hnp.1, if_neg (by omega), hnp.2, show figA n Lm sp * 10 + figA n Lm (sp + 1) = 10 * (10 * 0 + Lm sp - 48) + Lm (sp + 1) - 48 by omega]; exact h9) | (rw [hnp, if_pos (by omega)]; exact h9)), hfr_22⟩
        · refine w_aload_n dX11_takesNumber_91 rfl 1 rfl ?_
          refine w_iload_n dX11_takesNumber_92 rfl 4 rfl ?_
          refine w_iload_n dX11_takesNumber_93 rfl 4 rfl ?_
          refine w_calli (As := [.int (zI sg), .int (zI sg)]) (rest := []) (n := 2) (c_X11_isAt hm_4 htx_5 (by first | omega | with_reducible rfl) (by first | omega | with_reducible rfl) (by first | omega | with_reducible rfl) (by first | omega | with_reducible rfl) (by first | omega | with_reducible rfl) (by first | omega | with_reducible rfl) (by first | omega | with_reducible rfl)) gX11_takesNumber_X11_isAt rfl rfl rfl (by decide +kernel) ⟨Nat.le_of_ble_eq_true rfl, Nat.le_of_ble_eq_true rfl⟩ rfl (by first | omega | with_reducible rfl) hm_4 rfl (Nat.le_of_ble_eq_true rfl) ⟨Nat.zero_le _, Nat.zero_le _⟩ dX11_takesNumber_94 rfl (fun g_23 hp_24 => ?_)
          subst g_23
          have hx9 := hsg
          refine w_ifeqB 104 dX11_takesNumber_97 (by decide) (fun c_97 => ?_) (fun c_97 => ?_)
          · refine w_iconst dX11_takesNumber_104 ?_
            refine w_istore [(5, .int (zI 0)), (4, .int (zI sp)), (0, .ref (B + 141)), (1, .int (zI lo)), (2, .int (zI hi)), (3, .int (zI sg))] dX11_takesNumber_105 (by decide) rfl ?_
            refine w_aload_n dX11_takesNumber_107 rfl 2 rfl ?_
            refine w_dup dX11_takesNumber_108 rfl ?_
            refine w_get (i := 7) (T := TX11) (NF := 32) 141 (by first | omega | with_reducible rfl) hm_4 rfl (fun _ h => (List.mem_cons_of_mem _ (List.mem_append_right _ h))) (by decide) (List.mem_of_getElem? (i := 1) rfl) rfl dX11_takesNumber_109 ?_
            refine w_iconst dX11_takesNumber_112 ?_
            refine w_iadd dX11_takesNumber_113 ?_
            refine w_put (i := 7) (T := TX11) (NF := 32) 141 (by first | omega | with_reducible rfl) hm_4 rfl (fun _ h => (List.mem_cons_of_mem _ (List.mem_append_right _ h))) tyX11 tyX11_ok nmX11 (by decide) (List.mem_of_getElem? (i := 1) rfl) rfl rfl rfl (Nat.le_of_ble_eq_true rfl) dX11_takesNumber_114 (fun g_25 he_26 hn_27 => ?_)
            have hm_28 : vM cy B g_25 141 cg ((n : Nat) : Int) (sp + 1) 0 o0 tn aw mw fw ls gs sn sw kr := he_26
            have htx_29 : vIA cy B g_25 145 200 Lm := vIA_fr htx_5 (fun q h1 h2 => hn_27 q (by omega))
            have hfr_30 : ∀ q, q ≠ 141 → g_25 q = g q := fun q hq => (hn_27 q (by omega)).trans (hfr_6 q hq)
            refine w_iload dX11_takesNumber_117 0 rfl ?_
            exact w_zret dX11_takesNumber_119 rfl rfl (by first | (exfalso; omega) | (rw [if_pos (by omega)]; done) | (rw [if_neg (by omega)]; done)) ⟨(by have h9 := hm_28; first | (exfalso; omega) | (rw [hnp.1, if_neg (by omega), hnp.2, show figA n Lm sp = 10 * 0 + Lm sp - 48 by omega]; exact h9) | (rw [hnp.1, if_neg (by omega), hnp.2, show figA n Lm sp * 10 + figA n Lm (sp + 1) = 10 * (10 * 0 + Lm sp - 48) + Lm (sp + 1) - 48 by omega]; exact h9) | (rw [hnp, if_pos (by omega)]; exact h9)), hfr_30⟩
          · refine w_iconst dX11_takesNumber_100 ?_
            refine w_goto 105 dX11_takesNumber_101 (by decide) ?_
            refine w_istore [(5, .int (zI 1)), (4, .int (zI sp)), (0, .ref (B + 141)), (1, .int (zI lo)), (2, .int (zI hi)), (3, .int (zI sg))] dX11_takesNumber_105 (by decide) rfl ?_
            refine w_aload_n dX11_takesNumber_107 rfl 2 rfl ?_
            refine w_dup dX11_takesNumber_108 rfl ?_
            refine w_get (i := 7) (T := TX11) (NF := 32) 141 (by first | omega | with_reducible rfl) hm_4 rfl (fun _ h => (List.mem_cons_of_mem _ (List.mem_append_right _ h))) (by decide) (List.mem_of_getElem? (i := 1) rfl) rfl dX11_takesNumber_109 ?_
            refine w_iconst dX11_takesNumber_112 ?_
            refine w_iadd dX11_takesNumber_113 ?_
            refine w_put (i := 7) (T := TX11) (NF := 32) 141 (by first | omega | with_reducible rfl) hm_4 rfl (fun _ h => (List.mem_cons_of_mem _ (List.mem_append_right _ h))) tyX11 tyX11_ok nmX11 (by decide) (List.mem_of_getElem? (i := 1) rfl) rfl rfl rfl (Nat.le_of_ble_eq_true rfl) dX11_takesNumber_114 (fun g_31 he_32 hn_33 => ?_)
            have hm_34 : vM cy B g_31 141 cg ((n : Nat) : Int) (sp + 1) 0 o0 tn aw mw fw ls gs sn sw kr := he_32
            have htx_35 : vIA cy B g_31 145 200 Lm := vIA_fr htx_5 (fun q h1 h2 => hn_33 q (by omega))
            have hfr_36 : ∀ q, q ≠ 141 → g_31 q = g q := fun q hq => (hn_33 q (by omega)).trans (hfr_6 q hq)
            refine w_iload dX11_takesNumber_117 0 rfl ?_
            exact w_zret dX11_takesNumber_119 rfl rfl (by first | (exfalso; omega) | (rw [if_pos (by omega)]; done) | (rw [if_neg (by omega)]; done)) ⟨(by have h9 := hm_34; first | (exfalso; omega) | (rw [hnp.1, if_neg (by omega), hnp.2, show figA n Lm sp = 10 * 0 + Lm sp - 48 by omega]; exact h9) | (rw [hnp.1, if_neg (by omega), hnp.2, show figA n Lm sp * 10 + figA n Lm (sp + 1) = 10 * (10 * 0 + Lm sp - 48) + Lm (sp + 1) - 48 by omega]; exact h9) | (rw [hnp, if_pos (by omega)]; exact h9)), hfr_36⟩
    · have hfy0 := figA_y c_30
      refine w_aload_n dX11_takesNumber_33 rfl 1 rfl ?_
      refine w_bipush dX11_takesNumber_34 (by decide) ?_
      refine w_aload_n dX11_takesNumber_36 rfl 1 rfl ?_
      refine w_get (i := 8) (T := TX11) (NF := 32) 141 (by first | omega | with_reducible rfl) hm_4 rfl (fun _ h => (List.mem_cons_of_mem _ (List.mem_append_right _ h))) (by decide) (List.mem_of_getElem? (i := 2) rfl) rfl dX11_takesNumber_37 ?_
      refine w_imul dX11_takesNumber_40 ?_
      refine w_aload_n dX11_takesNumber_41 rfl 1 rfl ?_
      refine w_get (i := 4) (T := TX11) (NF := 32) 141 (by first | omega | with_reducible rfl) hm_4 rfl (fun _ h => (List.mem_cons_of_mem _ (List.mem_append_right _ h))) (by decide) (List.mem_of_getElem? (i := 3) rfl) rfl dX11_takesNumber_42 ?_
      refine w_aload_n dX11_takesNumber_45 rfl 1 rfl ?_
      refine w_get (i := 7) (T := TX11) (NF := 32) 141 (by first | omega | with_reducible rfl) hm_4 rfl (fun _ h => (List.mem_cons_of_mem _ (List.mem_append_right _ h))) (by decide) (List.mem_of_getElem? (i := 1) rfl) rfl dX11_takesNumber_46 ?_
      have hpl9 := hil.1 (by first | omega | (by_cases q9 : sp < n; exact q9; have := hil.2 q9; omega))
      refine w_iald 145 (by first | omega | with_reducible rfl) htx_5 (by first | omega | with_reducible rfl) dX11_takesNumber_49 ?_
      refine w_iadd dX11_takesNumber_50 ?_
      refine w_bipush dX11_takesNumber_51 (by decide) ?_
      refine w_isub dX11_takesNumber_53 ?_
      refine w_put (i := 8) (T := TX11) (NF := 32) 141 (by first | omega | with_reducible rfl) hm_4 rfl (fun _ h => (List.mem_cons_of_mem _ (List.mem_append_right _ h))) tyX11 tyX11_ok nmX11 (by decide) (List.mem_of_getElem? (i := 2) rfl) rfl rfl rfl (Nat.le_of_ble_eq_true rfl) dX11_takesNumber_54 (fun g_37 he_38 hn_39 => ?_)
      have hm_40 : vM cy B g_37 141 cg ((n : Nat) : Int) sp (((10 * 0) + (Lm sp)) - 48) o0 tn aw mw fw ls gs sn sw kr := he_38
      have htx_41 : vIA cy B g_37 145 200 Lm := vIA_fr htx_5 (fun q h1 h2 => hn_39 q (by omega))
      have hfr_42 : ∀ q, q ≠ 141 → g_37 q = g q := fun q hq => (hn_39 q (by omega)).trans (hfr_6 q hq)
      refine w_aload_n dX11_takesNumber_57 rfl 1 rfl ?_
      refine w_dup dX11_takesNumber_58 rfl ?_
      refine w_get (i := 7) (T := TX11) (NF := 32) 141 (by first | omega | with_reducible rfl) hm_40 rfl (fun _ h => (List.mem_cons_of_mem _ (List.mem_append_right _ h))) (by decide) (List.mem_of_getElem? (i := 1) rfl) rfl dX11_takesNumber_59 ?_
      refine w_iconst dX11_takesNumber_62 ?_
      refine w_iadd dX11_takesNumber_63 ?_
      refine w_put (i := 7) (T := TX11) (NF := 32) 141 (by first | omega | with_reducible rfl) hm_40 rfl (fun _ h => (List.mem_cons_of_mem _ (List.mem_append_right _ h))) tyX11 tyX11_ok nmX11 (by decide) (List.mem_of_getElem? (i := 1) rfl) rfl rfl rfl (Nat.le_of_ble_eq_true rfl) dX11_takesNumber_64 (fun g_43 he_44 hn_45 => ?_)
      have hm_46 : vM cy B g_43 141 cg ((n : Nat) : Int) (sp + 1) (((10 * 0) + (Lm sp)) - 48) o0 tn aw mw fw ls gs sn sw kr := he_44
      have htx_47 : vIA cy B g_43 145 200 Lm := vIA_fr htx_41 (fun q h1 h2 => hn_45 q (by omega))
      have hfr_48 : ∀ q, q ≠ 141 → g_43 q = g q := fun q hq => (hn_45 q (by omega)).trans (hfr_42 q hq)
      refine w_goto 11 dX11_takesNumber_67 (by decide) ?_
      refine w_aload_n dX11_takesNumber_11 rfl 1 rfl ?_
      refine w_get (i := 7) (T := TX11) (NF := 32) 141 (by first | omega | with_reducible rfl) hm_46 rfl (fun _ h => (List.mem_cons_of_mem _ (List.mem_append_right _ h))) (by decide) (List.mem_of_getElem? (i := 1) rfl) rfl dX11_takesNumber_12 ?_
      refine w_iload dX11_takesNumber_15 0 rfl ?_
      refine w_iconst dX11_takesNumber_17 ?_
      refine w_iadd dX11_takesNumber_18 ?_
      refine w_icmp_ge 70 dX11_takesNumber_19 (by decide) (by first | omega | with_reducible rfl) (by first | omega | with_reducible rfl) (fun c_19 => ?_) (fun c_19 => ?_)
      · exfalso; omega
      · refine w_aload_n dX11_takesNumber_22 rfl 1 rfl ?_
        refine w_bipush dX11_takesNumber_23 (by decide) ?_
        refine w_bipush dX11_takesNumber_25 (by decide) ?_
        refine w_calli (As := [.int (zI 48), .int (zI 57)]) (rest := []) (n := 2) (c_X11_isAt hm_46 htx_47 (by first | omega | with_reducible rfl) (by first | omega | with_reducible rfl) (by first | omega | with_reducible rfl) (by first | omega | with_reducible rfl) (by first | omega | with_reducible rfl) (by first | omega | with_reducible rfl) (by first | omega | with_reducible rfl)) gX11_takesNumber_X11_isAt rfl rfl rfl (by decide +kernel) ⟨Nat.le_of_ble_eq_true rfl, Nat.le_of_ble_eq_true rfl⟩ rfl (by first | omega | with_reducible rfl) hm_46 rfl (Nat.le_of_ble_eq_true rfl) ⟨Nat.zero_le _, Nat.zero_le _⟩ dX11_takesNumber_27 rfl (fun g_49 hp_50 => ?_)
        subst g_49
        refine w_ifeqB 70 dX11_takesNumber_30 (by decide) (fun c_30 => ?_) (fun c_30 => ?_)
        · have hfn := figA_n c_30
          have hnp := num_1 (n := n) (L := Lm) (p := sp) (by omega) (by omega)
          have hat := congrArg (inA n Lm) hnp.1
          refine w_aload_n dX11_takesNumber_70 rfl 1 rfl ?_
          refine w_get (i := 7) (T := TX11) (NF := 32) 141 (by first | omega | with_reducible rfl) hm_46 rfl (fun _ h => (List.mem_cons_of_mem _ (List.mem_append_right _ h))) (by decide) (List.mem_of_getElem? (i := 1) rfl) rfl dX11_takesNumber_71 ?_
          refine w_iload dX11_takesNumber_74 0 rfl ?_
          refine w_icmp_le 104 dX11_takesNumber_76 (by decide) (by first | omega | with_reducible rfl) (by first | omega | with_reducible rfl) (fun c_76 => ?_) (fun c_76 => ?_)
          · refine w_iconst dX11_takesNumber_104 ?_
            refine w_istore [(5, .int (zI 0)), (4, .int (zI sp)), (0, .ref (B + 141)), (1, .int (zI lo)), (2, .int (zI hi)), (3, .int (zI sg))] dX11_takesNumber_105 (by decide) rfl ?_
            refine w_aload_n dX11_takesNumber_107 rfl 2 rfl ?_
            refine w_dup dX11_takesNumber_108 rfl ?_
            refine w_get (i := 7) (T := TX11) (NF := 32) 141 (by first | omega | with_reducible rfl) hm_46 rfl (fun _ h => (List.mem_cons_of_mem _ (List.mem_append_right _ h))) (by decide) (List.mem_of_getElem? (i := 1) rfl) rfl dX11_takesNumber_109 ?_
            refine w_iconst dX11_takesNumber_112 ?_
            refine w_iadd dX11_takesNumber_113 ?_
            refine w_put (i := 7) (T := TX11) (NF := 32) 141 (by first | omega | with_reducible rfl) hm_46 rfl (fun _ h => (List.mem_cons_of_mem _ (List.mem_append_right _ h))) tyX11 tyX11_ok nmX11 (by decide) (List.mem_of_getElem? (i := 1) rfl) rfl rfl rfl (Nat.le_of_ble_eq_true rfl) dX11_takesNumber_114 (fun g_51 he_52 hn_53 => ?_)
            have hm_54 : vM cy B g_51 141 cg ((n : Nat) : Int) ((sp + 1) + 1) (((10 * 0) + (Lm sp)) - 48) o0 tn aw mw fw ls gs sn sw kr := he_52
            have htx_55 : vIA cy B g_51 145 200 Lm := vIA_fr htx_47 (fun q h1 h2 => hn_53 q (by omega))
            have hfr_56 : ∀ q, q ≠ 141 → g_51 q = g q := fun q hq => (hn_53 q (by omega)).trans (hfr_48 q hq)
            refine w_iload dX11_takesNumber_117 0 rfl ?_
            exact w_zret dX11_takesNumber_119 rfl rfl (by first | (exfalso; omega) | (rw [if_pos (by omega)]; done) | (rw [if_neg (by omega)]; done)) ⟨(by have h9 := hm_54; first | (exfalso; omega) | (rw [hnp.1, if_neg (by omega), hnp.2, show figA n Lm sp = 10 * 0 + Lm sp - 48 by omega]; exact h9) | (rw [hnp.1, if_neg (by omega), hnp.2, show figA n Lm sp * 10 + figA n Lm (sp + 1) = 10 * (10 * 0 + Lm sp - 48) + Lm (sp + 1) - 48 by omega]; exact h9) | (rw [hnp, if_pos (by omega)]; exact h9)), hfr_56⟩
          · refine w_aload_n dX11_takesNumber_79 rfl 1 rfl ?_
            refine w_get (i := 8) (T := TX11) (NF := 32) 141 (by first | omega | with_reducible rfl) hm_46 rfl (fun _ h => (List.mem_cons_of_mem _ (List.mem_append_right _ h))) (by decide) (List.mem_of_getElem? (i := 2) rfl) rfl dX11_takesNumber_80 ?_
            refine w_iload_n dX11_takesNumber_83 rfl 2 rfl ?_
            refine w_iload_n dX11_takesNumber_84 rfl 3 rfl ?_
            refine w_calliS (As := [.int (zI (((10 * 0) + (Lm sp)) - 48)), .int (zI lo), .int (zI hi)]) (rest := []) (n := 3) (c_X11_in (by first | omega | with_reducible rfl) (by first | omega | with_reducible rfl) (by first | omega | with_reducible rfl)) gX11_takesNumber_X11_in rfl rfl rfl (by decide +kernel) ⟨Nat.le_of_ble_eq_true rfl, Nat.le_of_ble_eq_true rfl⟩ rfl (Nat.le_of_ble_eq_true rfl) ⟨Nat.zero_le _, Nat.zero_le _⟩ dX11_takesNumber_85 rfl (fun g_57 hp_58 => ?_)
            subst g_57
            refine w_ifeqB 104 dX11_takesNumber_88 (by decide) (fun c_88 => ?_) (fun c_88 => ?_)
            · refine w_iconst dX11_takesNumber_104 ?_
              refine w_istore [(5, .int (zI 0)), (4, .int (zI sp)), (0, .ref (B + 141)), (1, .int (zI lo)), (2, .int (zI hi)), (3, .int (zI sg))] dX11_takesNumber_105 (by decide) rfl ?_
              refine w_aload_n dX11_takesNumber_107 rfl 2 rfl ?_
              refine w_dup dX11_takesNumber_108 rfl ?_
              refine w_get (i := 7) (T := TX11) (NF := 32) 141 (by first | omega | with_reducible rfl) hm_46 rfl (fun _ h => (List.mem_cons_of_mem _ (List.mem_append_right _ h))) (by decide) (List.mem_of_getElem? (i := 1) rfl) rfl dX11_takesNumber_109 ?_
              refine w_iconst dX11_takesNumber_112 ?_
              refine w_iadd dX11_takesNumber_113 ?_
              refine w_put (i := 7) (T := TX11) (NF := 32) 141 (by first | omega | with_reducible rfl) hm_46 rfl (fun _ h => (List.mem_cons_of_mem _ (List.mem_append_right _ h))) tyX11 tyX11_ok nmX11 (by decide) (List.mem_of_getElem? (i := 1) rfl) rfl rfl rfl (Nat.le_of_ble_eq_true rfl) dX11_takesNumber_114 (fun g_59 he_60 hn_61 => ?_)
              have hm_62 : vM cy B g_59 141 cg ((n : Nat) : Int) ((sp + 1) + 1) (((10 * 0) + (Lm sp)) - 48) o0 tn aw mw fw ls gs sn sw kr := he_60
              have htx_63 : vIA cy B g_59 145 200 Lm := vIA_fr htx_47 (fun q h1 h2 => hn_61 q (by omega))
              have hfr_64 : ∀ q, q ≠ 141 → g_59 q = g q := fun q hq => (hn_61 q (by omega)).trans (hfr_48 q hq)
              refine w_iload dX11_takesNumber_117 0 rfl ?_
              exact w_zret dX11_takesNumber_119 rfl rfl (by first | (exfalso; omega) | (rw [if_pos (by omega)]; done) | (rw [if_neg (by omega)]; done)) ⟨(by have h9 := hm_62; first | (exfalso; omega) | (rw [hnp.1, if_neg (by omega), hnp.2, show figA n Lm sp = 10 * 0 + Lm sp - 48 by omega]; exact h9) | (rw [hnp.1, if_neg (by omega), hnp.2, show figA n Lm sp * 10 + figA n Lm (sp + 1) = 10 * (10 * 0 + Lm sp - 48) + Lm (sp + 1) - 48 by omega]; exact h9) | (rw [hnp, if_pos (by omega)]; exact h9)), hfr_64⟩
            · refine w_aload_n dX11_takesNumber_91 rfl 1 rfl ?_
              refine w_iload_n dX11_takesNumber_92 rfl 4 rfl ?_
              refine w_iload_n dX11_takesNumber_93 rfl 4 rfl ?_
              refine w_calli (As := [.int (zI sg), .int (zI sg)]) (rest := []) (n := 2) (c_X11_isAt hm_46 htx_47 (by first | omega | with_reducible rfl) (by first | omega | with_reducible rfl) (by first | omega | with_reducible rfl) (by first | omega | with_reducible rfl) (by first | omega | with_reducible rfl) (by first | omega | with_reducible rfl) (by first | omega | with_reducible rfl)) gX11_takesNumber_X11_isAt rfl rfl rfl (by decide +kernel) ⟨Nat.le_of_ble_eq_true rfl, Nat.le_of_ble_eq_true rfl⟩ rfl (by first | omega | with_reducible rfl) hm_46 rfl (Nat.le_of_ble_eq_true rfl) ⟨Nat.zero_le _, Nat.zero_le _⟩ dX11_takesNumber_94 rfl (fun g_65 hp_66 => ?_)
              subst g_65
              have hx9 := hsg
              refine w_ifeqB 104 dX11_takesNumber_97 (by decide) (fun c_97 => ?_) (fun c_97 => ?_)
              · refine w_iconst dX11_takesNumber_104 ?_
                refine w_istore [(5, .int (zI 0)), (4, .int (zI sp)), (0, .ref (B + 141)), (1, .int (zI lo)), (2, .int (zI hi)), (3, .int (zI sg))] dX11_takesNumber_105 (by decide) rfl ?_
                refine w_aload_n dX11_takesNumber_107 rfl 2 rfl ?_
                refine w_dup dX11_takesNumber_108 rfl ?_
                refine w_get (i := 7) (T := TX11) (NF := 32) 141 (by first | omega | with_reducible rfl) hm_46 rfl (fun _ h => (List.mem_cons_of_mem _ (List.mem_append_right _ h))) (by decide) (List.mem_of_getElem? (i := 1) rfl) rfl dX11_takesNumber_109 ?_
                refine w_iconst dX11_takesNumber_112 ?_
                refine w_iadd dX11_takesNumber_113 ?_
                refine w_put (i := 7) (T := TX11) (NF := 32) 141 (by first | omega | with_reducible rfl) hm_46 rfl (fun _ h => (List.mem_cons_of_mem _ (List.mem_append_right _ h))) tyX11 tyX11_ok nmX11 (by decide) (List.mem_of_getElem? (i := 1) rfl) rfl rfl rfl (Nat.le_of_ble_eq_true rfl) dX11_takesNumber_114 (fun g_67 he_68 hn_69 => ?_)
                have hm_70 : vM cy B g_67 141 cg ((n : Nat) : Int) ((sp + 1) + 1) (((10 * 0) + (Lm sp)) - 48) o0 tn aw mw fw ls gs sn sw kr := he_68
                have htx_71 : vIA cy B g_67 145 200 Lm := vIA_fr htx_47 (fun q h1 h2 => hn_69 q (by omega))
                have hfr_72 : ∀ q, q ≠ 141 → g_67 q = g q := fun q hq => (hn_69 q (by omega)).trans (hfr_48 q hq)
                refine w_iload dX11_takesNumber_117 0 rfl ?_
                exact w_zret dX11_takesNumber_119 rfl rfl (by first | (exfalso; omega) | (rw [if_pos (by omega)]; done) | (rw [if_neg (by omega)]; done)) ⟨(by have h9 := hm_70; first | (exfalso; omega) | (rw [hnp.1, if_neg (by omega), hnp.2, show figA n Lm sp = 10 * 0 + Lm sp - 48 by omega]; exact h9) | (rw [hnp.1, if_neg (by omega), hnp.2, show figA n Lm sp * 10 + figA n Lm (sp + 1) = 10 * (10 * 0 + Lm sp - 48) + Lm (sp + 1) - 48 by omega]; exact h9) | (rw [hnp, if_pos (by omega)]; exact h9)), hfr_72⟩
              · refine w_iconst dX11_takesNumber_100 ?_
                refine w_goto 105 dX11_takesNumber_101 (by decide) ?_
                refine w_istore [(5, .int (zI 1)), (4, .int (zI sp)), (0, .ref (B + 141)), (1, .int (zI lo)), (2, .int (zI hi)), (3, .int (zI sg))] dX11_takesNumber_105 (by decide) rfl ?_
                refine w_aload_n dX11_takesNumber_107 rfl 2 rfl ?_
                refine w_dup dX11_takesNumber_108 rfl ?_
                refine w_get (i := 7) (T := TX11) (NF := 32) 141 (by first | omega | with_reducible rfl) hm_46 rfl (fun _ h => (List.mem_cons_of_mem _ (List.mem_append_right _ h))) (by decide) (List.mem_of_getElem? (i := 1) rfl) rfl dX11_takesNumber_109 ?_
                refine w_iconst dX11_takesNumber_112 ?_
                refine w_iadd dX11_takesNumber_113 ?_
                refine w_put (i := 7) (T := TX11) (NF := 32) 141 (by first | omega | with_reducible rfl) hm_46 rfl (fun _ h => (List.mem_cons_of_mem _ (List.mem_append_right _ h))) tyX11 tyX11_ok nmX11 (by decide) (List.mem_of_getElem? (i := 1) rfl) rfl rfl rfl (Nat.le_of_ble_eq_true rfl) dX11_takesNumber_114 (fun g_73 he_74 hn_75 => ?_)
                have hm_76 : vM cy B g_73 141 cg ((n : Nat) : Int) ((sp + 1) + 1) (((10 * 0) + (Lm sp)) - 48) o0 tn aw mw fw ls gs sn sw kr := he_74
                have htx_77 : vIA cy B g_73 145 200 Lm := vIA_fr htx_47 (fun q h1 h2 => hn_75 q (by omega))
                have hfr_78 : ∀ q, q ≠ 141 → g_73 q = g q := fun q hq => (hn_75 q (by omega)).trans (hfr_48 q hq)
                refine w_iload dX11_takesNumber_117 0 rfl ?_
                exact w_zret dX11_takesNumber_119 rfl rfl (by first | (exfalso; omega) | (rw [if_pos (by omega)]; done) | (rw [if_neg (by omega)]; done)) ⟨(by have h9 := hm_76; first | (exfalso; omega) | (rw [hnp.1, if_neg (by omega), hnp.2, show figA n Lm sp = 10 * 0 + Lm sp - 48 by omega]; exact h9) | (rw [hnp.1, if_neg (by omega), hnp.2, show figA n Lm sp * 10 + figA n Lm (sp + 1) = 10 * (10 * 0 + Lm sp - 48) + Lm (sp + 1) - 48 by omega]; exact h9) | (rw [hnp, if_pos (by omega)]; exact h9)), hfr_78⟩
        · have hfy1 := figA_y c_30
          refine w_aload_n dX11_takesNumber_33 rfl 1 rfl ?_
          refine w_bipush dX11_takesNumber_34 (by decide) ?_
          refine w_aload_n dX11_takesNumber_36 rfl 1 rfl ?_
          refine w_get (i := 8) (T := TX11) (NF := 32) 141 (by first | omega | with_reducible rfl) hm_46 rfl (fun _ h => (List.mem_cons_of_mem _ (List.mem_append_right _ h))) (by decide) (List.mem_of_getElem? (i := 2) rfl) rfl dX11_takesNumber_37 ?_
          refine w_imul dX11_takesNumber_40 ?_
          refine w_aload_n dX11_takesNumber_41 rfl 1 rfl ?_
          refine w_get (i := 4) (T := TX11) (NF := 32) 141 (by first | omega | with_reducible rfl) hm_46 rfl (fun _ h => (List.mem_cons_of_mem _ (List.mem_append_right _ h))) (by decide) (List.mem_of_getElem? (i := 3) rfl) rfl dX11_takesNumber_42 ?_
          refine w_aload_n dX11_takesNumber_45 rfl 1 rfl ?_
          refine w_get (i := 7) (T := TX11) (NF := 32) 141 (by first | omega | with_reducible rfl) hm_46 rfl (fun _ h => (List.mem_cons_of_mem _ (List.mem_append_right _ h))) (by decide) (List.mem_of_getElem? (i := 1) rfl) rfl dX11_takesNumber_46 ?_
          have hpl9 := hil1.1 (by first | omega | (by_cases q9 : sp + 1 < n; exact q9; have := hil1.2 q9; omega))
          refine w_iald 145 (by first | omega | with_reducible rfl) htx_47 (by first | omega | with_reducible rfl) dX11_takesNumber_49 ?_
          refine w_iadd dX11_takesNumber_50 ?_
          refine w_bipush dX11_takesNumber_51 (by decide) ?_
          refine w_isub dX11_takesNumber_53 ?_
          refine w_put (i := 8) (T := TX11) (NF := 32) 141 (by first | omega | with_reducible rfl) hm_46 rfl (fun _ h => (List.mem_cons_of_mem _ (List.mem_append_right _ h))) tyX11 tyX11_ok nmX11 (by decide) (List.mem_of_getElem? (i := 2) rfl) rfl rfl rfl (Nat.le_of_ble_eq_true rfl) dX11_takesNumber_54 (fun g_79 he_80 hn_81 => ?_)
          have hm_82 : vM cy B g_79 141 cg ((n : Nat) : Int) (sp + 1) (((10 * (((10 * 0) + (Lm sp)) - 48)) + (Lm (sp + 1))) - 48) o0 tn aw mw fw ls gs sn sw kr := he_80
          have htx_83 : vIA cy B g_79 145 200 Lm := vIA_fr htx_47 (fun q h1 h2 => hn_81 q (by omega))
          have hfr_84 : ∀ q, q ≠ 141 → g_79 q = g q := fun q hq => (hn_81 q (by omega)).trans (hfr_48 q hq)
          refine w_aload_n dX11_takesNumber_57 rfl 1 rfl ?_
          refine w_dup dX11_takesNumber_58 rfl ?_
          refine w_get (i := 7) (T := TX11) (NF := 32) 141 (by first | omega | with_reducible rfl) hm_82 rfl (fun _ h => (List.mem_cons_of_mem _ (List.mem_append_right _ h))) (by decide) (List.mem_of_getElem? (i := 1) rfl) rfl dX11_takesNumber_59 ?_
          refine w_iconst dX11_takesNumber_62 ?_
          refine w_iadd dX11_takesNumber_63 ?_
          refine w_put (i := 7) (T := TX11) (NF := 32) 141 (by first | omega | with_reducible rfl) hm_82 rfl (fun _ h => (List.mem_cons_of_mem _ (List.mem_append_right _ h))) tyX11 tyX11_ok nmX11 (by decide) (List.mem_of_getElem? (i := 1) rfl) rfl rfl rfl (Nat.le_of_ble_eq_true rfl) dX11_takesNumber_64 (fun g_85 he_86 hn_87 => ?_)
          have hm_88 : vM cy B g_85 141 cg ((n : Nat) : Int) ((sp + 1) + 1) (((10 * (((10 * 0) + (Lm sp)) - 48)) + (Lm (sp + 1))) - 48) o0 tn aw mw fw ls gs sn sw kr := he_86
          have htx_89 : vIA cy B g_85 145 200 Lm := vIA_fr htx_83 (fun q h1 h2 => hn_87 q (by omega))
          have hfr_90 : ∀ q, q ≠ 141 → g_85 q = g q := fun q hq => (hn_87 q (by omega)).trans (hfr_84 q hq)
          refine w_goto 11 dX11_takesNumber_67 (by decide) ?_
          refine w_aload_n dX11_takesNumber_11 rfl 1 rfl ?_
          refine w_get (i := 7) (T := TX11) (NF := 32) 141 (by first | omega | with_reducible rfl) hm_88 rfl (fun _ h => (List.mem_cons_of_mem _ (List.mem_append_right _ h))) (by decide) (List.mem_of_getElem? (i := 1) rfl) rfl dX11_takesNumber_12 ?_
          refine w_iload dX11_takesNumber_15 0 rfl ?_
          refine w_iconst dX11_takesNumber_17 ?_
          refine w_iadd dX11_takesNumber_18 ?_
          refine w_icmp_ge 70 dX11_takesNumber_19 (by decide) (by first | omega | with_reducible rfl) (by first | omega | with_reducible rfl) (fun c_19 => ?_) (fun c_19 => ?_)
          · have hnp := num_2 (n := n) (L := Lm) (p := sp) (by omega) (by omega)
            have hat := congrArg (inA n Lm) hnp.1
            refine w_aload_n dX11_takesNumber_70 rfl 1 rfl ?_
            refine w_get (i := 7) (T := TX11) (NF := 32) 141 (by first | omega | with_reducible rfl) hm_88 rfl (fun _ h => (List.mem_cons_of_mem _ (List.mem_append_right _ h))) (by decide) (List.mem_of_getElem? (i := 1) rfl) rfl dX11_takesNumber_71 ?_
            refine w_iload dX11_takesNumber_74 0 rfl ?_
            refine w_icmp_le 104 dX11_takesNumber_76 (by decide) (by first | omega | with_reducible rfl) (by first | omega | with_reducible rfl) (fun c_76 => ?_) (fun c_76 => ?_)
            · refine w_iconst dX11_takesNumber_104 ?_
              refine w_istore [(5, .int (zI 0)), (4, .int (zI sp)), (0, .ref (B + 141)), (1, .int (zI lo)), (2, .int (zI hi)), (3, .int (zI sg))] dX11_takesNumber_105 (by decide) rfl ?_
              refine w_aload_n dX11_takesNumber_107 rfl 2 rfl ?_
              refine w_dup dX11_takesNumber_108 rfl ?_
              refine w_get (i := 7) (T := TX11) (NF := 32) 141 (by first | omega | with_reducible rfl) hm_88 rfl (fun _ h => (List.mem_cons_of_mem _ (List.mem_append_right _ h))) (by decide) (List.mem_of_getElem? (i := 1) rfl) rfl dX11_takesNumber_109 ?_
              refine w_iconst dX11_takesNumber_112 ?_
              refine w_iadd dX11_takesNumber_113 ?_
              refine w_put (i := 7) (T := TX11) (NF := 32) 141 (by first | omega | with_reducible rfl) hm_88 rfl (fun _ h => (List.mem_cons_of_mem _ (List.mem_append_right _ h))) tyX11 tyX11_ok nmX11 (by decide) (List.mem_of_getElem? (i := 1) rfl) rfl rfl rfl (Nat.le_of_ble_eq_true rfl) dX11_takesNumber_114 (fun g_91 he_92 hn_93 => ?_)
              have hm_94 : vM cy B g_91 141 cg ((n : Nat) : Int) (((sp + 1) + 1) + 1) (((10 * (((10 * 0) + (Lm sp)) - 48)) + (Lm (sp + 1))) - 48) o0 tn aw mw fw ls gs sn sw kr := he_92
              have htx_95 : vIA cy B g_91 145 200 Lm := vIA_fr htx_89 (fun q h1 h2 => hn_93 q (by omega))
              have hfr_96 : ∀ q, q ≠ 141 → g_91 q = g q := fun q hq => (hn_93 q (by omega)).trans (hfr_90 q hq)
              refine w_iload dX11_takesNumber_117 0 rfl ?_
              exact w_zret dX11_takesNumber_119 rfl rfl (by first | (exfalso; omega) | (rw [if_pos (by omega)]; done) | (rw [if_neg (by omega)]; done)) ⟨(by have h9 := hm_94; first | (exfalso; omega) | (rw [hnp.1, if_neg (by omega), hnp.2, show figA n Lm sp = 10 * 0 + Lm sp - 48 by omega]; exact h9) | (rw [hnp.1, if_neg (by omega), hnp.2, show figA n Lm sp * 10 + figA n Lm (sp + 1) = 10 * (10 * 0 + Lm sp - 48) + Lm (sp + 1) - 48 by omega]; exact h9) | (rw [hnp, if_pos (by omega)]; exact h9)), hfr_96⟩
            · refine w_aload_n dX11_takesNumber_79 rfl 1 rfl ?_
              refine w_get (i := 8) (T := TX11) (NF := 32) 141 (by first | omega | with_reducible rfl) hm_88 rfl (fun _ h => (List.mem_cons_of_mem _ (List.mem_append_right _ h))) (by decide) (List.mem_of_getElem? (i := 2) rfl) rfl dX11_takesNumber_80 ?_
              refine w_iload_n dX11_takesNumber_83 rfl 2 rfl ?_
              refine w_iload_n dX11_takesNumber_84 rfl 3 rfl ?_
              refine w_calliS (As := [.int (zI (((10 * (((10 * 0) + (Lm sp)) - 48)) + (Lm (sp + 1))) - 48)), .int (zI lo), .int (zI hi)]) (rest := []) (n := 3) (c_X11_in (by first | omega | with_reducible rfl) (by first | omega | with_reducible rfl) (by first | omega | with_reducible rfl)) gX11_takesNumber_X11_in rfl rfl rfl (by decide +kernel) ⟨Nat.le_of_ble_eq_true rfl, Nat.le_of_ble_eq_true rfl⟩ rfl (Nat.le_of_ble_eq_true rfl) ⟨Nat.zero_le _, Nat.zero_le _⟩ dX11_takesNumber_85 rfl (fun g_97 hp_98 => ?_)
              subst g_97
              refine w_ifeqB 104 dX11_takesNumber_88 (by decide) (fun c_88 => ?_) (fun c_88 => ?_)
              · refine w_iconst dX11_takesNumber_104 ?_
                refine w_istore [(5, .int (zI 0)), (4, .int (zI sp)), (0, .ref (B + 141)), (1, .int (zI lo)), (2, .int (zI hi)), (3, .int (zI sg))] dX11_takesNumber_105 (by decide) rfl ?_
                refine w_aload_n dX11_takesNumber_107 rfl 2 rfl ?_
                refine w_dup dX11_takesNumber_108 rfl ?_
                refine w_get (i := 7) (T := TX11) (NF := 32) 141 (by first | omega | with_reducible rfl) hm_88 rfl (fun _ h => (List.mem_cons_of_mem _ (List.mem_append_right _ h))) (by decide) (List.mem_of_getElem? (i := 1) rfl) rfl dX11_takesNumber_109 ?_
                refine w_iconst dX11_takesNumber_112 ?_
                refine w_iadd dX11_takesNumber_113 ?_
                refine w_put (i := 7) (T := TX11) (NF := 32) 141 (by first | omega | with_reducible rfl) hm_88 rfl (fun _ h => (List.mem_cons_of_mem _ (List.mem_append_right _ h))) tyX11 tyX11_ok nmX11 (by decide) (List.mem_of_getElem? (i := 1) rfl) rfl rfl rfl (Nat.le_of_ble_eq_true rfl) dX11_takesNumber_114 (fun g_99 he_100 hn_101 => ?_)
                have hm_102 : vM cy B g_99 141 cg ((n : Nat) : Int) (((sp + 1) + 1) + 1) (((10 * (((10 * 0) + (Lm sp)) - 48)) + (Lm (sp + 1))) - 48) o0 tn aw mw fw ls gs sn sw kr := he_100
                have htx_103 : vIA cy B g_99 145 200 Lm := vIA_fr htx_89 (fun q h1 h2 => hn_101 q (by omega))
                have hfr_104 : ∀ q, q ≠ 141 → g_99 q = g q := fun q hq => (hn_101 q (by omega)).trans (hfr_90 q hq)
                refine w_iload dX11_takesNumber_117 0 rfl ?_
                exact w_zret dX11_takesNumber_119 rfl rfl (by first | (exfalso; omega) | (rw [if_pos (by omega)]; done) | (rw [if_neg (by omega)]; done)) ⟨(by have h9 := hm_102; first | (exfalso; omega) | (rw [hnp.1, if_neg (by omega), hnp.2, show figA n Lm sp = 10 * 0 + Lm sp - 48 by omega]; exact h9) | (rw [hnp.1, if_neg (by omega), hnp.2, show figA n Lm sp * 10 + figA n Lm (sp + 1) = 10 * (10 * 0 + Lm sp - 48) + Lm (sp + 1) - 48 by omega]; exact h9) | (rw [hnp, if_pos (by omega)]; exact h9)), hfr_104⟩
              · refine w_aload_n dX11_takesNumber_91 rfl 1 rfl ?_
                refine w_iload_n dX11_takesNumber_92 rfl 4 rfl ?_
                refine w_iload_n dX11_takesNumber_93 rfl 4 rfl ?_
                refine w_calli (As := [.int (zI sg), .int (zI sg)]) (rest := []) (n := 2) (c_X11_isAt hm_88 htx_89 (by first | omega | with_reducible rfl) (by first | omega | with_reducible rfl) (by first | omega | with_reducible rfl) (by first | omega | with_reducible rfl) (by first | omega | with_reducible rfl) (by first | omega | with_reducible rfl) (by first | omega | with_reducible rfl)) gX11_takesNumber_X11_isAt rfl rfl rfl (by decide +kernel) ⟨Nat.le_of_ble_eq_true rfl, Nat.le_of_ble_eq_true rfl⟩ rfl (by first | omega | with_reducible rfl) hm_88 rfl (Nat.le_of_ble_eq_true rfl) ⟨Nat.zero_le _, Nat.zero_le _⟩ dX11_takesNumber_94 rfl (fun g_105 hp_106 => ?_)
                subst g_105
                have hx9 := hsg
                refine w_ifeqB 104 dX11_takesNumber_97 (by decide) (fun c_97 => ?_) (fun c_97 => ?_)
                · refine w_iconst dX11_takesNumber_104 ?_
                  refine w_istore [(5, .int (zI 0)), (4, .int (zI sp)), (0, .ref (B + 141)), (1, .int (zI lo)), (2, .int (zI hi)), (3, .int (zI sg))] dX11_takesNumber_105 (by decide) rfl ?_
                  refine w_aload_n dX11_takesNumber_107 rfl 2 rfl ?_
                  refine w_dup dX11_takesNumber_108 rfl ?_
                  refine w_get (i := 7) (T := TX11) (NF := 32) 141 (by first | omega | with_reducible rfl) hm_88 rfl (fun _ h => (List.mem_cons_of_mem _ (List.mem_append_right _ h))) (by decide) (List.mem_of_getElem? (i := 1) rfl) rfl dX11_takesNumber_109 ?_
                  refine w_iconst dX11_takesNumber_112 ?_
                  refine w_iadd dX11_takesNumber_113 ?_
                  refine w_put (i := 7) (T := TX11) (NF := 32) 141 (by first | omega | with_reducible rfl) hm_88 rfl (fun _ h => (List.mem_cons_of_mem _ (List.mem_append_right _ h))) tyX11 tyX11_ok nmX11 (by decide) (List.mem_of_getElem? (i := 1) rfl) rfl rfl rfl (Nat.le_of_ble_eq_true rfl) dX11_takesNumber_114 (fun g_107 he_108 hn_109 => ?_)
                  have hm_110 : vM cy B g_107 141 cg ((n : Nat) : Int) (((sp + 1) + 1) + 1) (((10 * (((10 * 0) + (Lm sp)) - 48)) + (Lm (sp + 1))) - 48) o0 tn aw mw fw ls gs sn sw kr := he_108
                  have htx_111 : vIA cy B g_107 145 200 Lm := vIA_fr htx_89 (fun q h1 h2 => hn_109 q (by omega))
                  have hfr_112 : ∀ q, q ≠ 141 → g_107 q = g q := fun q hq => (hn_109 q (by omega)).trans (hfr_90 q hq)
                  refine w_iload dX11_takesNumber_117 0 rfl ?_
                  exact w_zret dX11_takesNumber_119 rfl rfl (by first | (exfalso; omega) | (rw [if_pos (by omega)]; done) | (rw [if_neg (by omega)]; done)) ⟨(by have h9 := hm_110; first | (exfalso; omega) | (rw [hnp.1, if_neg (by omega), hnp.2, show figA n Lm sp = 10 * 0 + Lm sp - 48 by omega]; exact h9) | (rw [hnp.1, if_neg (by omega), hnp.2, show figA n Lm sp * 10 + figA n Lm (sp + 1) = 10 * (10 * 0 + Lm sp - 48) + Lm (sp + 1) - 48 by omega]; exact h9) | (rw [hnp, if_pos (by omega)]; exact h9)), hfr_112⟩
                · refine w_iconst dX11_takesNumber_100 ?_
                  refine w_goto 105 dX11_takesNumber_101 (by decide) ?_
                  refine w_istore [(5, .int (zI 1)), (4, .int (zI sp)), (0, .ref (B + 141)), (1, .int (zI lo)), (2, .int (zI hi)), (3, .int (zI sg))] dX11_takesNumber_105 (by decide) rfl ?_
                  refine w_aload_n dX11_takesNumber_107 rfl 2 rfl ?_
                  refine w_dup dX11_takesNumber_108 rfl ?_
                  refine w_get (i := 7) (T := TX11) (NF := 32) 141 (by first | omega | with_reducible rfl) hm_88 rfl (fun _ h => (List.mem_cons_of_mem _ (List.mem_append_right _ h))) (by decide) (List.mem_of_getElem? (i := 1) rfl) rfl dX11_takesNumber_109 ?_
                  refine w_iconst dX11_takesNumber_112 ?_
                  refine w_iadd dX11_takesNumber_113 ?_
                  refine w_put (i := 7) (T := TX11) (NF := 32) 141 (by first | omega | with_reducible rfl) hm_88 rfl (fun _ h => (List.mem_cons_of_mem _ (List.mem_append_right _ h))) tyX11 tyX11_ok nmX11 (by decide) (List.mem_of_getElem? (i := 1) rfl) rfl rfl rfl (Nat.le_of_ble_eq_true rfl) dX11_takesNumber_114 (fun g_113 he_114 hn_115 => ?_)
                  have hm_116 : vM cy B g_113 141 cg ((n : Nat) : Int) (((sp + 1) + 1) + 1) (((10 * (((10 * 0) + (Lm sp)) - 48)) + (Lm (sp + 1))) - 48) o0 tn aw mw fw ls gs sn sw kr := he_114
                  have htx_117 : vIA cy B g_113 145 200 Lm := vIA_fr htx_89 (fun q h1 h2 => hn_115 q (by omega))
                  have hfr_118 : ∀ q, q ≠ 141 → g_113 q = g q := fun q hq => (hn_115 q (by omega)).trans (hfr_90 q hq)
                  refine w_iload dX11_takesNumber_117 0 rfl ?_
                  exact w_zret dX11_takesNumber_119 rfl rfl (by first | (exfalso; omega) | (rw [if_pos (by omega)]; done) | (rw [if_neg (by omega)]; done)) ⟨(by have h9 := hm_116; first | (exfalso; omega) | (rw [hnp.1, if_neg (by omega), hnp.2, show figA n Lm sp = 10 * 0 + Lm sp - 48 by omega]; exact h9) | (rw [hnp.1, if_neg (by omega), hnp.2, show figA n Lm sp * 10 + figA n Lm (sp + 1) = 10 * (10 * 0 + Lm sp - 48) + Lm (sp + 1) - 48 by omega]; exact h9) | (rw [hnp, if_pos (by omega)]; exact h9)), hfr_118⟩
          · exfalso; omega

