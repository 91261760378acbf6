/-! ===== the model's constructor ===== -/
def firstS : St := [[(8, 1, 0), (7, 3, 1), (9, 6, 2), (6, 5, 3)], [(5, 1, 0), (6, 4, 2)]]
def SetJ (t u : Nat) (Sv : Int → Int) : Prop := ∀ r w : Nat, r ≤ 12 → w ≤ 12 → Sv (13 * ((r : Nat) : Int) + ((w : Nat) : Int)) = if r < t ∨ (r = t ∧ w < u) then ((ch r w : Nat) : Int) else 0
theorem SetJ_0 : SetJ 0 0 (fun _ => 0) := fun r w _ _ => by
  show (0 : Int) = _
  rw [if_neg (by omega)]
theorem SetJ_1 {t : Nat} {Sv : Int → Int} (h : SetJ t 0 Sv) {z : Int} (hz : z = 13 * ((t : Nat) : Int)) : SetJ t 1 (uZ Sv z 1) := fun r w hr hw => by
  subst hz
  unfold uZ
  by_cases h1 : r = t ∧ w = 0
  · obtain ⟨rfl, rfl⟩ := h1
    rw [if_pos (by omega), if_pos (by omega)]
    cases r <;> rfl
  · rw [if_neg (by omega), h r w hr hw]
    by_cases h2 : r < t
    · rw [if_pos (Or.inl h2), if_pos (Or.inl h2)]
    · rw [if_neg (by omega), if_neg (by omega)]
theorem SetJ_u {t u : Nat} {Sv : Int → Int} (hu : 1 ≤ u ∧ u ≤ t ∧ t ≤ 12) (h : SetJ t u Sv) {z y : Int} (hz : z = 13 * ((t : Nat) : Int) + ((u : Nat) : Int)) (hy : y = Sv (13 * ((t : Nat) : Int) - 13 + ((u : Nat) : Int) - 1) + (if u < t then Sv (13 * ((t : Nat) : Int) - 13 + ((u : Nat) : Int)) else 0)) : SetJ t (u + 1) (uZ Sv z y) := fun r w hr hw => by
  subst hz
  unfold uZ
  by_cases h1 : r = t ∧ w = u
  · obtain ⟨rfl, rfl⟩ := h1
    rw [if_pos rfl, if_pos (Or.inr ⟨rfl, by omega⟩), hy]
    obtain ⟨r', rfl⟩ : ∃ r', r = r' + 1 := ⟨r - 1, by omega⟩
    obtain ⟨w', rfl⟩ : ∃ w', w = w' + 1 := ⟨w - 1, by omega⟩
    have e1 := h r' w' (by omega) (by omega)
    have e2 := h r' (w' + 1) (by omega) (by omega)
    rw [if_pos (by omega)] at e1 e2
    rw [show 13 * ((r' + 1 : Nat) : Int) - 13 + ((w' + 1 : Nat) : Int) - 1 = 13 * ((r' : Nat) : Int) + ((w' : Nat) : Int) by omega, show 13 * ((r' + 1 : Nat) : Int) - 13 + ((w' + 1 : Nat) : Int) = 13 * ((r' : Nat) : Int) + ((w' + 1 : Nat) : Int) by omega, e1, e2]
    have e3 : ch (r' + 1) (w' + 1) = ch r' w' + ch r' (w' + 1) := rfl
    rw [e3]
    by_cases h2 : w' + 1 < r' + 1
    · rw [if_pos h2]
      omega
    · rw [if_neg h2, ch_out (n := r') (k := w' + 1) (by omega)]
      omega
  · rw [if_neg (by omega), h r w hr hw]
    by_cases h2 : r < t ∨ (r = t ∧ w < u)
    · rw [if_pos h2, if_pos (by omega)]
    · rw [if_neg h2, if_neg (by omega)]
theorem SetJ_n {t : Nat} {Sv : Int → Int} (h : SetJ t (t + 1) Sv) : SetJ (t + 1) 0 Sv := fun r w hr hw => by
  rw [h r w hr hw]
  by_cases h1 : r < t
  · rw [if_pos (Or.inl h1), if_pos (by omega)]
  · by_cases h2 : r = t
    · subst h2
      rw [if_pos (by omega : r < r + 1 ∨ (r = r + 1 ∧ w < 0))]
      by_cases h3 : w < r + 1
      · rw [if_pos (Or.inr ⟨rfl, h3⟩)]
      · rw [if_neg (by omega), ch_out (by omega)]
        rfl
    · rw [if_neg (by omega), if_neg (by omega)]
theorem SetJ_ok {Sv : Int → Int} (h : SetJ 13 0 Sv) : SvOK Sv := fun t x ht hx => by
  rw [h t x ht hx, if_pos (by omega)]
theorem SetJ_le {t u : Nat} {Sv : Int → Int} (h : SetJ t u Sv) (r w : Nat) (hr : r ≤ 12) (hw : w ≤ 12) : 0 ≤ Sv (13 * ((r : Nat) : Int) + ((w : Nat) : Int)) ∧ Sv (13 * ((r : Nat) : Int) + ((w : Nat) : Int)) ≤ 4096 := by
  rw [h r w hr hw]
  have h1 := ch_le r w
  split
  · have h3 : 2 ^ r ≤ 2 ^ 12 := Nat.pow_le_pow_right (by omega) hr
    have h4 : (2 : Nat) ^ 12 = 4096 := by decide
    omega
  · omega
theorem ERZ_s1 {f : Int → Int} {S : St} {z : Int} (h : ERZ f S) (hS : S.length < 3) (hz : z = ((S.length : Nat) : Int) + 1) : ERZ (uZ f 0 z) (S ++ [[]]) := by
  subst hz
  exact ERZ_s h hS
def MWv (cy : Nat → ClassId) (B : Nat) (g : Nat → va_E) (cg le sp va o0 tn aw mw fw ls gs sn sw kr : Int) (Nw Rd Ps Lm Sv Tb Lk Bs Jo Wi Ah Be Lo Sh Ro Tr Su Sz : Int → Int) : Prop := vM cy B g 141 cg le sp va o0 tn aw mw fw ls gs sn sw kr ∧ vIA cy B g 142 49 Nw ∧ vIA cy B g 143 49 Rd ∧ vIA cy B g 144 294 Ps ∧ vIA cy B g 145 200 Lm ∧ vLA cy B g 146 169 Sv ∧ vIA cy B g 147 5 Tb ∧ vIA cy B g 148 5 Lk ∧ vLA cy B g 149 541 Bs ∧ vLA cy B g 150 1621 Jo ∧ vLA cy B g 151 1621 Wi ∧ vLA cy B g 152 366 Ah ∧ vLA cy B g 153 366 Be ∧ vLA cy B g 154 366 Lo ∧ vLA cy B g 155 366 Sh ∧ vIA cy B g 156 366 Ro ∧ vIA cy B g 157 5 Tr ∧ vIA cy B g 158 6 Su ∧ vLA cy B g 159 6 Sz
/-- the model's cells hold: a text of n letters L, the strata S, the past states P (the latest first) -/
def MW (cy : Nat → ClassId) (B : Nat) (g : Nat → va_E) (n : Nat) (L : Int → Int) (S : St) (P : List St) : Prop := ∃ (cg le sp va o0 tn aw mw fw ls gs sn sw kr : Int) (Nw Rd Ps Lm Sv Tb Lk Bs Jo Wi Ah Be Lo Sh Ro Tr Su Sz : Int → Int), MWv cy B g cg le sp va o0 tn aw mw fw ls gs sn sw kr Nw Rd Ps Lm Sv Tb Lk Bs Jo Wi Ah Be Lo Sh Ro Tr Su Sz ∧ (cg = ((P.length : Nat) : Int) ∧ le = ((n : Nat) : Int) ∧ rgM mw fw ls gs) ∧ ER Nw S ∧ PR Ps P ∧ (∀ i : Int, 0 ≤ i → i < n → Lm i = L i) ∧ SvOK Sv
set_option maxHeartbeats 8000000 in
set_option maxRecDepth 100000 in
theorem c_X11_init {l : Launch} {D : va_G} {cy : Nat → ClassId} {B : Nat} {g : Nat → va_E}   (h0 : nO11 cy B g 141 (.null) (.null) (.null) (.int (zI 0)) (.null) (.int (zI 0)) (.null) (.int (zI 0)) (.int (zI 0)) (.null) (.int (zI 0)) (.int (zI 0)) (.long (zJ 0)) (.long (zJ 0)) (.long (zJ 0)) (.int (zI 0)) (.int (zI 0)) (.int (zI 0)) (.long (zJ 0)) (.null) (.int (zI 0)) (.null) (.null) (.null) (.null) (.null) (.null) (.null) (.null) (.null) (.null) (.null)) : CTc2 l yX11_init wsX11_init (rmc 1 25 18 6401) D cy B (141 + 1) g [.ref (B + 141)] 18 6401 (fun g' => MW cy B g' 0 (fun _ => 0) firstS [] ∧ ∀ q, q < 141 → g' q = g q) := by
  refine WW_of2 (cc := cX11_init) (maxL := 3) (ret := none) (own := RX11) (by decide) rfl rfl (Nat.le_of_ble_eq_true rfl) rfl ?_
  intro pp ee ss mm bl me co hmn hao
  have hfr_0 : ∀ q, q < 141 → g q = g q := fun _ _ => rfl
  refine w_aload_n dX11_init_0 rfl 0 rfl ?_
  refine w_objInit (List.mem_of_getElem? (i := 1) rfl) (List.mem_of_getElem? (i := 2) rfl) (List.mem_of_getElem? (i := 3) rfl) dX11_init_1 (Nat.le_of_ble_eq_true rfl) (Nat.le_of_ble_eq_true rfl) (by decide) ?_
  refine w_aload_n dX11_init_4 rfl 0 rfl ?_
  refine w_bipush dX11_init_5 (by decide) ?_
  refine w_newI (n := 49) (by omega) (by omega) (List.mem_of_getElem? (i := 4) rfl) (Nat.le_of_ble_eq_true rfl) (Nat.le_of_ble_eq_true rfl) dX11_init_7 (fun g_1 he_2 hn_3 => ?_)
  have h0_4 : nO11 cy B g_1 141 (.null) (.null) (.null) (.int (zI 0)) (.null) (.int (zI 0)) (.null) (.int (zI 0)) (.int (zI 0)) (.null) (.int (zI 0)) (.int (zI 0)) (.long (zJ 0)) (.long (zJ 0)) (.long (zJ 0)) (.int (zI 0)) (.int (zI 0)) (.int (zI 0)) (.long (zJ 0)) (.null) (.int (zI 0)) (.null) (.null) (.null) (.null) (.null) (.null) (.null) (.null) (.null) (.null) (.null) := nO11_fr h0 (fun q h1 h2 => hn_3 q (by omega))
  have hfr_5 : ∀ q, q < 141 → g_1 q = g q := fun q hq => (hn_3 q (by omega)).trans (hfr_0 q hq)
  have a1_6 : vIA cy B g_1 142 49 (fun _ => 0) := he_2
  refine w_putF (i := 0) (T := TX11) (NF := 32) 141 (by first | omega | with_reducible rfl) h0_4 rfl (fun _ h => (List.mem_cons_of_mem _ (List.mem_append_right _ h))) tyX11 tyX11_ok nmX11 (by decide) (List.mem_of_getElem? (i := 5) rfl) rfl hmn rfl rfl rfl (Nat.le_of_ble_eq_true rfl) dX11_init_9 (fun g_7 he_8 hn_9 => ?_)
  have h0_10 : nO11 cy B g_7 141 (.ref (B + 142)) (.null) (.null) (.int (zI 0)) (.null) (.int (zI 0)) (.null) (.int (zI 0)) (.int (zI 0)) (.null) (.int (zI 0)) (.int (zI 0)) (.long (zJ 0)) (.long (zJ 0)) (.long (zJ 0)) (.int (zI 0)) (.int (zI 0)) (.int (zI 0)) (.long (zJ 0)) (.null) (.int (zI 0)) (.null) (.null) (.null) (.null) (.null) (.null) (.null) (.null) (.null) (.null) (.null) := he_8
  have a1_11 : vIA cy B g_7 142 49 (fun _ => 0) := vIA_fr a1_6 (fun q h1 h2 => hn_9 q (by omega))
  have hfr_12 : ∀ q, q < 141 → g_7 q = g q := fun q hq => (hn_9 q (by omega)).trans (hfr_5 q hq)
  refine w_aload_n dX11_init_12 rfl 0 rfl ?_
  refine w_bipush dX11_init_13 (by decide) ?_
  refine w_newI (n := 49) (by omega) (by omega) (List.mem_of_getElem? (i := 4) rfl) (Nat.le_of_ble_eq_true rfl) (Nat.le_of_ble_eq_true rfl) dX11_init_15 (fun g_13 he_14 hn_15 => ?_)
  have h0_16 : nO11 cy B g_13 141 (.ref (B + 142)) (.null) (.null) (.int (zI 0)) (.null) (.int (zI 0)) (.null) (.int (zI 0)) (.int (zI 0)) (.null) (.int (zI 0)) (.int (zI 0)) (.long (zJ 0)) (.long (zJ 0)) (.long (zJ 0)) (.int (zI 0)) (.int (zI 0)) (.int (zI 0)) (.long (zJ 0)) (.null) (.int (zI 0)) (.null) (.null) (.null) (.null) (.null) (.null) (.null) (.null) (.null) (.null) (.null) := nO11_fr h0_10 (fun q h1 h2 => hn_15 q (by omega))
  have a1_17 : vIA cy B g_13 142 49 (fun _ => 0) := vIA_fr a1_11 (fun q h1 h2 => hn_15 q (by omega))
  have hfr_18 : ∀ q, q < 141 → g_13 q = g q := fun q hq => (hn_15 q (by omega)).trans (hfr_12 q hq)
  have a2_19 : vIA cy B g_13 143 49 (fun _ => 0) := he_14
  refine w_putF (i := 1) (T := TX11) (NF := 32) 141 (by first | omega | with_reducible rfl) h0_16 rfl (fun _ h => (List.mem_cons_of_mem _ (List.mem_append_right _ h))) tyX11 tyX11_ok nmX11 (by decide) (List.mem_of_getElem? (i := 6) rfl) rfl hmn rfl rfl rfl (Nat.le_of_ble_eq_true rfl) dX11_init_17 (fun g_20 he_21 hn_22 => ?_)
  have h0_23 : nO11 cy B g_20 141 (.ref (B + 142)) (.ref (B + 143)) (.null) (.int (zI 0)) (.null) (.int (zI 0)) (.null) (.int (zI 0)) (.int (zI 0)) (.null) (.int (zI 0)) (.int (zI 0)) (.long (zJ 0)) (.long (zJ 0)) (.long (zJ 0)) (.int (zI 0)) (.int (zI 0)) (.int (zI 0)) (.long (zJ 0)) (.null) (.int (zI 0)) (.null) (.null) (.null) (.null) (.null) (.null) (.null) (.null) (.null) (.null) (.null) := he_21
  have a1_24 : vIA cy B g_20 142 49 (fun _ => 0) := vIA_fr a1_17 (fun q h1 h2 => hn_22 q (by omega))
  have a2_25 : vIA cy B g_20 143 49 (fun _ => 0) := vIA_fr a2_19 (fun q h1 h2 => hn_22 q (by omega))
  have hfr_26 : ∀ q, q < 141 → g_20 q = g q := fun q hq => (hn_22 q (by omega)).trans (hfr_18 q hq)
  refine w_aload_n dX11_init_20 rfl 0 rfl ?_
  refine w_sipush dX11_init_21 (by decide) ?_
  refine w_newI (n := 294) (by omega) (by omega) (List.mem_of_getElem? (i := 4) rfl) (Nat.le_of_ble_eq_true rfl) (Nat.le_of_ble_eq_true rfl) dX11_init_24 (fun g_27 he_28 hn_29 => ?_)
  have h0_30 : nO11 cy B g_27 141 (.ref (B + 142)) (.ref (B + 143)) (.null) (.int (zI 0)) (.null) (.int (zI 0)) (.null) (.int (zI 0)) (.int (zI 0)) (.null) (.int (zI 0)) (.int (zI 0)) (.long (zJ 0)) (.long (zJ 0)) (.long (zJ 0)) (.int (zI 0)) (.int (zI 0)) (.int (zI 0)) (.long (zJ 0)) (.null) (.int (zI 0)) (.null) (.null) (.null) (.null) (.null) (.null) (.null) (.null) (.null) (.null) (.null) := nO11_fr h0_23 (fun q h1 h2 => hn_29 q (by omega))
  have a1_31 : vIA cy B g_27 142 49 (fun _ => 0) := vIA_fr a1_24 (fun q h1 h2 => hn_29 q (by omega))
  have a2_32 : vIA cy B g_27 143 49 (fun _ => 0) := vIA_fr a2_25 (fun q h1 h2 => hn_29 q (by omega))
  have hfr_33 : ∀ q, q < 141 → g_27 q = g q := fun q hq => (hn_29 q (by omega)).trans (hfr_26 q hq)
  have a3_34 : vIA cy B g_27 144 294 (fun _ => 0) := he_28
  refine w_putF (i := 2) (T := TX11) (NF := 32) 141 (by first | omega | with_reducible rfl) h0_30 rfl (fun _ h => (List.mem_cons_of_mem _ (List.mem_append_right _ h))) tyX11 tyX11_ok nmX11 (by decide) (List.mem_of_getElem? (i := 7) rfl) rfl hmn rfl rfl rfl (Nat.le_of_ble_eq_true rfl) dX11_init_26 (fun g_35 he_36 hn_37 => ?_)
  have h0_38 : nO11 cy B g_35 141 (.ref (B + 142)) (.ref (B + 143)) (.ref (B + 144)) (.int (zI 0)) (.null) (.int (zI 0)) (.null) (.int (zI 0)) (.int (zI 0)) (.null) (.int (zI 0)) (.int (zI 0)) (.long (zJ 0)) (.long (zJ 0)) (.long (zJ 0)) (.int (zI 0)) (.int (zI 0)) (.int (zI 0)) (.long (zJ 0)) (.null) (.int (zI 0)) (.null) (.null) (.null) (.null) (.null) (.null) (.null) (.null) (.null) (.null) (.null) := he_36
  have a1_39 : vIA cy B g_35 142 49 (fun _ => 0) := vIA_fr a1_31 (fun q h1 h2 => hn_37 q (by omega))
  have a2_40 : vIA cy B g_35 143 49 (fun _ => 0) := vIA_fr a2_32 (fun q h1 h2 => hn_37 q (by omega))
  have a3_41 : vIA cy B g_35 144 294 (fun _ => 0) := vIA_fr a3_34 (fun q h1 h2 => hn_37 q (by omega))
  have hfr_42 : ∀ q, q < 141 → g_35 q = g q := fun q hq => (hn_37 q (by omega)).trans (hfr_33 q hq)
  refine w_aload_n dX11_init_29 rfl 0 rfl ?_
  refine w_sipush dX11_init_30 (by decide) ?_
  refine w_newI (n := 200) (by omega) (by omega) (List.mem_of_getElem? (i := 4) rfl) (Nat.le_of_ble_eq_true rfl) (Nat.le_of_ble_eq_true rfl) dX11_init_33 (fun g_43 he_44 hn_45 => ?_)
  have h0_46 : nO11 cy B g_43 141 (.ref (B + 142)) (.ref (B + 143)) (.ref (B + 144)) (.int (zI 0)) (.null) (.int (zI 0)) (.null) (.int (zI 0)) (.int (zI 0)) (.null) (.int (zI 0)) (.int (zI 0)) (.long (zJ 0)) (.long (zJ 0)) (.long (zJ 0)) (.int (zI 0)) (.int (zI 0)) (.int (zI 0)) (.long (zJ 0)) (.null) (.int (zI 0)) (.null) (.null) (.null) (.null) (.null) (.null) (.null) (.null) (.null) (.null) (.null) := nO11_fr h0_38 (fun q h1 h2 => hn_45 q (by omega))
  have a1_47 : vIA cy B g_43 142 49 (fun _ => 0) := vIA_fr a1_39 (fun q h1 h2 => hn_45 q (by omega))
  have a2_48 : vIA cy B g_43 143 49 (fun _ => 0) := vIA_fr a2_40 (fun q h1 h2 => hn_45 q (by omega))
  have a3_49 : vIA cy B g_43 144 294 (fun _ => 0) := vIA_fr a3_41 (fun q h1 h2 => hn_45 q (by omega))
  have hfr_50 : ∀ q, q < 141 → g_43 q = g q := fun q hq => (hn_45 q (by omega)).trans (hfr_42 q hq)
  have a4_51 : vIA cy B g_43 145 200 (fun _ => 0) := he_44
  refine w_putF (i := 4) (T := TX11) (NF := 32) 141 (by first | omega | with_reducible rfl) h0_46 rfl (fun _ h => (List.mem_cons_of_mem _ (List.mem_append_right _ h))) tyX11 tyX11_ok nmX11 (by decide) (List.mem_of_getElem? (i := 8) rfl) rfl hmn rfl rfl rfl (Nat.le_of_ble_eq_true rfl) dX11_init_35 (fun g_52 he_53 hn_54 => ?_)
  have h0_55 : nO11 cy B g_52 141 (.ref (B + 142)) (.ref (B + 143)) (.ref (B + 144)) (.int (zI 0)) (.ref (B + 145)) (.int (zI 0)) (.null) (.int (zI 0)) (.int (zI 0)) (.null) (.int (zI 0)) (.int (zI 0)) (.long (zJ 0)) (.long (zJ 0)) (.long (zJ 0)) (.int (zI 0)) (.int (zI 0)) (.int (zI 0)) (.long (zJ 0)) (.null) (.int (zI 0)) (.null) (.null) (.null) (.null) (.null) (.null) (.null) (.null) (.null) (.null) (.null) := he_53
  have a1_56 : vIA cy B g_52 142 49 (fun _ => 0) := vIA_fr a1_47 (fun q h1 h2 => hn_54 q (by omega))
  have a2_57 : vIA cy B g_52 143 49 (fun _ => 0) := vIA_fr a2_48 (fun q h1 h2 => hn_54 q (by omega))
  have a3_58 : vIA cy B g_52 144 294 (fun _ => 0) := vIA_fr a3_49 (fun q h1 h2 => hn_54 q (by omega))
  have a4_59 : vIA cy B g_52 145 200 (fun _ => 0) := vIA_fr a4_51 (fun q h1 h2 => hn_54 q (by omega))
  have hfr_60 : ∀ q, q < 141 → g_52 q = g q := fun q hq => (hn_54 q (by omega)).trans (hfr_50 q hq)
  refine w_aload_n dX11_init_38 rfl 0 rfl ?_
  refine w_sipush dX11_init_39 (by decide) ?_
  refine w_newJ (n := 169) (by omega) (by omega) (List.mem_of_getElem? (i := 9) rfl) (Nat.le_of_ble_eq_true rfl) (Nat.le_of_ble_eq_true rfl) dX11_init_42 (fun g_61 he_62 hn_63 => ?_)
  have h0_64 : nO11 cy B g_61 141 (.ref (B + 142)) (.ref (B + 143)) (.ref (B + 144)) (.int (zI 0)) (.ref (B + 145)) (.int (zI 0)) (.null) (.int (zI 0)) (.int (zI 0)) (.null) (.int (zI 0)) (.int (zI 0)) (.long (zJ 0)) (.long (zJ 0)) (.long (zJ 0)) (.int (zI 0)) (.int (zI 0)) (.int (zI 0)) (.long (zJ 0)) (.null) (.int (zI 0)) (.null) (.null) (.null) (.null) (.null) (.null) (.null) (.null) (.null) (.null) (.null) := nO11_fr h0_55 (fun q h1 h2 => hn_63 q (by omega))
  have a1_65 : vIA cy B g_61 142 49 (fun _ => 0) := vIA_fr a1_56 (fun q h1 h2 => hn_63 q (by omega))
  have a2_66 : vIA cy B g_61 143 49 (fun _ => 0) := vIA_fr a2_57 (fun q h1 h2 => hn_63 q (by omega))
  have a3_67 : vIA cy B g_61 144 294 (fun _ => 0) := vIA_fr a3_58 (fun q h1 h2 => hn_63 q (by omega))
  have a4_68 : vIA cy B g_61 145 200 (fun _ => 0) := vIA_fr a4_59 (fun q h1 h2 => hn_63 q (by omega))
  have hfr_69 : ∀ q, q < 141 → g_61 q = g q := fun q hq => (hn_63 q (by omega)).trans (hfr_60 q hq)
  have a5_70 : vLA cy B g_61 146 169 (fun _ => 0) := he_62
  refine w_putF (i := 6) (T := TX11) (NF := 32) 141 (by first | omega | with_reducible rfl) h0_64 rfl (fun _ h => (List.mem_cons_of_mem _ (List.mem_append_right _ h))) tyX11 tyX11_ok nmX11 (by decide) (List.mem_of_getElem? (i := 10) rfl) rfl hmn rfl rfl rfl (Nat.le_of_ble_eq_true rfl) dX11_init_44 (fun g_71 he_72 hn_73 => ?_)
  have h0_74 : nO11 cy B g_71 141 (.ref (B + 142)) (.ref (B + 143)) (.ref (B + 144)) (.int (zI 0)) (.ref (B + 145)) (.int (zI 0)) (.ref (B + 146)) (.int (zI 0)) (.int (zI 0)) (.null) (.int (zI 0)) (.int (zI 0)) (.long (zJ 0)) (.long (zJ 0)) (.long (zJ 0)) (.int (zI 0)) (.int (zI 0)) (.int (zI 0)) (.long (zJ 0)) (.null) (.int (zI 0)) (.null) (.null) (.null) (.null) (.null) (.null) (.null) (.null) (.null) (.null) (.null) := he_72
  have a1_75 : vIA cy B g_71 142 49 (fun _ => 0) := vIA_fr a1_65 (fun q h1 h2 => hn_73 q (by omega))
  have a2_76 : vIA cy B g_71 143 49 (fun _ => 0) := vIA_fr a2_66 (fun q h1 h2 => hn_73 q (by omega))
  have a3_77 : vIA cy B g_71 144 294 (fun _ => 0) := vIA_fr a3_67 (fun q h1 h2 => hn_73 q (by omega))
  have a4_78 : vIA cy B g_71 145 200 (fun _ => 0) := vIA_fr a4_68 (fun q h1 h2 => hn_73 q (by omega))
  have a5_79 : vLA cy B g_71 146 169 (fun _ => 0) := vLA_fr a5_70 (fun q h1 h2 => hn_73 q (by omega))
  have hfr_80 : ∀ q, q < 141 → g_71 q = g q := fun q hq => (hn_73 q (by omega)).trans (hfr_69 q hq)
  refine w_aload_n dX11_init_47 rfl 0 rfl ?_
  refine w_iconst dX11_init_48 ?_
  refine w_newI (n := 5) (by omega) (by omega) (List.mem_of_getElem? (i := 4) rfl) (Nat.le_of_ble_eq_true rfl) (Nat.le_of_ble_eq_true rfl) dX11_init_49 (fun g_81 he_82 hn_83 => ?_)
  have h0_84 : nO11 cy B g_81 141 (.ref (B + 142)) (.ref (B + 143)) (.ref (B + 144)) (.int (zI 0)) (.ref (B + 145)) (.int (zI 0)) (.ref (B + 146)) (.int (zI 0)) (.int (zI 0)) (.null) (.int (zI 0)) (.int (zI 0)) (.long (zJ 0)) (.long (zJ 0)) (.long (zJ 0)) (.int (zI 0)) (.int (zI 0)) (.int (zI 0)) (.long (zJ 0)) (.null) (.int (zI 0)) (.null) (.null) (.null) (.null) (.null) (.null) (.null) (.null) (.null) (.null) (.null) := nO11_fr h0_74 (fun q h1 h2 => hn_83 q (by omega))
  have a1_85 : vIA cy B g_81 142 49 (fun _ => 0) := vIA_fr a1_75 (fun q h1 h2 => hn_83 q (by omega))
  have a2_86 : vIA cy B g_81 143 49 (fun _ => 0) := vIA_fr a2_76 (fun q h1 h2 => hn_83 q (by omega))
  have a3_87 : vIA cy B g_81 144 294 (fun _ => 0) := vIA_fr a3_77 (fun q h1 h2 => hn_83 q (by omega))
  have a4_88 : vIA cy B g_81 145 200 (fun _ => 0) := vIA_fr a4_78 (fun q h1 h2 => hn_83 q (by omega))
  have a5_89 : vLA cy B g_81 146 169 (fun _ => 0) := vLA_fr a5_79 (fun q h1 h2 => hn_83 q (by omega))
  have hfr_90 : ∀ q, q < 141 → g_81 q = g q := fun q hq => (hn_83 q (by omega)).trans (hfr_80 q hq)
  have a6_91 : vIA cy B g_81 147 5 (fun _ => 0) := he_82
  refine w_putF (i := 9) (T := TX11) (NF := 32) 141 (by first | omega | with_reducible rfl) h0_84 rfl (fun _ h => (List.mem_cons_of_mem _ (List.mem_append_right _ h))) tyX11 tyX11_ok nmX11 (by decide) (List.mem_of_getElem? (i := 11) rfl) rfl hmn rfl rfl rfl (Nat.le_of_ble_eq_true rfl) dX11_init_51 (fun g_92 he_93 hn_94 => ?_)
  have h0_95 : nO11 cy B g_92 141 (.ref (B + 142)) (.ref (B + 143)) (.ref (B + 144)) (.int (zI 0)) (.ref (B + 145)) (.int (zI 0)) (.ref (B + 146)) (.int (zI 0)) (.int (zI 0)) (.ref (B + 147)) (.int (zI 0)) (.int (zI 0)) (.long (zJ 0)) (.long (zJ 0)) (.long (zJ 0)) (.int (zI 0)) (.int (zI 0)) (.int (zI 0)) (.long (zJ 0)) (.null) (.int (zI 0)) (.null) (.null) (.null) (.null) (.null) (.null) (.null) (.null) (.null) (.null) (.null) := he_93
  have a1_96 : vIA cy B g_92 142 49 (fun _ => 0) := vIA_fr a1_85 (fun q h1 h2 => hn_94 q (by omega))
  have a2_97 : vIA cy B g_92 143 49 (fun _ => 0) := vIA_fr a2_86 (fun q h1 h2 => hn_94 q (by omega))
  have a3_98 : vIA cy B g_92 144 294 (fun _ => 0) := vIA_fr a3_87 (fun q h1 h2 => hn_94 q (by omega))
  have a4_99 : vIA cy B g_92 145 200 (fun _ => 0) := vIA_fr a4_88 (fun q h1 h2 => hn_94 q (by omega))
  have a5_100 : vLA cy B g_92 146 169 (fun _ => 0) := vLA_fr a5_89 (fun q h1 h2 => hn_94 q (by omega))
  have a6_101 : vIA cy B g_92 147 5 (fun _ => 0) := vIA_fr a6_91 (fun q h1 h2 => hn_94 q (by omega))
  have hfr_102 : ∀ q, q < 141 → g_92 q = g q := fun q hq => (hn_94 q (by omega)).trans (hfr_90 q hq)
  refine w_aload_n dX11_init_54 rfl 0 rfl ?_
  refine w_iconst dX11_init_55 ?_
  refine w_newI (n := 5) (by omega) (by omega) (List.mem_of_getElem? (i := 4) rfl) (Nat.le_of_ble_eq_true rfl) (Nat.le_of_ble_eq_true rfl) dX11_init_56 (fun g_103 he_104 hn_105 => ?_)
  have h0_106 : nO11 cy B g_103 141 (.ref (B + 142)) (.ref (B + 143)) (.ref (B + 144)) (.int (zI 0)) (.ref (B + 145)) (.int (zI 0)) (.ref (B + 146)) (.int (zI 0)) (.int (zI 0)) (.ref (B + 147)) (.int (zI 0)) (.int (zI 0)) (.long (zJ 0)) (.long (zJ 0)) (.long (zJ 0)) (.int (zI 0)) (.int (zI 0)) (.int (zI 0)) (.long (zJ 0)) (.null) (.int (zI 0)) (.null) (.null) (.null) (.null) (.null) (.null) (.null) (.null) (.null) (.null) (.null) := nO11_fr h0_95 (fun q h1 h2 => hn_105 q (by omega))
  have a1_107 : vIA cy B g_103 142 49 (fun _ => 0) := vIA_fr a1_96 (fun q h1 h2 => hn_105 q (by omega))
  have a2_108 : vIA cy B g_103 143 49 (fun _ => 0) := vIA_fr a2_97 (fun q h1 h2 => hn_105 q (by omega))
  have a3_109 : vIA cy B g_103 144 294 (fun _ => 0) := vIA_fr a3_98 (fun q h1 h2 => hn_105 q (by omega))
  have a4_110 : vIA cy B g_103 145 200 (fun _ => 0) := vIA_fr a4_99 (fun q h1 h2 => hn_105 q (by omega))
  have a5_111 : vLA cy B g_103 146 169 (fun _ => 0) := vLA_fr a5_100 (fun q h1 h2 => hn_105 q (by omega))
  have a6_112 : vIA cy B g_103 147 5 (fun _ => 0) := vIA_fr a6_101 (fun q h1 h2 => hn_105 q (by omega))
  have hfr_113 : ∀ q, q < 141 → g_103 q = g q := fun q hq => (hn_105 q (by omega)).trans (hfr_102 q hq)
  have a7_114 : vIA cy B g_103 148 5 (fun _ => 0) := he_104
  refine w_putF (i := 19) (T := TX11) (NF := 32) 141 (by first | omega | with_reducible rfl) h0_106 rfl (fun _ h => (List.mem_cons_of_mem _ (List.mem_append_right _ h))) tyX11 tyX11_ok nmX11 (by decide) (List.mem_of_getElem? (i := 12) rfl) rfl hmn rfl rfl rfl (Nat.le_of_ble_eq_true rfl) dX11_init_58 (fun g_115 he_116 hn_117 => ?_)
  have h0_118 : nO11 cy B g_115 141 (.ref (B + 142)) (.ref (B + 143)) (.ref (B + 144)) (.int (zI 0)) (.ref (B + 145)) (.int (zI 0)) (.ref (B + 146)) (.int (zI 0)) (.int (zI 0)) (.ref (B + 147)) (.int (zI 0)) (.int (zI 0)) (.long (zJ 0)) (.long (zJ 0)) (.long (zJ 0)) (.int (zI 0)) (.int (zI 0)) (.int (zI 0)) (.long (zJ 0)) (.ref (B + 148)) (.int (zI 0)) (.null) (.null) (.null) (.null) (.null) (.null) (.null) (.null) (.null) (.null) (.null) := he_116
  have a1_119 : vIA cy B g_115 142 49 (fun _ => 0) := vIA_fr a1_107 (fun q h1 h2 => hn_117 q (by omega))
  have a2_120 : vIA cy B g_115 143 49 (fun _ => 0) := vIA_fr a2_108 (fun q h1 h2 => hn_117 q (by omega))
  have a3_121 : vIA cy B g_115 144 294 (fun _ => 0) := vIA_fr a3_109 (fun q h1 h2 => hn_117 q (by omega))
  have a4_122 : vIA cy B g_115 145 200 (fun _ => 0) := vIA_fr a4_110 (fun q h1 h2 => hn_117 q (by omega))
  have a5_123 : vLA cy B g_115 146 169 (fun _ => 0) := vLA_fr a5_111 (fun q h1 h2 => hn_117 q (by omega))
  have a6_124 : vIA cy B g_115 147 5 (fun _ => 0) := vIA_fr a6_112 (fun q h1 h2 => hn_117 q (by omega))
  have a7_125 : vIA cy B g_115 148 5 (fun _ => 0) := vIA_fr a7_114 (fun q h1 h2 => hn_117 q (by omega))
  have hfr_126 : ∀ q, q < 141 → g_115 q = g q := fun q hq => (hn_117 q (by omega)).trans (hfr_113 q hq)
  refine w_aload_n dX11_init_61 rfl 0 rfl ?_
  refine w_sipush dX11_init_62 (by decide) ?_
  refine w_newJ (n := 541) (by omega) (by omega) (List.mem_of_getElem? (i := 9) rfl) (Nat.le_of_ble_eq_true rfl) (Nat.le_of_ble_eq_true rfl) dX11_init_65 (fun g_127 he_128 hn_129 => ?_)
  have h0_130 : nO11 cy B g_127 141 (.ref (B + 142)) (.ref (B + 143)) (.ref (B + 144)) (.int (zI 0)) (.ref (B + 145)) (.int (zI 0)) (.ref (B + 146)) (.int (zI 0)) (.int (zI 0)) (.ref (B + 147)) (.int (zI 0)) (.int (zI 0)) (.long (zJ 0)) (.long (zJ 0)) (.long (zJ 0)) (.int (zI 0)) (.int (zI 0)) (.int (zI 0)) (.long (zJ 0)) (.ref (B + 148)) (.int (zI 0)) (.null) (.null) (.null) (.null) (.null) (.null) (.null) (.null) (.null) (.null) (.null) := nO11_fr h0_118 (fun q h1 h2 => hn_129 q (by omega))
  have a1_131 : vIA cy B g_127 142 49 (fun _ => 0) := vIA_fr a1_119 (fun q h1 h2 => hn_129 q (by omega))
  have a2_132 : vIA cy B g_127 143 49 (fun _ => 0) := vIA_fr a2_120 (fun q h1 h2 => hn_129 q (by omega))
  have a3_133 : vIA cy B g_127 144 294 (fun _ => 0) := vIA_fr a3_121 (fun q h1 h2 => hn_129 q (by omega))
  have a4_134 : vIA cy B g_127 145 200 (fun _ => 0) := vIA_fr a4_122 (fun q h1 h2 => hn_129 q (by omega))
  have a5_135 : vLA cy B g_127 146 169 (fun _ => 0) := vLA_fr a5_123 (fun q h1 h2 => hn_129 q (by omega))
  have a6_136 : vIA cy B g_127 147 5 (fun _ => 0) := vIA_fr a6_124 (fun q h1 h2 => hn_129 q (by omega))
  have a7_137 : vIA cy B g_127 148 5 (fun _ => 0) := vIA_fr a7_125 (fun q h1 h2 => hn_129 q (by omega))
  have hfr_138 : ∀ q, q < 141 → g_127 q = g q := fun q hq => (hn_129 q (by omega)).trans (hfr_126 q hq)
  have a8_139 : vLA cy B g_127 149 541 (fun _ => 0) := he_128
  refine w_putF (i := 21) (T := TX11) (NF := 32) 141 (by first | omega | with_reducible rfl) h0_130 rfl (fun _ h => (List.mem_cons_of_mem _ (List.mem_append_right _ h))) tyX11 tyX11_ok nmX11 (by decide) (List.mem_of_getElem? (i := 13) rfl) rfl hmn rfl rfl rfl (Nat.le_of_ble_eq_true rfl) dX11_init_67 (fun g_140 he_141 hn_142 => ?_)
  have h0_143 : nO11 cy B g_140 141 (.ref (B + 142)) (.ref (B + 143)) (.ref (B + 144)) (.int (zI 0)) (.ref (B + 145)) (.int (zI 0)) (.ref (B + 146)) (.int (zI 0)) (.int (zI 0)) (.ref (B + 147)) (.int (zI 0)) (.int (zI 0)) (.long (zJ 0)) (.long (zJ 0)) (.long (zJ 0)) (.int (zI 0)) (.int (zI 0)) (.int (zI 0)) (.long (zJ 0)) (.ref (B + 148)) (.int (zI 0)) (.ref (B + 149)) (.null) (.null) (.null) (.null) (.null) (.null) (.null) (.null) (.null) (.null) := he_141
  have a1_144 : vIA cy B g_140 142 49 (fun _ => 0) := vIA_fr a1_131 (fun q h1 h2 => hn_142 q (by omega))
  have a2_145 : vIA cy B g_140 143 49 (fun _ => 0) := vIA_fr a2_132 (fun q h1 h2 => hn_142 q (by omega))
  have a3_146 : vIA cy B g_140 144 294 (fun _ => 0) := vIA_fr a3_133 (fun q h1 h2 => hn_142 q (by omega))
  have a4_147 : vIA cy B g_140 145 200 (fun _ => 0) := vIA_fr a4_134 (fun q h1 h2 => hn_142 q (by omega))
  have a5_148 : vLA cy B g_140 146 169 (fun _ => 0) := vLA_fr a5_135 (fun q h1 h2 => hn_142 q (by omega))
  have a6_149 : vIA cy B g_140 147 5 (fun _ => 0) := vIA_fr a6_136 (fun q h1 h2 => hn_142 q (by omega))
  have a7_150 : vIA cy B g_140 148 5 (fun _ => 0) := vIA_fr a7_137 (fun q h1 h2 => hn_142 q (by omega))
  have a8_151 : vLA cy B g_140 149 541 (fun _ => 0) := vLA_fr a8_139 (fun q h1 h2 => hn_142 q (by omega))
  have hfr_152 : ∀ q, q < 141 → g_140 q = g q := fun q hq => (hn_142 q (by omega)).trans (hfr_138 q hq)
  refine w_aload_n dX11_init_70 rfl 0 rfl ?_
  refine w_sipush dX11_init_71 (by decide) ?_
  refine w_newJ (n := 1621) (by omega) (by omega) (List.mem_of_getElem? (i := 9) rfl) (Nat.le_of_ble_eq_true rfl) (Nat.le_of_ble_eq_true rfl) dX11_init_74 (fun g_153 he_154 hn_155 => ?_)
  have h0_156 : nO11 cy B g_153 141 (.ref (B + 142)) (.ref (B + 143)) (.ref (B + 144)) (.int (zI 0)) (.ref (B + 145)) (.int (zI 0)) (.ref (B + 146)) (.int (zI 0)) (.int (zI 0)) (.ref (B + 147)) (.int (zI 0)) (.int (zI 0)) (.long (zJ 0)) (.long (zJ 0)) (.long (zJ 0)) (.int (zI 0)) (.int (zI 0)) (.int (zI 0)) (.long (zJ 0)) (.ref (B + 148)) (.int (zI 0)) (.ref (B + 149)) (.null) (.null) (.null) (.null) (.null) (.null) (.null) (.null) (.null) (.null) := nO11_fr h0_143 (fun q h1 h2 => hn_155 q (by omega))
  have a1_157 : vIA cy B g_153 142 49 (fun _ => 0) := vIA_fr a1_144 (fun q h1 h2 => hn_155 q (by omega))
  have a2_158 : vIA cy B g_153 143 49 (fun _ => 0) := vIA_fr a2_145 (fun q h1 h2 => hn_155 q (by omega))
  have a3_159 : vIA cy B g_153 144 294 (fun _ => 0) := vIA_fr a3_146 (fun q h1 h2 => hn_155 q (by omega))
  have a4_160 : vIA cy B g_153 145 200 (fun _ => 0) := vIA_fr a4_147 (fun q h1 h2 => hn_155 q (by omega))
  have a5_161 : vLA cy B g_153 146 169 (fun _ => 0) := vLA_fr a5_148 (fun q h1 h2 => hn_155 q (by omega))
  have a6_162 : vIA cy B g_153 147 5 (fun _ => 0) := vIA_fr a6_149 (fun q h1 h2 => hn_155 q (by omega))
  have a7_163 : vIA cy B g_153 148 5 (fun _ => 0) := vIA_fr a7_150 (fun q h1 h2 => hn_155 q (by omega))
  have a8_164 : vLA cy B g_153 149 541 (fun _ => 0) := vLA_fr a8_151 (fun q h1 h2 => hn_155 q (by omega))
  have hfr_165 : ∀ q, q < 141 → g_153 q = g q := fun q hq => (hn_155 q (by omega)).trans (hfr_152 q hq)
  have a9_166 : vLA cy B g_153 150 1621 (fun _ => 0) := he_154
  refine w_putF (i := 22) (T := TX11) (NF := 32) 141 (by first | omega | with_reducible rfl) h0_156 rfl (fun _ h => (List.mem_cons_of_mem _ (List.mem_append_right _ h))) tyX11 tyX11_ok nmX11 (by decide) (List.mem_of_getElem? (i := 14) rfl) rfl hmn rfl rfl rfl (Nat.le_of_ble_eq_true rfl) dX11_init_76 (fun g_167 he_168 hn_169 => ?_)
  have h0_170 : nO11 cy B g_167 141 (.ref (B + 142)) (.ref (B + 143)) (.ref (B + 144)) (.int (zI 0)) (.ref (B + 145)) (.int (zI 0)) (.ref (B + 146)) (.int (zI 0)) (.int (zI 0)) (.ref (B + 147)) (.int (zI 0)) (.int (zI 0)) (.long (zJ 0)) (.long (zJ 0)) (.long (zJ 0)) (.int (zI 0)) (.int (zI 0)) (.int (zI 0)) (.long (zJ 0)) (.ref (B + 148)) (.int (zI 0)) (.ref (B + 149)) (.ref (B + 150)) (.null) (.null) (.null) (.null) (.null) (.null) (.null) (.null) (.null) := he_168
  have a1_171 : vIA cy B g_167 142 49 (fun _ => 0) := vIA_fr a1_157 (fun q h1 h2 => hn_169 q (by omega))
  have a2_172 : vIA cy B g_167 143 49 (fun _ => 0) := vIA_fr a2_158 (fun q h1 h2 => hn_169 q (by omega))
  have a3_173 : vIA cy B g_167 144 294 (fun _ => 0) := vIA_fr a3_159 (fun q h1 h2 => hn_169 q (by omega))
  have a4_174 : vIA cy B g_167 145 200 (fun _ => 0) := vIA_fr a4_160 (fun q h1 h2 => hn_169 q (by omega))
  have a5_175 : vLA cy B g_167 146 169 (fun _ => 0) := vLA_fr a5_161 (fun q h1 h2 => hn_169 q (by omega))
  have a6_176 : vIA cy B g_167 147 5 (fun _ => 0) := vIA_fr a6_162 (fun q h1 h2 => hn_169 q (by omega))
  have a7_177 : vIA cy B g_167 148 5 (fun _ => 0) := vIA_fr a7_163 (fun q h1 h2 => hn_169 q (by omega))
  have a8_178 : vLA cy B g_167 149 541 (fun _ => 0) := vLA_fr a8_164 (fun q h1 h2 => hn_169 q (by omega))
  have a9_179 : vLA cy B g_167 150 1621 (fun _ => 0) := vLA_fr a9_166 (fun q h1 h2 => hn_169 q (by omega))
  have hfr_180 : ∀ q, q < 141 → g_167 q = g q := fun q hq => (hn_169 q (by omega)).trans (hfr_165 q hq)
  refine w_aload_n dX11_init_79 rfl 0 rfl ?_
  refine w_sipush dX11_init_80 (by decide) ?_
  refine w_newJ (n := 1621) (by omega) (by omega) (List.mem_of_getElem? (i := 9) rfl) (Nat.le_of_ble_eq_true rfl) (Nat.le_of_ble_eq_true rfl) dX11_init_83 (fun g_181 he_182 hn_183 => ?_)
  have h0_184 : nO11 cy B g_181 141 (.ref (B + 142)) (.ref (B + 143)) (.ref (B + 144)) (.int (zI 0)) (.ref (B + 145)) (.int (zI 0)) (.ref (B + 146)) (.int (zI 0)) (.int (zI 0)) (.ref (B + 147)) (.int (zI 0)) (.int (zI 0)) (.long (zJ 0)) (.long (zJ 0)) (.long (zJ 0)) (.int (zI 0)) (.int (zI 0)) (.int (zI 0)) (.long (zJ 0)) (.ref (B + 148)) (.int (zI 0)) (.ref (B + 149)) (.ref (B + 150)) (.null) (.null) (.null) (.null) (.null) (.null) (.null) (.null) (.null) := nO11_fr h0_170 (fun q h1 h2 => hn_183 q (by omega))
  have a1_185 : vIA cy B g_181 142 49 (fun _ => 0) := vIA_fr a1_171 (fun q h1 h2 => hn_183 q (by omega))
  have a2_186 : vIA cy B g_181 143 49 (fun _ => 0) := vIA_fr a2_172 (fun q h1 h2 => hn_183 q (by omega))
  have a3_187 : vIA cy B g_181 144 294 (fun _ => 0) := vIA_fr a3_173 (fun q h1 h2 => hn_183 q (by omega))
  have a4_188 : vIA cy B g_181 145 200 (fun _ => 0) := vIA_fr a4_174 (fun q h1 h2 => hn_183 q (by omega))
  have a5_189 : vLA cy B g_181 146 169 (fun _ => 0) := vLA_fr a5_175 (fun q h1 h2 => hn_183 q (by omega))
  have a6_190 : vIA cy B g_181 147 5 (fun _ => 0) := vIA_fr a6_176 (fun q h1 h2 => hn_183 q (by omega))
  have a7_191 : vIA cy B g_181 148 5 (fun _ => 0) := vIA_fr a7_177 (fun q h1 h2 => hn_183 q (by omega))
  have a8_192 : vLA cy B g_181 149 541 (fun _ => 0) := vLA_fr a8_178 (fun q h1 h2 => hn_183 q (by omega))
  have a9_193 : vLA cy B g_181 150 1621 (fun _ => 0) := vLA_fr a9_179 (fun q h1 h2 => hn_183 q (by omega))
  have hfr_194 : ∀ q, q < 141 → g_181 q = g q := fun q hq => (hn_183 q (by omega)).trans (hfr_180 q hq)
  have a10_195 : vLA cy B g_181 151 1621 (fun _ => 0) := he_182
  refine w_putF (i := 23) (T := TX11) (NF := 32) 141 (by first | omega | with_reducible rfl) h0_184 rfl (fun _ h => (List.mem_cons_of_mem _ (List.mem_append_right _ h))) tyX11 tyX11_ok nmX11 (by decide) (List.mem_of_getElem? (i := 15) rfl) rfl hmn rfl rfl rfl (Nat.le_of_ble_eq_true rfl) dX11_init_85 (fun g_196 he_197 hn_198 => ?_)
  have h0_199 : nO11 cy B g_196 141 (.ref (B + 142)) (.ref (B + 143)) (.ref (B + 144)) (.int (zI 0)) (.ref (B + 145)) (.int (zI 0)) (.ref (B + 146)) (.int (zI 0)) (.int (zI 0)) (.ref (B + 147)) (.int (zI 0)) (.int (zI 0)) (.long (zJ 0)) (.long (zJ 0)) (.long (zJ 0)) (.int (zI 0)) (.int (zI 0)) (.int (zI 0)) (.long (zJ 0)) (.ref (B + 148)) (.int (zI 0)) (.ref (B + 149)) (.ref (B + 150)) (.ref (B + 151)) (.null) (.null) (.null) (.null) (.null) (.null) (.null) (.null) := he_197
  have a1_200 : vIA cy B g_196 142 49 (fun _ => 0) := vIA_fr a1_185 (fun q h1 h2 => hn_198 q (by omega))
  have a2_201 : vIA cy B g_196 143 49 (fun _ => 0) := vIA_fr a2_186 (fun q h1 h2 => hn_198 q (by omega))
  have a3_202 : vIA cy B g_196 144 294 (fun _ => 0) := vIA_fr a3_187 (fun q h1 h2 => hn_198 q (by omega))
  have a4_203 : vIA cy B g_196 145 200 (fun _ => 0) := vIA_fr a4_188 (fun q h1 h2 => hn_198 q (by omega))
  have a5_204 : vLA cy B g_196 146 169 (fun _ => 0) := vLA_fr a5_189 (fun q h1 h2 => hn_198 q (by omega))
  have a6_205 : vIA cy B g_196 147 5 (fun _ => 0) := vIA_fr a6_190 (fun q h1 h2 => hn_198 q (by omega))
  have a7_206 : vIA cy B g_196 148 5 (fun _ => 0) := vIA_fr a7_191 (fun q h1 h2 => hn_198 q (by omega))
  have a8_207 : vLA cy B g_196 149 541 (fun _ => 0) := vLA_fr a8_192 (fun q h1 h2 => hn_198 q (by omega))
  have a9_208 : vLA cy B g_196 150 1621 (fun _ => 0) := vLA_fr a9_193 (fun q h1 h2 => hn_198 q (by omega))
  have a10_209 : vLA cy B g_196 151 1621 (fun _ => 0) := vLA_fr a10_195 (fun q h1 h2 => hn_198 q (by omega))
  have hfr_210 : ∀ q, q < 141 → g_196 q = g q := fun q hq => (hn_198 q (by omega)).trans (hfr_194 q hq)
  refine w_aload_n dX11_init_88 rfl 0 rfl ?_
  refine w_sipush dX11_init_89 (by decide) ?_
  refine w_newJ (n := 366) (by omega) (by omega) (List.mem_of_getElem? (i := 9) rfl) (Nat.le_of_ble_eq_true rfl) (Nat.le_of_ble_eq_true rfl) dX11_init_92 (fun g_211 he_212 hn_213 => ?_)
  have h0_214 : nO11 cy B g_211 141 (.ref (B + 142)) (.ref (B + 143)) (.ref (B + 144)) (.int (zI 0)) (.ref (B + 145)) (.int (zI 0)) (.ref (B + 146)) (.int (zI 0)) (.int (zI 0)) (.ref (B + 147)) (.int (zI 0)) (.int (zI 0)) (.long (zJ 0)) (.long (zJ 0)) (.long (zJ 0)) (.int (zI 0)) (.int (zI 0)) (.int (zI 0)) (.long (zJ 0)) (.ref (B + 148)) (.int (zI 0)) (.ref (B + 149)) (.ref (B + 150)) (.ref (B + 151)) (.null) (.null) (.null) (.null) (.null) (.null) (.null) (.null) := nO11_fr h0_199 (fun q h1 h2 => hn_213 q (by omega))
  have a1_215 : vIA cy B g_211 142 49 (fun _ => 0) := vIA_fr a1_200 (fun q h1 h2 => hn_213 q (by omega))
  have a2_216 : vIA cy B g_211 143 49 (fun _ => 0) := vIA_fr a2_201 (fun q h1 h2 => hn_213 q (by omega))
  have a3_217 : vIA cy B g_211 144 294 (fun _ => 0) := vIA_fr a3_202 (fun q h1 h2 => hn_213 q (by omega))
  have a4_218 : vIA cy B g_211 145 200 (fun _ => 0) := vIA_fr a4_203 (fun q h1 h2 => hn_213 q (by omega))
  have a5_219 : vLA cy B g_211 146 169 (fun _ => 0) := vLA_fr a5_204 (fun q h1 h2 => hn_213 q (by omega))
  have a6_220 : vIA cy B g_211 147 5 (fun _ => 0) := vIA_fr a6_205 (fun q h1 h2 => hn_213 q (by omega))
  have a7_221 : vIA cy B g_211 148 5 (fun _ => 0) := vIA_fr a7_206 (fun q h1 h2 => hn_213 q (by omega))
  have a8_222 : vLA cy B g_211 149 541 (fun _ => 0) := vLA_fr a8_207 (fun q h1 h2 => hn_213 q (by omega))
  have a9_223 : vLA cy B g_211 150 1621 (fun _ => 0) := vLA_fr a9_208 (fun q h1 h2 => hn_213 q (by omega))
  have a10_224 : vLA cy B g_211 151 1621 (fun _ => 0) := vLA_fr a10_209 (fun q h1 h2 => hn_213 q (by omega))
  have hfr_225 : ∀ q, q < 141 → g_211 q = g q := fun q hq => (hn_213 q (by omega)).trans (hfr_210 q hq)
  have a11_226 : vLA cy B g_211 152 366 (fun _ => 0) := he_212
  refine w_putF (i := 24) (T := TX11) (NF := 32) 141 (by first | omega | with_reducible rfl) h0_214 rfl (fun _ h => (List.mem_cons_of_mem _ (List.mem_append_right _ h))) tyX11 tyX11_ok nmX11 (by decide) (List.mem_of_getElem? (i := 16) rfl) rfl hmn rfl rfl rfl (Nat.le_of_ble_eq_true rfl) dX11_init_94 (fun g_227 he_228 hn_229 => ?_)
  have h0_230 : nO11 cy B g_227 141 (.ref (B + 142)) (.ref (B + 143)) (.ref (B + 144)) (.int (zI 0)) (.ref (B + 145)) (.int (zI 0)) (.ref (B + 146)) (.int (zI 0)) (.int (zI 0)) (.ref (B + 147)) (.int (zI 0)) (.int (zI 0)) (.long (zJ 0)) (.long (zJ 0)) (.long (zJ 0)) (.int (zI 0)) (.int (zI 0)) (.int (zI 0)) (.long (zJ 0)) (.ref (B + 148)) (.int (zI 0)) (.ref (B + 149)) (.ref (B + 150)) (.ref (B + 151)) (.ref (B + 152)) (.null) (.null) (.null) (.null) (.null) (.null) (.null) := he_228
  have a1_231 : vIA cy B g_227 142 49 (fun _ => 0) := vIA_fr a1_215 (fun q h1 h2 => hn_229 q (by omega))
  have a2_232 : vIA cy B g_227 143 49 (fun _ => 0) := vIA_fr a2_216 (fun q h1 h2 => hn_229 q (by omega))
  have a3_233 : vIA cy B g_227 144 294 (fun _ => 0) := vIA_fr a3_217 (fun q h1 h2 => hn_229 q (by omega))
  have a4_234 : vIA cy B g_227 145 200 (fun _ => 0) := vIA_fr a4_218 (fun q h1 h2 => hn_229 q (by omega))
  have a5_235 : vLA cy B g_227 146 169 (fun _ => 0) := vLA_fr a5_219 (fun q h1 h2 => hn_229 q (by omega))
  have a6_236 : vIA cy B g_227 147 5 (fun _ => 0) := vIA_fr a6_220 (fun q h1 h2 => hn_229 q (by omega))
  have a7_237 : vIA cy B g_227 148 5 (fun _ => 0) := vIA_fr a7_221 (fun q h1 h2 => hn_229 q (by omega))
  have a8_238 : vLA cy B g_227 149 541 (fun _ => 0) := vLA_fr a8_222 (fun q h1 h2 => hn_229 q (by omega))
  have a9_239 : vLA cy B g_227 150 1621 (fun _ => 0) := vLA_fr a9_223 (fun q h1 h2 => hn_229 q (by omega))
  have a10_240 : vLA cy B g_227 151 1621 (fun _ => 0) := vLA_fr a10_224 (fun q h1 h2 => hn_229 q (by omega))
  have a11_241 : vLA cy B g_227 152 366 (fun _ => 0) := vLA_fr a11_226 (fun q h1 h2 => hn_229 q (by omega))
  have hfr_242 : ∀ q, q < 141 → g_227 q = g q := fun q hq => (hn_229 q (by omega)).trans (hfr_225 q hq)
  refine w_aload_n dX11_init_97 rfl 0 rfl ?_
  refine w_sipush dX11_init_98 (by decide) ?_
  refine w_newJ (n := 366) (by omega) (by omega) (List.mem_of_getElem? (i := 9) rfl) (Nat.le_of_ble_eq_true rfl) (Nat.le_of_ble_eq_true rfl) dX11_init_101 (fun g_243 he_244 hn_245 => ?_)
  have h0_246 : nO11 cy B g_243 141 (.ref (B + 142)) (.ref (B + 143)) (.ref (B + 144)) (.int (zI 0)) (.ref (B + 145)) (.int (zI 0)) (.ref (B + 146)) (.int (zI 0)) (.int (zI 0)) (.ref (B + 147)) (.int (zI 0)) (.int (zI 0)) (.long (zJ 0)) (.long (zJ 0)) (.long (zJ 0)) (.int (zI 0)) (.int (zI 0)) (.int (zI 0)) (.long (zJ 0)) (.ref (B + 148)) (.int (zI 0)) (.ref (B + 149)) (.ref (B + 150)) (.ref (B + 151)) (.ref (B + 152)) (.null) (.null) (.null) (.null) (.null) (.null) (.null) := nO11_fr h0_230 (fun q h1 h2 => hn_245 q (by omega))
  have a1_247 : vIA cy B g_243 142 49 (fun _ => 0) := vIA_fr a1_231 (fun q h1 h2 => hn_245 q (by omega))
  have a2_248 : vIA cy B g_243 143 49 (fun _ => 0) := vIA_fr a2_232 (fun q h1 h2 => hn_245 q (by omega))
  have a3_249 : vIA cy B g_243 144 294 (fun _ => 0) := vIA_fr a3_233 (fun q h1 h2 => hn_245 q (by omega))
  have a4_250 : vIA cy B g_243 145 200 (fun _ => 0) := vIA_fr a4_234 (fun q h1 h2 => hn_245 q (by omega))
  have a5_251 : vLA cy B g_243 146 169 (fun _ => 0) := vLA_fr a5_235 (fun q h1 h2 => hn_245 q (by omega))
  have a6_252 : vIA cy B g_243 147 5 (fun _ => 0) := vIA_fr a6_236 (fun q h1 h2 => hn_245 q (by omega))
  have a7_253 : vIA cy B g_243 148 5 (fun _ => 0) := vIA_fr a7_237 (fun q h1 h2 => hn_245 q (by omega))
  have a8_254 : vLA cy B g_243 149 541 (fun _ => 0) := vLA_fr a8_238 (fun q h1 h2 => hn_245 q (by omega))
  have a9_255 : vLA cy B g_243 150 1621 (fun _ => 0) := vLA_fr a9_239 (fun q h1 h2 => hn_245 q (by omega))
  have a10_256 : vLA cy B g_243 151 1621 (fun _ => 0) := vLA_fr a10_240 (fun q h1 h2 => hn_245 q (by omega))
  have a11_257 : vLA cy B g_243 152 366 (fun _ => 0) := vLA_fr a11_241 (fun q h1 h2 => hn_245 q (by omega))
  have hfr_258 : ∀ q, q < 141 → g_243 q = g q := fun q hq => (hn_245 q (by omega)).trans (hfr_242 q hq)
  have a12_259 : vLA cy B g_243 153 366 (fun _ => 0) := he_244
  refine w_putF (i := 25) (T := TX11) (NF := 32) 141 (by first | omega | with_reducible rfl) h0_246 rfl (fun _ h => (List.mem_cons_of_mem _ (List.mem_append_right _ h))) tyX11 tyX11_ok nmX11 (by decide) (List.mem_of_getElem? (i := 17) rfl) rfl hmn rfl rfl rfl (Nat.le_of_ble_eq_true rfl) dX11_init_103 (fun g_260 he_261 hn_262 => ?_)
  have h0_263 : nO11 cy B g_260 141 (.ref (B + 142)) (.ref (B + 143)) (.ref (B + 144)) (.int (zI 0)) (.ref (B + 145)) (.int (zI 0)) (.ref (B + 146)) (.int (zI 0)) (.int (zI 0)) (.ref (B + 147)) (.int (zI 0)) (.int (zI 0)) (.long (zJ 0)) (.long (zJ 0)) (.long (zJ 0)) (.int (zI 0)) (.int (zI 0)) (.int (zI 0)) (.long (zJ 0)) (.ref (B + 148)) (.int (zI 0)) (.ref (B + 149)) (.ref (B + 150)) (.ref (B + 151)) (.ref (B + 152)) (.ref (B + 153)) (.null) (.null) (.null) (.null) (.null) (.null) := he_261
  have a1_264 : vIA cy B g_260 142 49 (fun _ => 0) := vIA_fr a1_247 (fun q h1 h2 => hn_262 q (by omega))
  have a2_265 : vIA cy B g_260 143 49 (fun _ => 0) := vIA_fr a2_248 (fun q h1 h2 => hn_262 q (by omega))
  have a3_266 : vIA cy B g_260 144 294 (fun _ => 0) := vIA_fr a3_249 (fun q h1 h2 => hn_262 q (by omega))
  have a4_267 : vIA cy B g_260 145 200 (fun _ => 0) := vIA_fr a4_250 (fun q h1 h2 => hn_262 q (by omega))
  have a5_268 : vLA cy B g_260 146 169 (fun _ => 0) := vLA_fr a5_251 (fun q h1 h2 => hn_262 q (by omega))
  have a6_269 : vIA cy B g_260 147 5 (fun _ => 0) := vIA_fr a6_252 (fun q h1 h2 => hn_262 q (by omega))
  have a7_270 : vIA cy B g_260 148 5 (fun _ => 0) := vIA_fr a7_253 (fun q h1 h2 => hn_262 q (by omega))
  have a8_271 : vLA cy B g_260 149 541 (fun _ => 0) := vLA_fr a8_254 (fun q h1 h2 => hn_262 q (by omega))
  have a9_272 : vLA cy B g_260 150 1621 (fun _ => 0) := vLA_fr a9_255 (fun q h1 h2 => hn_262 q (by omega))
  have a10_273 : vLA cy B g_260 151 1621 (fun _ => 0) := vLA_fr a10_256 (fun q h1 h2 => hn_262 q (by omega))
  have a11_274 : vLA cy B g_260 152 366 (fun _ => 0) := vLA_fr a11_257 (fun q h1 h2 => hn_262 q (by omega))
  have a12_275 : vLA cy B g_260 153 366 (fun _ => 0) := vLA_fr a12_259 (fun q h1 h2 => hn_262 q (by omega))
  have hfr_276 : ∀ q, q < 141 → g_260 q = g q := fun q hq => (hn_262 q (by omega)).trans (hfr_258 q hq)
  refine w_aload_n dX11_init_106 rfl 0 rfl ?_
  refine w_sipush dX11_init_107 (by decide) ?_
  refine w_newJ (n := 366) (by omega) (by omega) (List.mem_of_getElem? (i := 9) rfl) (Nat.le_of_ble_eq_true rfl) (Nat.le_of_ble_eq_true rfl) dX11_init_110 (fun g_277 he_278 hn_279 => ?_)
  have h0_280 : nO11 cy B g_277 141 (.ref (B + 142)) (.ref (B + 143)) (.ref (B + 144)) (.int (zI 0)) (.ref (B + 145)) (.int (zI 0)) (.ref (B + 146)) (.int (zI 0)) (.int (zI 0)) (.ref (B + 147)) (.int (zI 0)) (.int (zI 0)) (.long (zJ 0)) (.long (zJ 0)) (.long (zJ 0)) (.int (zI 0)) (.int (zI 0)) (.int (zI 0)) (.long (zJ 0)) (.ref (B + 148)) (.int (zI 0)) (.ref (B + 149)) (.ref (B + 150)) (.ref (B + 151)) (.ref (B + 152)) (.ref (B + 153)) (.null) (.null) (.null) (.null) (.null) (.null) := nO11_fr h0_263 (fun q h1 h2 => hn_279 q (by omega))
  have a1_281 : vIA cy B g_277 142 49 (fun _ => 0) := vIA_fr a1_264 (fun q h1 h2 => hn_279 q (by omega))
  have a2_282 : vIA cy B g_277 143 49 (fun _ => 0) := vIA_fr a2_265 (fun q h1 h2 => hn_279 q (by omega))
  have a3_283 : vIA cy B g_277 144 294 (fun _ => 0) := vIA_fr a3_266 (fun q h1 h2 => hn_279 q (by omega))
  have a4_284 : vIA cy B g_277 145 200 (fun _ => 0) := vIA_fr a4_267 (fun q h1 h2 => hn_279 q (by omega))
  have a5_285 : vLA cy B g_277 146 169 (fun _ => 0) := vLA_fr a5_268 (fun q h1 h2 => hn_279 q (by omega))
  have a6_286 : vIA cy B g_277 147 5 (fun _ => 0) := vIA_fr a6_269 (fun q h1 h2 => hn_279 q (by omega))
  have a7_287 : vIA cy B g_277 148 5 (fun _ => 0) := vIA_fr a7_270 (fun q h1 h2 => hn_279 q (by omega))
  have a8_288 : vLA cy B g_277 149 541 (fun _ => 0) := vLA_fr a8_271 (fun q h1 h2 => hn_279 q (by omega))
  have a9_289 : vLA cy B g_277 150 1621 (fun _ => 0) := vLA_fr a9_272 (fun q h1 h2 => hn_279 q (by omega))
  have a10_290 : vLA cy B g_277 151 1621 (fun _ => 0) := vLA_fr a10_273 (fun q h1 h2 => hn_279 q (by omega))
  have a11_291 : vLA cy B g_277 152 366 (fun _ => 0) := vLA_fr a11_274 (fun q h1 h2 => hn_279 q (by omega))
  have a12_292 : vLA cy B g_277 153 366 (fun _ => 0) := vLA_fr a12_275 (fun q h1 h2 => hn_279 q (by omega))
  have hfr_293 : ∀ q, q < 141 → g_277 q = g q := fun q hq => (hn_279 q (by omega)).trans (hfr_276 q hq)
  have a13_294 : vLA cy B g_277 154 366 (fun _ => 0) := he_278
  refine w_putF (i := 26) (T := TX11) (NF := 32) 141 (by first | omega | with_reducible rfl) h0_280 rfl (fun _ h => (List.mem_cons_of_mem _ (List.mem_append_right _ h))) tyX11 tyX11_ok nmX11 (by decide) (List.mem_of_getElem? (i := 18) rfl) rfl hmn rfl rfl rfl (Nat.le_of_ble_eq_true rfl) dX11_init_112 (fun g_295 he_296 hn_297 => ?_)
  have h0_298 : nO11 cy B g_295 141 (.ref (B + 142)) (.ref (B + 143)) (.ref (B + 144)) (.int (zI 0)) (.ref (B + 145)) (.int (zI 0)) (.ref (B + 146)) (.int (zI 0)) (.int (zI 0)) (.ref (B + 147)) (.int (zI 0)) (.int (zI 0)) (.long (zJ 0)) (.long (zJ 0)) (.long (zJ 0)) (.int (zI 0)) (.int (zI 0)) (.int (zI 0)) (.long (zJ 0)) (.ref (B + 148)) (.int (zI 0)) (.ref (B + 149)) (.ref (B + 150)) (.ref (B + 151)) (.ref (B + 152)) (.ref (B + 153)) (.ref (B + 154)) (.null) (.null) (.null) (.null) (.null) := he_296
  have a1_299 : vIA cy B g_295 142 49 (fun _ => 0) := vIA_fr a1_281 (fun q h1 h2 => hn_297 q (by omega))
  have a2_300 : vIA cy B g_295 143 49 (fun _ => 0) := vIA_fr a2_282 (fun q h1 h2 => hn_297 q (by omega))
  have a3_301 : vIA cy B g_295 144 294 (fun _ => 0) := vIA_fr a3_283 (fun q h1 h2 => hn_297 q (by omega))
  have a4_302 : vIA cy B g_295 145 200 (fun _ => 0) := vIA_fr a4_284 (fun q h1 h2 => hn_297 q (by omega))
  have a5_303 : vLA cy B g_295 146 169 (fun _ => 0) := vLA_fr a5_285 (fun q h1 h2 => hn_297 q (by omega))
  have a6_304 : vIA cy B g_295 147 5 (fun _ => 0) := vIA_fr a6_286 (fun q h1 h2 => hn_297 q (by omega))
  have a7_305 : vIA cy B g_295 148 5 (fun _ => 0) := vIA_fr a7_287 (fun q h1 h2 => hn_297 q (by omega))
  have a8_306 : vLA cy B g_295 149 541 (fun _ => 0) := vLA_fr a8_288 (fun q h1 h2 => hn_297 q (by omega))
  have a9_307 : vLA cy B g_295 150 1621 (fun _ => 0) := vLA_fr a9_289 (fun q h1 h2 => hn_297 q (by omega))
  have a10_308 : vLA cy B g_295 151 1621 (fun _ => 0) := vLA_fr a10_290 (fun q h1 h2 => hn_297 q (by omega))
  have a11_309 : vLA cy B g_295 152 366 (fun _ => 0) := vLA_fr a11_291 (fun q h1 h2 => hn_297 q (by omega))
  have a12_310 : vLA cy B g_295 153 366 (fun _ => 0) := vLA_fr a12_292 (fun q h1 h2 => hn_297 q (by omega))
  have a13_311 : vLA cy B g_295 154 366 (fun _ => 0) := vLA_fr a13_294 (fun q h1 h2 => hn_297 q (by omega))
  have hfr_312 : ∀ q, q < 141 → g_295 q = g q := fun q hq => (hn_297 q (by omega)).trans (hfr_293 q hq)
  refine w_aload_n dX11_init_115 rfl 0 rfl ?_
  refine w_sipush dX11_init_116 (by decide) ?_
  refine w_newJ (n := 366) (by omega) (by omega) (List.mem_of_getElem? (i := 9) rfl) (Nat.le_of_ble_eq_true rfl) (Nat.le_of_ble_eq_true rfl) dX11_init_119 (fun g_313 he_314 hn_315 => ?_)
  have h0_316 : nO11 cy B g_313 141 (.ref (B + 142)) (.ref (B + 143)) (.ref (B + 144)) (.int (zI 0)) (.ref (B + 145)) (.int (zI 0)) (.ref (B + 146)) (.int (zI 0)) (.int (zI 0)) (.ref (B + 147)) (.int (zI 0)) (.int (zI 0)) (.long (zJ 0)) (.long (zJ 0)) (.long (zJ 0)) (.int (zI 0)) (.int (zI 0)) (.int (zI 0)) (.long (zJ 0)) (.ref (B + 148)) (.int (zI 0)) (.ref (B + 149)) (.ref (B + 150)) (.ref (B + 151)) (.ref (B + 152)) (.ref (B + 153)) (.ref (B + 154)) (.null) (.null) (.null) (.null) (.null) := nO11_fr h0_298 (fun q h1 h2 => hn_315 q (by omega))
  have a1_317 : vIA cy B g_313 142 49 (fun _ => 0) := vIA_fr a1_299 (fun q h1 h2 => hn_315 q (by omega))
  have a2_318 : vIA cy B g_313 143 49 (fun _ => 0) := vIA_fr a2_300 (fun q h1 h2 => hn_315 q (by omega))
  have a3_319 : vIA cy B g_313 144 294 (fun _ => 0) := vIA_fr a3_301 (fun q h1 h2 => hn_315 q (by omega))
  have a4_320 : vIA cy B g_313 145 200 (fun _ => 0) := vIA_fr a4_302 (fun q h1 h2 => hn_315 q (by omega))
  have a5_321 : vLA cy B g_313 146 169 (fun _ => 0) := vLA_fr a5_303 (fun q h1 h2 => hn_315 q (by omega))
  have a6_322 : vIA cy B g_313 147 5 (fun _ => 0) := vIA_fr a6_304 (fun q h1 h2 => hn_315 q (by omega))
  have a7_323 : vIA cy B g_313 148 5 (fun _ => 0) := vIA_fr a7_305 (fun q h1 h2 => hn_315 q (by omega))
  have a8_324 : vLA cy B g_313 149 541 (fun _ => 0) := vLA_fr a8_306 (fun q h1 h2 => hn_315 q (by omega))
  have a9_325 : vLA cy B g_313 150 1621 (fun _ => 0) := vLA_fr a9_307 (fun q h1 h2 => hn_315 q (by omega))
  have a10_326 : vLA cy B g_313 151 1621 (fun _ => 0) := vLA_fr a10_308 (fun q h1 h2 => hn_315 q (by omega))
  have a11_327 : vLA cy B g_313 152 366 (fun _ => 0) := vLA_fr a11_309 (fun q h1 h2 => hn_315 q (by omega))
  have a12_328 : vLA cy B g_313 153 366 (fun _ => 0) := vLA_fr a12_310 (fun q h1 h2 => hn_315 q (by omega))
  have a13_329 : vLA cy B g_313 154 366 (fun _ => 0) := vLA_fr a13_311 (fun q h1 h2 => hn_315 q (by omega))
  have hfr_330 : ∀ q, q < 141 → g_313 q = g q := fun q hq => (hn_315 q (by omega)).trans (hfr_312 q hq)
  have a14_331 : vLA cy B g_313 155 366 (fun _ => 0) := he_314
  refine w_putF (i := 27) (T := TX11) (NF := 32) 141 (by first | omega | with_reducible rfl) h0_316 rfl (fun _ h => (List.mem_cons_of_mem _ (List.mem_append_right _ h))) tyX11 tyX11_ok nmX11 (by decide) (List.mem_of_getElem? (i := 19) rfl) rfl hmn rfl rfl rfl (Nat.le_of_ble_eq_true rfl) dX11_init_121 (fun g_332 he_333 hn_334 => ?_)
  have h0_335 : nO11 cy B g_332 141 (.ref (B + 142)) (.ref (B + 143)) (.ref (B + 144)) (.int (zI 0)) (.ref (B + 145)) (.int (zI 0)) (.ref (B + 146)) (.int (zI 0)) (.int (zI 0)) (.ref (B + 147)) (.int (zI 0)) (.int (zI 0)) (.long (zJ 0)) (.long (zJ 0)) (.long (zJ 0)) (.int (zI 0)) (.int (zI 0)) (.int (zI 0)) (.long (zJ 0)) (.ref (B + 148)) (.int (zI 0)) (.ref (B + 149)) (.ref (B + 150)) (.ref (B + 151)) (.ref (B + 152)) (.ref (B + 153)) (.ref (B + 154)) (.ref (B + 155)) (.null) (.null) (.null) (.null) := he_333
  have a1_336 : vIA cy B g_332 142 49 (fun _ => 0) := vIA_fr a1_317 (fun q h1 h2 => hn_334 q (by omega))
  have a2_337 : vIA cy B g_332 143 49 (fun _ => 0) := vIA_fr a2_318 (fun q h1 h2 => hn_334 q (by omega))
  have a3_338 : vIA cy B g_332 144 294 (fun _ => 0) := vIA_fr a3_319 (fun q h1 h2 => hn_334 q (by omega))
  have a4_339 : vIA cy B g_332 145 200 (fun _ => 0) := vIA_fr a4_320 (fun q h1 h2 => hn_334 q (by omega))
  have a5_340 : vLA cy B g_332 146 169 (fun _ => 0) := vLA_fr a5_321 (fun q h1 h2 => hn_334 q (by omega))
  have a6_341 : vIA cy B g_332 147 5 (fun _ => 0) := vIA_fr a6_322 (fun q h1 h2 => hn_334 q (by omega))
  have a7_342 : vIA cy B g_332 148 5 (fun _ => 0) := vIA_fr a7_323 (fun q h1 h2 => hn_334 q (by omega))
  have a8_343 : vLA cy B g_332 149 541 (fun _ => 0) := vLA_fr a8_324 (fun q h1 h2 => hn_334 q (by omega))
  have a9_344 : vLA cy B g_332 150 1621 (fun _ => 0) := vLA_fr a9_325 (fun q h1 h2 => hn_334 q (by omega))
  have a10_345 : vLA cy B g_332 151 1621 (fun _ => 0) := vLA_fr a10_326 (fun q h1 h2 => hn_334 q (by omega))
  have a11_346 : vLA cy B g_332 152 366 (fun _ => 0) := vLA_fr a11_327 (fun q h1 h2 => hn_334 q (by omega))
  have a12_347 : vLA cy B g_332 153 366 (fun _ => 0) := vLA_fr a12_328 (fun q h1 h2 => hn_334 q (by omega))
  have a13_348 : vLA cy B g_332 154 366 (fun _ => 0) := vLA_fr a13_329 (fun q h1 h2 => hn_334 q (by omega))
  have a14_349 : vLA cy B g_332 155 366 (fun _ => 0) := vLA_fr a14_331 (fun q h1 h2 => hn_334 q (by omega))
  have hfr_350 : ∀ q, q < 141 → g_332 q = g q := fun q hq => (hn_334 q (by omega)).trans (hfr_330 q hq)
  refine w_aload_n dX11_init_124 rfl 0 rfl ?_
  refine w_sipush dX11_init_125 (by decide) ?_
  refine w_newI (n := 366) (by omega) (by omega) (List.mem_of_getElem? (i := 4) rfl) (Nat.le_of_ble_eq_true rfl) (Nat.le_of_ble_eq_true rfl) dX11_init_128 (fun g_351 he_352 hn_353 => ?_)
  have h0_354 : nO11 cy B g_351 141 (.ref (B + 142)) (.ref (B + 143)) (.ref (B + 144)) (.int (zI 0)) (.ref (B + 145)) (.int (zI 0)) (.ref (B + 146)) (.int (zI 0)) (.int (zI 0)) (.ref (B + 147)) (.int (zI 0)) (.int (zI 0)) (.long (zJ 0)) (.long (zJ 0)) (.long (zJ 0)) (.int (zI 0)) (.int (zI 0)) (.int (zI 0)) (.long (zJ 0)) (.ref (B + 148)) (.int (zI 0)) (.ref (B + 149)) (.ref (B + 150)) (.ref (B + 151)) (.ref (B + 152)) (.ref (B + 153)) (.ref (B + 154)) (.ref (B + 155)) (.null) (.null) (.null) (.null) := nO11_fr h0_335 (fun q h1 h2 => hn_353 q (by omega))
  have a1_355 : vIA cy B g_351 142 49 (fun _ => 0) := vIA_fr a1_336 (fun q h1 h2 => hn_353 q (by omega))
  have a2_356 : vIA cy B g_351 143 49 (fun _ => 0) := vIA_fr a2_337 (fun q h1 h2 => hn_353 q (by omega))
  have a3_357 : vIA cy B g_351 144 294 (fun _ => 0) := vIA_fr a3_338 (fun q h1 h2 => hn_353 q (by omega))
  have a4_358 : vIA cy B g_351 145 200 (fun _ => 0) := vIA_fr a4_339 (fun q h1 h2 => hn_353 q (by omega))
  have a5_359 : vLA cy B g_351 146 169 (fun _ => 0) := vLA_fr a5_340 (fun q h1 h2 => hn_353 q (by omega))
  have a6_360 : vIA cy B g_351 147 5 (fun _ => 0) := vIA_fr a6_341 (fun q h1 h2 => hn_353 q (by omega))
  have a7_361 : vIA cy B g_351 148 5 (fun _ => 0) := vIA_fr a7_342 (fun q h1 h2 => hn_353 q (by omega))
  have a8_362 : vLA cy B g_351 149 541 (fun _ => 0) := vLA_fr a8_343 (fun q h1 h2 => hn_353 q (by omega))
  have a9_363 : vLA cy B g_351 150 1621 (fun _ => 0) := vLA_fr a9_344 (fun q h1 h2 => hn_353 q (by omega))
  have a10_364 : vLA cy B g_351 151 1621 (fun _ => 0) := vLA_fr a10_345 (fun q h1 h2 => hn_353 q (by omega))
  have a11_365 : vLA cy B g_351 152 366 (fun _ => 0) := vLA_fr a11_346 (fun q h1 h2 => hn_353 q (by omega))
  have a12_366 : vLA cy B g_351 153 366 (fun _ => 0) := vLA_fr a12_347 (fun q h1 h2 => hn_353 q (by omega))
  have a13_367 : vLA cy B g_351 154 366 (fun _ => 0) := vLA_fr a13_348 (fun q h1 h2 => hn_353 q (by omega))
  have a14_368 : vLA cy B g_351 155 366 (fun _ => 0) := vLA_fr a14_349 (fun q h1 h2 => hn_353 q (by omega))
  have hfr_369 : ∀ q, q < 141 → g_351 q = g q := fun q hq => (hn_353 q (by omega)).trans (hfr_350 q hq)
  have a15_370 : vIA cy B g_351 156 366 (fun _ => 0) := he_352
  refine w_putF (i := 28) (T := TX11) (NF := 32) 141 (by first | omega | with_reducible rfl) h0_354 rfl (fun _ h => (List.mem_cons_of_mem _ (List.mem_append_right _ h))) tyX11 tyX11_ok nmX11 (by decide) (List.mem_of_getElem? (i := 20) rfl) rfl hmn rfl rfl rfl (Nat.le_of_ble_eq_true rfl) dX11_init_130 (fun g_371 he_372 hn_373 => ?_)
  have h0_374 : nO11 cy B g_371 141 (.ref (B + 142)) (.ref (B + 143)) (.ref (B + 144)) (.int (zI 0)) (.ref (B + 145)) (.int (zI 0)) (.ref (B + 146)) (.int (zI 0)) (.int (zI 0)) (.ref (B + 147)) (.int (zI 0)) (.int (zI 0)) (.long (zJ 0)) (.long (zJ 0)) (.long (zJ 0)) (.int (zI 0)) (.int (zI 0)) (.int (zI 0)) (.long (zJ 0)) (.ref (B + 148)) (.int (zI 0)) (.ref (B + 149)) (.ref (B + 150)) (.ref (B + 151)) (.ref (B + 152)) (.ref (B + 153)) (.ref (B + 154)) (.ref (B + 155)) (.ref (B + 156)) (.null) (.null) (.null) := he_372
  have a1_375 : vIA cy B g_371 142 49 (fun _ => 0) := vIA_fr a1_355 (fun q h1 h2 => hn_373 q (by omega))
  have a2_376 : vIA cy B g_371 143 49 (fun _ => 0) := vIA_fr a2_356 (fun q h1 h2 => hn_373 q (by omega))
  have a3_377 : vIA cy B g_371 144 294 (fun _ => 0) := vIA_fr a3_357 (fun q h1 h2 => hn_373 q (by omega))
  have a4_378 : vIA cy B g_371 145 200 (fun _ => 0) := vIA_fr a4_358 (fun q h1 h2 => hn_373 q (by omega))
  have a5_379 : vLA cy B g_371 146 169 (fun _ => 0) := vLA_fr a5_359 (fun q h1 h2 => hn_373 q (by omega))
  have a6_380 : vIA cy B g_371 147 5 (fun _ => 0) := vIA_fr a6_360 (fun q h1 h2 => hn_373 q (by omega))
  have a7_381 : vIA cy B g_371 148 5 (fun _ => 0) := vIA_fr a7_361 (fun q h1 h2 => hn_373 q (by omega))
  have a8_382 : vLA cy B g_371 149 541 (fun _ => 0) := vLA_fr a8_362 (fun q h1 h2 => hn_373 q (by omega))
  have a9_383 : vLA cy B g_371 150 1621 (fun _ => 0) := vLA_fr a9_363 (fun q h1 h2 => hn_373 q (by omega))
  have a10_384 : vLA cy B g_371 151 1621 (fun _ => 0) := vLA_fr a10_364 (fun q h1 h2 => hn_373 q (by omega))
  have a11_385 : vLA cy B g_371 152 366 (fun _ => 0) := vLA_fr a11_365 (fun q h1 h2 => hn_373 q (by omega))
  have a12_386 : vLA cy B g_371 153 366 (fun _ => 0) := vLA_fr a12_366 (fun q h1 h2 => hn_373 q (by omega))
  have a13_387 : vLA cy B g_371 154 366 (fun _ => 0) := vLA_fr a13_367 (fun q h1 h2 => hn_373 q (by omega))
  have a14_388 : vLA cy B g_371 155 366 (fun _ => 0) := vLA_fr a14_368 (fun q h1 h2 => hn_373 q (by omega))
  have a15_389 : vIA cy B g_371 156 366 (fun _ => 0) := vIA_fr a15_370 (fun q h1 h2 => hn_373 q (by omega))
  have hfr_390 : ∀ q, q < 141 → g_371 q = g q := fun q hq => (hn_373 q (by omega)).trans (hfr_369 q hq)
  refine w_aload_n dX11_init_133 rfl 0 rfl ?_
  refine w_iconst dX11_init_134 ?_
  refine w_newI (n := 5) (by omega) (by omega) (List.mem_of_getElem? (i := 4) rfl) (Nat.le_of_ble_eq_true rfl) (Nat.le_of_ble_eq_true rfl) dX11_init_135 (fun g_391 he_392 hn_393 => ?_)
  have h0_394 : nO11 cy B g_391 141 (.ref (B + 142)) (.ref (B + 143)) (.ref (B + 144)) (.int (zI 0)) (.ref (B + 145)) (.int (zI 0)) (.ref (B + 146)) (.int (zI 0)) (.int (zI 0)) (.ref (B + 147)) (.int (zI 0)) (.int (zI 0)) (.long (zJ 0)) (.long (zJ 0)) (.long (zJ 0)) (.int (zI 0)) (.int (zI 0)) (.int (zI 0)) (.long (zJ 0)) (.ref (B + 148)) (.int (zI 0)) (.ref (B + 149)) (.ref (B + 150)) (.ref (B + 151)) (.ref (B + 152)) (.ref (B + 153)) (.ref (B + 154)) (.ref (B + 155)) (.ref (B + 156)) (.null) (.null) (.null) := nO11_fr h0_374 (fun q h1 h2 => hn_393 q (by omega))
  have a1_395 : vIA cy B g_391 142 49 (fun _ => 0) := vIA_fr a1_375 (fun q h1 h2 => hn_393 q (by omega))
  have a2_396 : vIA cy B g_391 143 49 (fun _ => 0) := vIA_fr a2_376 (fun q h1 h2 => hn_393 q (by omega))
  have a3_397 : vIA cy B g_391 144 294 (fun _ => 0) := vIA_fr a3_377 (fun q h1 h2 => hn_393 q (by omega))
  have a4_398 : vIA cy B g_391 145 200 (fun _ => 0) := vIA_fr a4_378 (fun q h1 h2 => hn_393 q (by omega))
  have a5_399 : vLA cy B g_391 146 169 (fun _ => 0) := vLA_fr a5_379 (fun q h1 h2 => hn_393 q (by omega))
  have a6_400 : vIA cy B g_391 147 5 (fun _ => 0) := vIA_fr a6_380 (fun q h1 h2 => hn_393 q (by omega))
  have a7_401 : vIA cy B g_391 148 5 (fun _ => 0) := vIA_fr a7_381 (fun q h1 h2 => hn_393 q (by omega))
  have a8_402 : vLA cy B g_391 149 541 (fun _ => 0) := vLA_fr a8_382 (fun q h1 h2 => hn_393 q (by omega))
  have a9_403 : vLA cy B g_391 150 1621 (fun _ => 0) := vLA_fr a9_383 (fun q h1 h2 => hn_393 q (by omega))
  have a10_404 : vLA cy B g_391 151 1621 (fun _ => 0) := vLA_fr a10_384 (fun q h1 h2 => hn_393 q (by omega))
  have a11_405 : vLA cy B g_391 152 366 (fun _ => 0) := vLA_fr a11_385 (fun q h1 h2 => hn_393 q (by omega))
  have a12_406 : vLA cy B g_391 153 366 (fun _ => 0) := vLA_fr a12_386 (fun q h1 h2 => hn_393 q (by omega))
  have a13_407 : vLA cy B g_391 154 366 (fun _ => 0) := vLA_fr a13_387 (fun q h1 h2 => hn_393 q (by omega))
  have a14_408 : vLA cy B g_391 155 366 (fun _ => 0) := vLA_fr a14_388 (fun q h1 h2 => hn_393 q (by omega))
  have a15_409 : vIA cy B g_391 156 366 (fun _ => 0) := vIA_fr a15_389 (fun q h1 h2 => hn_393 q (by omega))
  have hfr_410 : ∀ q, q < 141 → g_391 q = g q := fun q hq => (hn_393 q (by omega)).trans (hfr_390 q hq)
  have a16_411 : vIA cy B g_391 157 5 (fun _ => 0) := he_392
  refine w_putF (i := 29) (T := TX11) (NF := 32) 141 (by first | omega | with_reducible rfl) h0_394 rfl (fun _ h => (List.mem_cons_of_mem _ (List.mem_append_right _ h))) tyX11 tyX11_ok nmX11 (by decide) (List.mem_of_getElem? (i := 21) rfl) rfl hmn rfl rfl rfl (Nat.le_of_ble_eq_true rfl) dX11_init_137 (fun g_412 he_413 hn_414 => ?_)
  have h0_415 : nO11 cy B g_412 141 (.ref (B + 142)) (.ref (B + 143)) (.ref (B + 144)) (.int (zI 0)) (.ref (B + 145)) (.int (zI 0)) (.ref (B + 146)) (.int (zI 0)) (.int (zI 0)) (.ref (B + 147)) (.int (zI 0)) (.int (zI 0)) (.long (zJ 0)) (.long (zJ 0)) (.long (zJ 0)) (.int (zI 0)) (.int (zI 0)) (.int (zI 0)) (.long (zJ 0)) (.ref (B + 148)) (.int (zI 0)) (.ref (B + 149)) (.ref (B + 150)) (.ref (B + 151)) (.ref (B + 152)) (.ref (B + 153)) (.ref (B + 154)) (.ref (B + 155)) (.ref (B + 156)) (.ref (B + 157)) (.null) (.null) := he_413
  have a1_416 : vIA cy B g_412 142 49 (fun _ => 0) := vIA_fr a1_395 (fun q h1 h2 => hn_414 q (by omega))
  have a2_417 : vIA cy B g_412 143 49 (fun _ => 0) := vIA_fr a2_396 (fun q h1 h2 => hn_414 q (by omega))
  have a3_418 : vIA cy B g_412 144 294 (fun _ => 0) := vIA_fr a3_397 (fun q h1 h2 => hn_414 q (by omega))
  have a4_419 : vIA cy B g_412 145 200 (fun _ => 0) := vIA_fr a4_398 (fun q h1 h2 => hn_414 q (by omega))
  have a5_420 : vLA cy B g_412 146 169 (fun _ => 0) := vLA_fr a5_399 (fun q h1 h2 => hn_414 q (by omega))
  have a6_421 : vIA cy B g_412 147 5 (fun _ => 0) := vIA_fr a6_400 (fun q h1 h2 => hn_414 q (by omega))
  have a7_422 : vIA cy B g_412 148 5 (fun _ => 0) := vIA_fr a7_401 (fun q h1 h2 => hn_414 q (by omega))
  have a8_423 : vLA cy B g_412 149 541 (fun _ => 0) := vLA_fr a8_402 (fun q h1 h2 => hn_414 q (by omega))
  have a9_424 : vLA cy B g_412 150 1621 (fun _ => 0) := vLA_fr a9_403 (fun q h1 h2 => hn_414 q (by omega))
  have a10_425 : vLA cy B g_412 151 1621 (fun _ => 0) := vLA_fr a10_404 (fun q h1 h2 => hn_414 q (by omega))
  have a11_426 : vLA cy B g_412 152 366 (fun _ => 0) := vLA_fr a11_405 (fun q h1 h2 => hn_414 q (by omega))
  have a12_427 : vLA cy B g_412 153 366 (fun _ => 0) := vLA_fr a12_406 (fun q h1 h2 => hn_414 q (by omega))
  have a13_428 : vLA cy B g_412 154 366 (fun _ => 0) := vLA_fr a13_407 (fun q h1 h2 => hn_414 q (by omega))
  have a14_429 : vLA cy B g_412 155 366 (fun _ => 0) := vLA_fr a14_408 (fun q h1 h2 => hn_414 q (by omega))
  have a15_430 : vIA cy B g_412 156 366 (fun _ => 0) := vIA_fr a15_409 (fun q h1 h2 => hn_414 q (by omega))
  have a16_431 : vIA cy B g_412 157 5 (fun _ => 0) := vIA_fr a16_411 (fun q h1 h2 => hn_414 q (by omega))
  have hfr_432 : ∀ q, q < 141 → g_412 q = g q := fun q hq => (hn_414 q (by omega)).trans (hfr_410 q hq)
  refine w_aload_n dX11_init_140 rfl 0 rfl ?_
  refine w_bipush dX11_init_141 (by decide) ?_
  refine w_newI (n := 6) (by omega) (by omega) (List.mem_of_getElem? (i := 4) rfl) (Nat.le_of_ble_eq_true rfl) (Nat.le_of_ble_eq_true rfl) dX11_init_143 (fun g_433 he_434 hn_435 => ?_)
  have h0_436 : nO11 cy B g_433 141 (.ref (B + 142)) (.ref (B + 143)) (.ref (B + 144)) (.int (zI 0)) (.ref (B + 145)) (.int (zI 0)) (.ref (B + 146)) (.int (zI 0)) (.int (zI 0)) (.ref (B + 147)) (.int (zI 0)) (.int (zI 0)) (.long (zJ 0)) (.long (zJ 0)) (.long (zJ 0)) (.int (zI 0)) (.int (zI 0)) (.int (zI 0)) (.long (zJ 0)) (.ref (B + 148)) (.int (zI 0)) (.ref (B + 149)) (.ref (B + 150)) (.ref (B + 151)) (.ref (B + 152)) (.ref (B + 153)) (.ref (B + 154)) (.ref (B + 155)) (.ref (B + 156)) (.ref (B + 157)) (.null) (.null) := nO11_fr h0_415 (fun q h1 h2 => hn_435 q (by omega))
  have a1_437 : vIA cy B g_433 142 49 (fun _ => 0) := vIA_fr a1_416 (fun q h1 h2 => hn_435 q (by omega))
  have a2_438 : vIA cy B g_433 143 49 (fun _ => 0) := vIA_fr a2_417 (fun q h1 h2 => hn_435 q (by omega))
  have a3_439 : vIA cy B g_433 144 294 (fun _ => 0) := vIA_fr a3_418 (fun q h1 h2 => hn_435 q (by omega))
  have a4_440 : vIA cy B g_433 145 200 (fun _ => 0) := vIA_fr a4_419 (fun q h1 h2 => hn_435 q (by omega))
  have a5_441 : vLA cy B g_433 146 169 (fun _ => 0) := vLA_fr a5_420 (fun q h1 h2 => hn_435 q (by omega))
  have a6_442 : vIA cy B g_433 147 5 (fun _ => 0) := vIA_fr a6_421 (fun q h1 h2 => hn_435 q (by omega))
  have a7_443 : vIA cy B g_433 148 5 (fun _ => 0) := vIA_fr a7_422 (fun q h1 h2 => hn_435 q (by omega))
  have a8_444 : vLA cy B g_433 149 541 (fun _ => 0) := vLA_fr a8_423 (fun q h1 h2 => hn_435 q (by omega))
  have a9_445 : vLA cy B g_433 150 1621 (fun _ => 0) := vLA_fr a9_424 (fun q h1 h2 => hn_435 q (by omega))
  have a10_446 : vLA cy B g_433 151 1621 (fun _ => 0) := vLA_fr a10_425 (fun q h1 h2 => hn_435 q (by omega))
  have a11_447 : vLA cy B g_433 152 366 (fun _ => 0) := vLA_fr a11_426 (fun q h1 h2 => hn_435 q (by omega))
  have a12_448 : vLA cy B g_433 153 366 (fun _ => 0) := vLA_fr a12_427 (fun q h1 h2 => hn_435 q (by omega))
  have a13_449 : vLA cy B g_433 154 366 (fun _ => 0) := vLA_fr a13_428 (fun q h1 h2 => hn_435 q (by omega))
  have a14_450 : vLA cy B g_433 155 366 (fun _ => 0) := vLA_fr a14_429 (fun q h1 h2 => hn_435 q (by omega))
  have a15_451 : vIA cy B g_433 156 366 (fun _ => 0) := vIA_fr a15_430 (fun q h1 h2 => hn_435 q (by omega))
  have a16_452 : vIA cy B g_433 157 5 (fun _ => 0) := vIA_fr a16_431 (fun q h1 h2 => hn_435 q (by omega))
  have hfr_453 : ∀ q, q < 141 → g_433 q = g q := fun q hq => (hn_435 q (by omega)).trans (hfr_432 q hq)
  have a17_454 : vIA cy B g_433 158 6 (fun _ => 0) := he_434
  refine w_putF (i := 30) (T := TX11) (NF := 32) 141 (by first | omega | with_reducible rfl) h0_436 rfl (fun _ h => (List.mem_cons_of_mem _ (List.mem_append_right _ h))) tyX11 tyX11_ok nmX11 (by decide) (List.mem_of_getElem? (i := 22) rfl) rfl hmn rfl rfl rfl (Nat.le_of_ble_eq_true rfl) dX11_init_145 (fun g_455 he_456 hn_457 => ?_)
  have h0_458 : nO11 cy B g_455 141 (.ref (B + 142)) (.ref (B + 143)) (.ref (B + 144)) (.int (zI 0)) (.ref (B + 145)) (.int (zI 0)) (.ref (B + 146)) (.int (zI 0)) (.int (zI 0)) (.ref (B + 147)) (.int (zI 0)) (.int (zI 0)) (.long (zJ 0)) (.long (zJ 0)) (.long (zJ 0)) (.int (zI 0)) (.int (zI 0)) (.int (zI 0)) (.long (zJ 0)) (.ref (B + 148)) (.int (zI 0)) (.ref (B + 149)) (.ref (B + 150)) (.ref (B + 151)) (.ref (B + 152)) (.ref (B + 153)) (.ref (B + 154)) (.ref (B + 155)) (.ref (B + 156)) (.ref (B + 157)) (.ref (B + 158)) (.null) := he_456
  have a1_459 : vIA cy B g_455 142 49 (fun _ => 0) := vIA_fr a1_437 (fun q h1 h2 => hn_457 q (by omega))
  have a2_460 : vIA cy B g_455 143 49 (fun _ => 0) := vIA_fr a2_438 (fun q h1 h2 => hn_457 q (by omega))
  have a3_461 : vIA cy B g_455 144 294 (fun _ => 0) := vIA_fr a3_439 (fun q h1 h2 => hn_457 q (by omega))
  have a4_462 : vIA cy B g_455 145 200 (fun _ => 0) := vIA_fr a4_440 (fun q h1 h2 => hn_457 q (by omega))
  have a5_463 : vLA cy B g_455 146 169 (fun _ => 0) := vLA_fr a5_441 (fun q h1 h2 => hn_457 q (by omega))
  have a6_464 : vIA cy B g_455 147 5 (fun _ => 0) := vIA_fr a6_442 (fun q h1 h2 => hn_457 q (by omega))
  have a7_465 : vIA cy B g_455 148 5 (fun _ => 0) := vIA_fr a7_443 (fun q h1 h2 => hn_457 q (by omega))
  have a8_466 : vLA cy B g_455 149 541 (fun _ => 0) := vLA_fr a8_444 (fun q h1 h2 => hn_457 q (by omega))
  have a9_467 : vLA cy B g_455 150 1621 (fun _ => 0) := vLA_fr a9_445 (fun q h1 h2 => hn_457 q (by omega))
  have a10_468 : vLA cy B g_455 151 1621 (fun _ => 0) := vLA_fr a10_446 (fun q h1 h2 => hn_457 q (by omega))
  have a11_469 : vLA cy B g_455 152 366 (fun _ => 0) := vLA_fr a11_447 (fun q h1 h2 => hn_457 q (by omega))
  have a12_470 : vLA cy B g_455 153 366 (fun _ => 0) := vLA_fr a12_448 (fun q h1 h2 => hn_457 q (by omega))
  have a13_471 : vLA cy B g_455 154 366 (fun _ => 0) := vLA_fr a13_449 (fun q h1 h2 => hn_457 q (by omega))
  have a14_472 : vLA cy B g_455 155 366 (fun _ => 0) := vLA_fr a14_450 (fun q h1 h2 => hn_457 q (by omega))
  have a15_473 : vIA cy B g_455 156 366 (fun _ => 0) := vIA_fr a15_451 (fun q h1 h2 => hn_457 q (by omega))
  have a16_474 : vIA cy B g_455 157 5 (fun _ => 0) := vIA_fr a16_452 (fun q h1 h2 => hn_457 q (by omega))
  have a17_475 : vIA cy B g_455 158 6 (fun _ => 0) := vIA_fr a17_454 (fun q h1 h2 => hn_457 q (by omega))
  have hfr_476 : ∀ q, q < 141 → g_455 q = g q := fun q hq => (hn_457 q (by omega)).trans (hfr_453 q hq)
  refine w_aload_n dX11_init_148 rfl 0 rfl ?_
  refine w_bipush dX11_init_149 (by decide) ?_
  refine w_newJ (n := 6) (by omega) (by omega) (List.mem_of_getElem? (i := 9) rfl) (Nat.le_of_ble_eq_true rfl) (Nat.le_of_ble_eq_true rfl) dX11_init_151 (fun g_477 he_478 hn_479 => ?_)
  have h0_480 : nO11 cy B g_477 141 (.ref (B + 142)) (.ref (B + 143)) (.ref (B + 144)) (.int (zI 0)) (.ref (B + 145)) (.int (zI 0)) (.ref (B + 146)) (.int (zI 0)) (.int (zI 0)) (.ref (B + 147)) (.int (zI 0)) (.int (zI 0)) (.long (zJ 0)) (.long (zJ 0)) (.long (zJ 0)) (.int (zI 0)) (.int (zI 0)) (.int (zI 0)) (.long (zJ 0)) (.ref (B + 148)) (.int (zI 0)) (.ref (B + 149)) (.ref (B + 150)) (.ref (B + 151)) (.ref (B + 152)) (.ref (B + 153)) (.ref (B + 154)) (.ref (B + 155)) (.ref (B + 156)) (.ref (B + 157)) (.ref (B + 158)) (.null) := nO11_fr h0_458 (fun q h1 h2 => hn_479 q (by omega))
  have a1_481 : vIA cy B g_477 142 49 (fun _ => 0) := vIA_fr a1_459 (fun q h1 h2 => hn_479 q (by omega))
  have a2_482 : vIA cy B g_477 143 49 (fun _ => 0) := vIA_fr a2_460 (fun q h1 h2 => hn_479 q (by omega))
  have a3_483 : vIA cy B g_477 144 294 (fun _ => 0) := vIA_fr a3_461 (fun q h1 h2 => hn_479 q (by omega))
  have a4_484 : vIA cy B g_477 145 200 (fun _ => 0) := vIA_fr a4_462 (fun q h1 h2 => hn_479 q (by omega))
  have a5_485 : vLA cy B g_477 146 169 (fun _ => 0) := vLA_fr a5_463 (fun q h1 h2 => hn_479 q (by omega))
  have a6_486 : vIA cy B g_477 147 5 (fun _ => 0) := vIA_fr a6_464 (fun q h1 h2 => hn_479 q (by omega))
  have a7_487 : vIA cy B g_477 148 5 (fun _ => 0) := vIA_fr a7_465 (fun q h1 h2 => hn_479 q (by omega))
  have a8_488 : vLA cy B g_477 149 541 (fun _ => 0) := vLA_fr a8_466 (fun q h1 h2 => hn_479 q (by omega))
  have a9_489 : vLA cy B g_477 150 1621 (fun _ => 0) := vLA_fr a9_467 (fun q h1 h2 => hn_479 q (by omega))
  have a10_490 : vLA cy B g_477 151 1621 (fun _ => 0) := vLA_fr a10_468 (fun q h1 h2 => hn_479 q (by omega))
  have a11_491 : vLA cy B g_477 152 366 (fun _ => 0) := vLA_fr a11_469 (fun q h1 h2 => hn_479 q (by omega))
  have a12_492 : vLA cy B g_477 153 366 (fun _ => 0) := vLA_fr a12_470 (fun q h1 h2 => hn_479 q (by omega))
  have a13_493 : vLA cy B g_477 154 366 (fun _ => 0) := vLA_fr a13_471 (fun q h1 h2 => hn_479 q (by omega))
  have a14_494 : vLA cy B g_477 155 366 (fun _ => 0) := vLA_fr a14_472 (fun q h1 h2 => hn_479 q (by omega))
  have a15_495 : vIA cy B g_477 156 366 (fun _ => 0) := vIA_fr a15_473 (fun q h1 h2 => hn_479 q (by omega))
  have a16_496 : vIA cy B g_477 157 5 (fun _ => 0) := vIA_fr a16_474 (fun q h1 h2 => hn_479 q (by omega))
  have a17_497 : vIA cy B g_477 158 6 (fun _ => 0) := vIA_fr a17_475 (fun q h1 h2 => hn_479 q (by omega))
  have hfr_498 : ∀ q, q < 141 → g_477 q = g q := fun q hq => (hn_479 q (by omega)).trans (hfr_476 q hq)
  have a18_499 : vLA cy B g_477 159 6 (fun _ => 0) := he_478
  refine w_putF (i := 31) (T := TX11) (NF := 32) 141 (by first | omega | with_reducible rfl) h0_480 rfl (fun _ h => (List.mem_cons_of_mem _ (List.mem_append_right _ h))) tyX11 tyX11_ok nmX11 (by decide) (List.mem_of_getElem? (i := 23) rfl) rfl hmn rfl rfl rfl (Nat.le_of_ble_eq_true rfl) dX11_init_153 (fun g_500 he_501 hn_502 => ?_)
  have h0_503 : nO11 cy B g_500 141 (.ref (B + 142)) (.ref (B + 143)) (.ref (B + 144)) (.int (zI 0)) (.ref (B + 145)) (.int (zI 0)) (.ref (B + 146)) (.int (zI 0)) (.int (zI 0)) (.ref (B + 147)) (.int (zI 0)) (.int (zI 0)) (.long (zJ 0)) (.long (zJ 0)) (.long (zJ 0)) (.int (zI 0)) (.int (zI 0)) (.int (zI 0)) (.long (zJ 0)) (.ref (B + 148)) (.int (zI 0)) (.ref (B + 149)) (.ref (B + 150)) (.ref (B + 151)) (.ref (B + 152)) (.ref (B + 153)) (.ref (B + 154)) (.ref (B + 155)) (.ref (B + 156)) (.ref (B + 157)) (.ref (B + 158)) (.ref (B + 159)) := he_501
  have a1_504 : vIA cy B g_500 142 49 (fun _ => 0) := vIA_fr a1_481 (fun q h1 h2 => hn_502 q (by omega))
  have a2_505 : vIA cy B g_500 143 49 (fun _ => 0) := vIA_fr a2_482 (fun q h1 h2 => hn_502 q (by omega))
  have a3_506 : vIA cy B g_500 144 294 (fun _ => 0) := vIA_fr a3_483 (fun q h1 h2 => hn_502 q (by omega))
  have a4_507 : vIA cy B g_500 145 200 (fun _ => 0) := vIA_fr a4_484 (fun q h1 h2 => hn_502 q (by omega))
  have a5_508 : vLA cy B g_500 146 169 (fun _ => 0) := vLA_fr a5_485 (fun q h1 h2 => hn_502 q (by omega))
  have a6_509 : vIA cy B g_500 147 5 (fun _ => 0) := vIA_fr a6_486 (fun q h1 h2 => hn_502 q (by omega))
  have a7_510 : vIA cy B g_500 148 5 (fun _ => 0) := vIA_fr a7_487 (fun q h1 h2 => hn_502 q (by omega))
  have a8_511 : vLA cy B g_500 149 541 (fun _ => 0) := vLA_fr a8_488 (fun q h1 h2 => hn_502 q (by omega))
  have a9_512 : vLA cy B g_500 150 1621 (fun _ => 0) := vLA_fr a9_489 (fun q h1 h2 => hn_502 q (by omega))
  have a10_513 : vLA cy B g_500 151 1621 (fun _ => 0) := vLA_fr a10_490 (fun q h1 h2 => hn_502 q (by omega))
  have a11_514 : vLA cy B g_500 152 366 (fun _ => 0) := vLA_fr a11_491 (fun q h1 h2 => hn_502 q (by omega))
  have a12_515 : vLA cy B g_500 153 366 (fun _ => 0) := vLA_fr a12_492 (fun q h1 h2 => hn_502 q (by omega))
  have a13_516 : vLA cy B g_500 154 366 (fun _ => 0) := vLA_fr a13_493 (fun q h1 h2 => hn_502 q (by omega))
  have a14_517 : vLA cy B g_500 155 366 (fun _ => 0) := vLA_fr a14_494 (fun q h1 h2 => hn_502 q (by omega))
  have a15_518 : vIA cy B g_500 156 366 (fun _ => 0) := vIA_fr a15_495 (fun q h1 h2 => hn_502 q (by omega))
  have a16_519 : vIA cy B g_500 157 5 (fun _ => 0) := vIA_fr a16_496 (fun q h1 h2 => hn_502 q (by omega))
  have a17_520 : vIA cy B g_500 158 6 (fun _ => 0) := vIA_fr a17_497 (fun q h1 h2 => hn_502 q (by omega))
  have a18_521 : vLA cy B g_500 159 6 (fun _ => 0) := vLA_fr a18_499 (fun q h1 h2 => hn_502 q (by omega))
  have hfr_522 : ∀ q, q < 141 → g_500 q = g q := fun q hq => (hn_502 q (by omega)).trans (hfr_498 q hq)
  have hm_523 : vM cy B g_500 141 0 0 0 0 0 0 0 0 0 0 0 0 0 0 := h0_503
  refine w_iconst dX11_init_156 ?_
  refine w_istore_n [(1, .int (zI 0)), (0, .ref (B + 141))] dX11_init_157 rfl (by decide) rfl ?_
  refine w_sub [(0, .ref (B + 141)), (1, .int (zI 0))] [1, 0] rfl ?_
  refine w_lv (lv' := [(0, .ref (B + 141)), (1, .int (zI ((0 : Nat) : Int)))]) (lc_s (lc_i (by first | omega | with_reducible rfl) rfl)) ?_
  refine w_loop3 (fun (t : Nat) (Sv : Int → Int) (gl_524 : (Nat → va_E)) => vIA cy B gl_524 142 49 (fun _ => 0) ∧ vIA cy B gl_524 143 49 (fun _ => 0) ∧ vIA cy B gl_524 144 294 (fun _ => 0) ∧ vIA cy B gl_524 145 200 (fun _ => 0) ∧ vLA cy B gl_524 146 169 Sv ∧ vIA cy B gl_524 147 5 (fun _ => 0) ∧ vIA cy B gl_524 148 5 (fun _ => 0) ∧ vLA cy B gl_524 149 541 (fun _ => 0) ∧ vLA cy B gl_524 150 1621 (fun _ => 0) ∧ vLA cy B gl_524 151 1621 (fun _ => 0) ∧ vLA cy B gl_524 152 366 (fun _ => 0) ∧ vLA cy B gl_524 153 366 (fun _ => 0) ∧ vLA cy B gl_524 154 366 (fun _ => 0) ∧ vLA cy B gl_524 155 366 (fun _ => 0) ∧ vIA cy B gl_524 156 366 (fun _ => 0) ∧ vIA cy B gl_524 157 5 (fun _ => 0) ∧ vIA cy B gl_524 158 6 (fun _ => 0) ∧ vLA cy B gl_524 159 6 (fun _ => 0) ∧ vM cy B gl_524 141 0 0 0 0 0 0 0 0 0 0 0 0 0 0 ∧ (∀ q, q < 141 → gl_524 q = g q) ∧ t ≤ 13 ∧ SetJ t 0 Sv) (fun (t : Nat) (Sv : Int → Int) (gl_524 : (Nat → va_E)) => 13 - t) (fun (t : Nat) (Sv : Int → Int) (gl_524 : (Nat → va_E)) => gl_524) (fun (t : Nat) (Sv : Int → Int) (gl_524 : (Nat → va_E)) => [(0, .ref (B + 141)), (1, .int (zI ((t : Nat) : Int)))]) ?_ 0 (fun _ => 0) g_500 ⟨a1_504, a2_505, a3_506, a4_507, a5_508, a6_509, a7_510, a8_511, a9_512, a10_513, a11_514, a12_515, a13_516, a14_517, a15_518, a16_519, a17_520, a18_521, hm_523, hfr_522, (by first | omega | with_reducible rfl), SetJ_0⟩
  rintro t Sv gl_524 ⟨a1_525, a2_526, a3_527, a4_528, a5_529, a6_530, a7_531, a8_532, a9_533, a10_534, a11_535, a12_536, a13_537, a14_538, a15_539, a16_540, a17_541, a18_542, hm_543, hfr_544, hk, hI⟩ ih_158
  refine w_iload_n dX11_init_158 rfl 1 rfl ?_
  refine w_bipush dX11_init_159 (by decide) ?_
  refine w_icmp_ge 244 dX11_init_161 (by decide) (by first | omega | with_reducible rfl) (by first | omega | with_reducible rfl) (fun c_161 => ?_) (fun c_161 => ?_)
  · refine w_aload_n dX11_init_244 rfl 0 rfl ?_
    have hSJ : SetJ 13 0 Sv := by have h9 := hI; rwa [show t = 13 by omega] at h9
    refine w_callv (As := []) (rest := []) (n := 0) (c_X11_begins hm_543 a2_526 (by first | omega | with_reducible rfl)) gX11_init_X11_begins rfl rfl rfl (by decide +kernel) ⟨Nat.le_of_ble_eq_true rfl, Nat.le_of_ble_eq_true rfl⟩ rfl (by first | omega | with_reducible rfl) hm_543 rfl (Nat.le_of_ble_eq_true rfl) ⟨Nat.le_of_ble_eq_true rfl, Nat.le_of_ble_eq_true rfl⟩ dX11_init_245 rfl (fun g_545 hp_546 => ?_)
    obtain ⟨Rd1_547, a2_548, hz_245, hf_549⟩ := hp_546
    have a1_550 : vIA cy B g_545 142 49 (fun _ => 0) := vIA_fr a1_525 (fun q h1 h2 => hf_549 q (by omega))
    have a3_551 : vIA cy B g_545 144 294 (fun _ => 0) := vIA_fr a3_527 (fun q h1 h2 => hf_549 q (by omega))
    have a4_552 : vIA cy B g_545 145 200 (fun _ => 0) := vIA_fr a4_528 (fun q h1 h2 => hf_549 q (by omega))
    have a5_553 : vLA cy B g_545 146 169 Sv := vLA_fr a5_529 (fun q h1 h2 => hf_549 q (by omega))
    have a6_554 : vIA cy B g_545 147 5 (fun _ => 0) := vIA_fr a6_530 (fun q h1 h2 => hf_549 q (by omega))
    have a7_555 : vIA cy B g_545 148 5 (fun _ => 0) := vIA_fr a7_531 (fun q h1 h2 => hf_549 q (by omega))
    have a8_556 : vLA cy B g_545 149 541 (fun _ => 0) := vLA_fr a8_532 (fun q h1 h2 => hf_549 q (by omega))
    have a9_557 : vLA cy B g_545 150 1621 (fun _ => 0) := vLA_fr a9_533 (fun q h1 h2 => hf_549 q (by omega))
    have a10_558 : vLA cy B g_545 151 1621 (fun _ => 0) := vLA_fr a10_534 (fun q h1 h2 => hf_549 q (by omega))
    have a11_559 : vLA cy B g_545 152 366 (fun _ => 0) := vLA_fr a11_535 (fun q h1 h2 => hf_549 q (by omega))
    have a12_560 : vLA cy B g_545 153 366 (fun _ => 0) := vLA_fr a12_536 (fun q h1 h2 => hf_549 q (by omega))
    have a13_561 : vLA cy B g_545 154 366 (fun _ => 0) := vLA_fr a13_537 (fun q h1 h2 => hf_549 q (by omega))
    have a14_562 : vLA cy B g_545 155 366 (fun _ => 0) := vLA_fr a14_538 (fun q h1 h2 => hf_549 q (by omega))
    have a15_563 : vIA cy B g_545 156 366 (fun _ => 0) := vIA_fr a15_539 (fun q h1 h2 => hf_549 q (by omega))
    have a16_564 : vIA cy B g_545 157 5 (fun _ => 0) := vIA_fr a16_540 (fun q h1 h2 => hf_549 q (by omega))
    have a17_565 : vIA cy B g_545 158 6 (fun _ => 0) := vIA_fr a17_541 (fun q h1 h2 => hf_549 q (by omega))
    have a18_566 : vLA cy B g_545 159 6 (fun _ => 0) := vLA_fr a18_542 (fun q h1 h2 => hf_549 q (by omega))
    have hm_567 : vM cy B g_545 141 0 0 0 0 0 0 0 0 0 0 0 0 0 0 := vM_fr hm_543 (fun q h1 h2 => hf_549 q (by omega))
    have hfr_568 : ∀ q, q < 141 → g_545 q = g q := fun q hq => (hf_549 q (by omega)).trans (hfr_544 q hq)
    have hE0 := ERZ_0 hz_245
    refine w_aload_n dX11_init_248 rfl 0 rfl ?_
    refine w_get (i := 1) (T := TX11) (NF := 32) 141 (by first | omega | with_reducible rfl) hm_567 rfl (fun _ h => (List.mem_cons_of_mem _ (List.mem_append_right _ h))) (by decide) (List.mem_of_getElem? (i := 6) rfl) rfl dX11_init_249 ?_
    refine w_iconst dX11_init_252 ?_
    refine w_iconst dX11_init_253 ?_
    refine w_iast 143 (by first | omega | with_reducible rfl) a2_548 (by first | omega | with_reducible rfl) dX11_init_254 (fun g_569 he_570 hn_571 => ?_)
    have a1_572 : vIA cy B g_569 142 49 (fun _ => 0) := vIA_fr a1_550 (fun q h1 h2 => hn_571 q (by omega))
    have a2_573 : vIA cy B g_569 143 49 (uZ Rd1_547 0 1) := he_570
    have a3_574 : vIA cy B g_569 144 294 (fun _ => 0) := vIA_fr a3_551 (fun q h1 h2 => hn_571 q (by omega))
    have a4_575 : vIA cy B g_569 145 200 (fun _ => 0) := vIA_fr a4_552 (fun q h1 h2 => hn_571 q (by omega))
    have a5_576 : vLA cy B g_569 146 169 Sv := vLA_fr a5_553 (fun q h1 h2 => hn_571 q (by omega))
    have a6_577 : vIA cy B g_569 147 5 (fun _ => 0) := vIA_fr a6_554 (fun q h1 h2 => hn_571 q (by omega))
    have a7_578 : vIA cy B g_569 148 5 (fun _ => 0) := vIA_fr a7_555 (fun q h1 h2 => hn_571 q (by omega))
    have a8_579 : vLA cy B g_569 149 541 (fun _ => 0) := vLA_fr a8_556 (fun q h1 h2 => hn_571 q (by omega))
    have a9_580 : vLA cy B g_569 150 1621 (fun _ => 0) := vLA_fr a9_557 (fun q h1 h2 => hn_571 q (by omega))
    have a10_581 : vLA cy B g_569 151 1621 (fun _ => 0) := vLA_fr a10_558 (fun q h1 h2 => hn_571 q (by omega))
    have a11_582 : vLA cy B g_569 152 366 (fun _ => 0) := vLA_fr a11_559 (fun q h1 h2 => hn_571 q (by omega))
    have a12_583 : vLA cy B g_569 153 366 (fun _ => 0) := vLA_fr a12_560 (fun q h1 h2 => hn_571 q (by omega))
    have a13_584 : vLA cy B g_569 154 366 (fun _ => 0) := vLA_fr a13_561 (fun q h1 h2 => hn_571 q (by omega))
    have a14_585 : vLA cy B g_569 155 366 (fun _ => 0) := vLA_fr a14_562 (fun q h1 h2 => hn_571 q (by omega))
    have a15_586 : vIA cy B g_569 156 366 (fun _ => 0) := vIA_fr a15_563 (fun q h1 h2 => hn_571 q (by omega))
    have a16_587 : vIA cy B g_569 157 5 (fun _ => 0) := vIA_fr a16_564 (fun q h1 h2 => hn_571 q (by omega))
    have a17_588 : vIA cy B g_569 158 6 (fun _ => 0) := vIA_fr a17_565 (fun q h1 h2 => hn_571 q (by omega))
    have a18_589 : vLA cy B g_569 159 6 (fun _ => 0) := vLA_fr a18_566 (fun q h1 h2 => hn_571 q (by omega))
    have hm_590 : vM cy B g_569 141 0 0 0 0 0 0 0 0 0 0 0 0 0 0 := vM_fr hm_567 (fun q h1 h2 => hn_571 q (by omega))
    have hfr_591 : ∀ q, q < 141 → g_569 q = g q := fun q hq => (hn_571 q (by omega)).trans (hfr_568 q hq)
    have hE1 := ERZ_s1 (z := 1) hE0 (by decide) rfl
    refine w_aload_n dX11_init_255 rfl 0 rfl ?_
    refine w_bipush dX11_init_256 (by decide) ?_
    refine w_iconst dX11_init_258 ?_
    refine w_iconst dX11_init_259 ?_
    refine w_callv (As := [.int (zI 8), .int (zI 1), .int (zI 0)]) (rest := []) (n := 3) (c_X11_puts (A := ([] : St)) (x := ([] : List Co)) hm_590 a2_573 (by first | omega | with_reducible rfl) hE1 (by decide)) gX11_init_X11_puts rfl rfl rfl (by decide +kernel) ⟨Nat.le_of_ble_eq_true rfl, Nat.le_of_ble_eq_true rfl⟩ rfl (by first | omega | with_reducible rfl) hm_590 rfl (Nat.le_of_ble_eq_true rfl) ⟨Nat.le_of_ble_eq_true rfl, Nat.le_of_ble_eq_true rfl⟩ dX11_init_260 rfl (fun g_592 hp_593 => ?_)
    obtain ⟨Rd1_594, a2_595, hE1_260, hf_596⟩ := hp_593
    have a1_597 : vIA cy B g_592 142 49 (fun _ => 0) := vIA_fr a1_572 (fun q h1 h2 => hf_596 q (by omega))
    have a3_598 : vIA cy B g_592 144 294 (fun _ => 0) := vIA_fr a3_574 (fun q h1 h2 => hf_596 q (by omega))
    have a4_599 : vIA cy B g_592 145 200 (fun _ => 0) := vIA_fr a4_575 (fun q h1 h2 => hf_596 q (by omega))
    have a5_600 : vLA cy B g_592 146 169 Sv := vLA_fr a5_576 (fun q h1 h2 => hf_596 q (by omega))
    have a6_601 : vIA cy B g_592 147 5 (fun _ => 0) := vIA_fr a6_577 (fun q h1 h2 => hf_596 q (by omega))
    have a7_602 : vIA cy B g_592 148 5 (fun _ => 0) := vIA_fr a7_578 (fun q h1 h2 => hf_596 q (by omega))
    have a8_603 : vLA cy B g_592 149 541 (fun _ => 0) := vLA_fr a8_579 (fun q h1 h2 => hf_596 q (by omega))
    have a9_604 : vLA cy B g_592 150 1621 (fun _ => 0) := vLA_fr a9_580 (fun q h1 h2 => hf_596 q (by omega))
    have a10_605 : vLA cy B g_592 151 1621 (fun _ => 0) := vLA_fr a10_581 (fun q h1 h2 => hf_596 q (by omega))
    have a11_606 : vLA cy B g_592 152 366 (fun _ => 0) := vLA_fr a11_582 (fun q h1 h2 => hf_596 q (by omega))
    have a12_607 : vLA cy B g_592 153 366 (fun _ => 0) := vLA_fr a12_583 (fun q h1 h2 => hf_596 q (by omega))
    have a13_608 : vLA cy B g_592 154 366 (fun _ => 0) := vLA_fr a13_584 (fun q h1 h2 => hf_596 q (by omega))
    have a14_609 : vLA cy B g_592 155 366 (fun _ => 0) := vLA_fr a14_585 (fun q h1 h2 => hf_596 q (by omega))
    have a15_610 : vIA cy B g_592 156 366 (fun _ => 0) := vIA_fr a15_586 (fun q h1 h2 => hf_596 q (by omega))
    have a16_611 : vIA cy B g_592 157 5 (fun _ => 0) := vIA_fr a16_587 (fun q h1 h2 => hf_596 q (by omega))
    have a17_612 : vIA cy B g_592 158 6 (fun _ => 0) := vIA_fr a17_588 (fun q h1 h2 => hf_596 q (by omega))
    have a18_613 : vLA cy B g_592 159 6 (fun _ => 0) := vLA_fr a18_589 (fun q h1 h2 => hf_596 q (by omega))
    have hm_614 : vM cy B g_592 141 0 0 0 0 0 0 0 0 0 0 0 0 0 0 := vM_fr hm_590 (fun q h1 h2 => hf_596 q (by omega))
    have hfr_615 : ∀ q, q < 141 → g_592 q = g q := fun q hq => (hf_596 q (by omega)).trans (hfr_591 q hq)
    refine w_aload_n dX11_init_263 rfl 0 rfl ?_
    refine w_bipush dX11_init_264 (by decide) ?_
    refine w_iconst dX11_init_266 ?_
    refine w_iconst dX11_init_267 ?_
    refine w_callv (As := [.int (zI 7), .int (zI 3), .int (zI 1)]) (rest := []) (n := 3) (c_X11_puts (A := ([] : St)) (x := ([(8, 1, 0)] : List Co)) hm_614 a2_595 (by first | omega | with_reducible rfl) hE1_260 (by decide)) gX11_init_X11_puts rfl rfl rfl (by decide +kernel) ⟨Nat.le_of_ble_eq_true rfl, Nat.le_of_ble_eq_true rfl⟩ rfl (by first | omega | with_reducible rfl) hm_614 rfl (Nat.le_of_ble_eq_true rfl) ⟨Nat.le_of_ble_eq_true rfl, Nat.le_of_ble_eq_true rfl⟩ dX11_init_268 rfl (fun g_616 hp_617 => ?_)
    obtain ⟨Rd1_618, a2_619, hE1_268, hf_620⟩ := hp_617
    have a1_621 : vIA cy B g_616 142 49 (fun _ => 0) := vIA_fr a1_597 (fun q h1 h2 => hf_620 q (by omega))
    have a3_622 : vIA cy B g_616 144 294 (fun _ => 0) := vIA_fr a3_598 (fun q h1 h2 => hf_620 q (by omega))
    have a4_623 : vIA cy B g_616 145 200 (fun _ => 0) := vIA_fr a4_599 (fun q h1 h2 => hf_620 q (by omega))
    have a5_624 : vLA cy B g_616 146 169 Sv := vLA_fr a5_600 (fun q h1 h2 => hf_620 q (by omega))
    have a6_625 : vIA cy B g_616 147 5 (fun _ => 0) := vIA_fr a6_601 (fun q h1 h2 => hf_620 q (by omega))
    have a7_626 : vIA cy B g_616 148 5 (fun _ => 0) := vIA_fr a7_602 (fun q h1 h2 => hf_620 q (by omega))
    have a8_627 : vLA cy B g_616 149 541 (fun _ => 0) := vLA_fr a8_603 (fun q h1 h2 => hf_620 q (by omega))
    have a9_628 : vLA cy B g_616 150 1621 (fun _ => 0) := vLA_fr a9_604 (fun q h1 h2 => hf_620 q (by omega))
    have a10_629 : vLA cy B g_616 151 1621 (fun _ => 0) := vLA_fr a10_605 (fun q h1 h2 => hf_620 q (by omega))
    have a11_630 : vLA cy B g_616 152 366 (fun _ => 0) := vLA_fr a11_606 (fun q h1 h2 => hf_620 q (by omega))
    have a12_631 : vLA cy B g_616 153 366 (fun _ => 0) := vLA_fr a12_607 (fun q h1 h2 => hf_620 q (by omega))
    have a13_632 : vLA cy B g_616 154 366 (fun _ => 0) := vLA_fr a13_608 (fun q h1 h2 => hf_620 q (by omega))
    have a14_633 : vLA cy B g_616 155 366 (fun _ => 0) := vLA_fr a14_609 (fun q h1 h2 => hf_620 q (by omega))
    have a15_634 : vIA cy B g_616 156 366 (fun _ => 0) := vIA_fr a15_610 (fun q h1 h2 => hf_620 q (by omega))
    have a16_635 : vIA cy B g_616 157 5 (fun _ => 0) := vIA_fr a16_611 (fun q h1 h2 => hf_620 q (by omega))
    have a17_636 : vIA cy B g_616 158 6 (fun _ => 0) := vIA_fr a17_612 (fun q h1 h2 => hf_620 q (by omega))
    have a18_637 : vLA cy B g_616 159 6 (fun _ => 0) := vLA_fr a18_613 (fun q h1 h2 => hf_620 q (by omega))
    have hm_638 : vM cy B g_616 141 0 0 0 0 0 0 0 0 0 0 0 0 0 0 := vM_fr hm_614 (fun q h1 h2 => hf_620 q (by omega))
    have hfr_639 : ∀ q, q < 141 → g_616 q = g q := fun q hq => (hf_620 q (by omega)).trans (hfr_615 q hq)
    refine w_aload_n dX11_init_271 rfl 0 rfl ?_
    refine w_bipush dX11_init_272 (by decide) ?_
    refine w_bipush dX11_init_274 (by decide) ?_
    refine w_iconst dX11_init_276 ?_
    refine w_callv (As := [.int (zI 9), .int (zI 6), .int (zI 2)]) (rest := []) (n := 3) (c_X11_puts (A := ([] : St)) (x := ([(8, 1, 0), (7, 3, 1)] : List Co)) hm_638 a2_619 (by first | omega | with_reducible rfl) hE1_268 (by decide)) gX11_init_X11_puts rfl rfl rfl (by decide +kernel) ⟨Nat.le_of_ble_eq_true rfl, Nat.le_of_ble_eq_true rfl⟩ rfl (by first | omega | with_reducible rfl) hm_638 rfl (Nat.le_of_ble_eq_true rfl) ⟨Nat.le_of_ble_eq_true rfl, Nat.le_of_ble_eq_true rfl⟩ dX11_init_277 rfl (fun g_640 hp_641 => ?_)
    obtain ⟨Rd1_642, a2_643, hE1_277, hf_644⟩ := hp_641
    have a1_645 : vIA cy B g_640 142 49 (fun _ => 0) := vIA_fr a1_621 (fun q h1 h2 => hf_644 q (by omega))
    have a3_646 : vIA cy B g_640 144 294 (fun _ => 0) := vIA_fr a3_622 (fun q h1 h2 => hf_644 q (by omega))
    have a4_647 : vIA cy B g_640 145 200 (fun _ => 0) := vIA_fr a4_623 (fun q h1 h2 => hf_644 q (by omega))
    have a5_648 : vLA cy B g_640 146 169 Sv := vLA_fr a5_624 (fun q h1 h2 => hf_644 q (by omega))
    have a6_649 : vIA cy B g_640 147 5 (fun _ => 0) := vIA_fr a6_625 (fun q h1 h2 => hf_644 q (by omega))
    have a7_650 : vIA cy B g_640 148 5 (fun _ => 0) := vIA_fr a7_626 (fun q h1 h2 => hf_644 q (by omega))
    have a8_651 : vLA cy B g_640 149 541 (fun _ => 0) := vLA_fr a8_627 (fun q h1 h2 => hf_644 q (by omega))
    have a9_652 : vLA cy B g_640 150 1621 (fun _ => 0) := vLA_fr a9_628 (fun q h1 h2 => hf_644 q (by omega))
    have a10_653 : vLA cy B g_640 151 1621 (fun _ => 0) := vLA_fr a10_629 (fun q h1 h2 => hf_644 q (by omega))
    have a11_654 : vLA cy B g_640 152 366 (fun _ => 0) := vLA_fr a11_630 (fun q h1 h2 => hf_644 q (by omega))
    have a12_655 : vLA cy B g_640 153 366 (fun _ => 0) := vLA_fr a12_631 (fun q h1 h2 => hf_644 q (by omega))
    have a13_656 : vLA cy B g_640 154 366 (fun _ => 0) := vLA_fr a13_632 (fun q h1 h2 => hf_644 q (by omega))
    have a14_657 : vLA cy B g_640 155 366 (fun _ => 0) := vLA_fr a14_633 (fun q h1 h2 => hf_644 q (by omega))
    have a15_658 : vIA cy B g_640 156 366 (fun _ => 0) := vIA_fr a15_634 (fun q h1 h2 => hf_644 q (by omega))
    have a16_659 : vIA cy B g_640 157 5 (fun _ => 0) := vIA_fr a16_635 (fun q h1 h2 => hf_644 q (by omega))
    have a17_660 : vIA cy B g_640 158 6 (fun _ => 0) := vIA_fr a17_636 (fun q h1 h2 => hf_644 q (by omega))
    have a18_661 : vLA cy B g_640 159 6 (fun _ => 0) := vLA_fr a18_637 (fun q h1 h2 => hf_644 q (by omega))
    have hm_662 : vM cy B g_640 141 0 0 0 0 0 0 0 0 0 0 0 0 0 0 := vM_fr hm_638 (fun q h1 h2 => hf_644 q (by omega))
    have hfr_663 : ∀ q, q < 141 → g_640 q = g q := fun q hq => (hf_644 q (by omega)).trans (hfr_639 q hq)
    refine w_aload_n dX11_init_280 rfl 0 rfl ?_
    refine w_bipush dX11_init_281 (by decide) ?_
    refine w_iconst dX11_init_283 ?_
    refine w_iconst dX11_init_284 ?_
    refine w_callv (As := [.int (zI 6), .int (zI 5), .int (zI 3)]) (rest := []) (n := 3) (c_X11_puts (A := ([] : St)) (x := ([(8, 1, 0), (7, 3, 1), (9, 6, 2)] : List Co)) hm_662 a2_643 (by first | omega | with_reducible rfl) hE1_277 (by decide)) gX11_init_X11_puts rfl rfl rfl (by decide +kernel) ⟨Nat.le_of_ble_eq_true rfl, Nat.le_of_ble_eq_true rfl⟩ rfl (by first | omega | with_reducible rfl) hm_662 rfl (Nat.le_of_ble_eq_true rfl) ⟨Nat.le_of_ble_eq_true rfl, Nat.le_of_ble_eq_true rfl⟩ dX11_init_285 rfl (fun g_664 hp_665 => ?_)
    obtain ⟨Rd1_666, a2_667, hE1_285, hf_668⟩ := hp_665
    have a1_669 : vIA cy B g_664 142 49 (fun _ => 0) := vIA_fr a1_645 (fun q h1 h2 => hf_668 q (by omega))
    have a3_670 : vIA cy B g_664 144 294 (fun _ => 0) := vIA_fr a3_646 (fun q h1 h2 => hf_668 q (by omega))
    have a4_671 : vIA cy B g_664 145 200 (fun _ => 0) := vIA_fr a4_647 (fun q h1 h2 => hf_668 q (by omega))
    have a5_672 : vLA cy B g_664 146 169 Sv := vLA_fr a5_648 (fun q h1 h2 => hf_668 q (by omega))
    have a6_673 : vIA cy B g_664 147 5 (fun _ => 0) := vIA_fr a6_649 (fun q h1 h2 => hf_668 q (by omega))
    have a7_674 : vIA cy B g_664 148 5 (fun _ => 0) := vIA_fr a7_650 (fun q h1 h2 => hf_668 q (by omega))
    have a8_675 : vLA cy B g_664 149 541 (fun _ => 0) := vLA_fr a8_651 (fun q h1 h2 => hf_668 q (by omega))
    have a9_676 : vLA cy B g_664 150 1621 (fun _ => 0) := vLA_fr a9_652 (fun q h1 h2 => hf_668 q (by omega))
    have a10_677 : vLA cy B g_664 151 1621 (fun _ => 0) := vLA_fr a10_653 (fun q h1 h2 => hf_668 q (by omega))
    have a11_678 : vLA cy B g_664 152 366 (fun _ => 0) := vLA_fr a11_654 (fun q h1 h2 => hf_668 q (by omega))
    have a12_679 : vLA cy B g_664 153 366 (fun _ => 0) := vLA_fr a12_655 (fun q h1 h2 => hf_668 q (by omega))
    have a13_680 : vLA cy B g_664 154 366 (fun _ => 0) := vLA_fr a13_656 (fun q h1 h2 => hf_668 q (by omega))
    have a14_681 : vLA cy B g_664 155 366 (fun _ => 0) := vLA_fr a14_657 (fun q h1 h2 => hf_668 q (by omega))
    have a15_682 : vIA cy B g_664 156 366 (fun _ => 0) := vIA_fr a15_658 (fun q h1 h2 => hf_668 q (by omega))
    have a16_683 : vIA cy B g_664 157 5 (fun _ => 0) := vIA_fr a16_659 (fun q h1 h2 => hf_668 q (by omega))
    have a17_684 : vIA cy B g_664 158 6 (fun _ => 0) := vIA_fr a17_660 (fun q h1 h2 => hf_668 q (by omega))
    have a18_685 : vLA cy B g_664 159 6 (fun _ => 0) := vLA_fr a18_661 (fun q h1 h2 => hf_668 q (by omega))
    have hm_686 : vM cy B g_664 141 0 0 0 0 0 0 0 0 0 0 0 0 0 0 := vM_fr hm_662 (fun q h1 h2 => hf_668 q (by omega))
    have hfr_687 : ∀ q, q < 141 → g_664 q = g q := fun q hq => (hf_668 q (by omega)).trans (hfr_663 q hq)
    refine w_aload_n dX11_init_288 rfl 0 rfl ?_
    refine w_get (i := 1) (T := TX11) (NF := 32) 141 (by first | omega | with_reducible rfl) hm_686 rfl (fun _ h => (List.mem_cons_of_mem _ (List.mem_append_right _ h))) (by decide) (List.mem_of_getElem? (i := 6) rfl) rfl dX11_init_289 ?_
    refine w_iconst dX11_init_292 ?_
    refine w_iconst dX11_init_293 ?_
    refine w_iast 143 (by first | omega | with_reducible rfl) a2_667 (by first | omega | with_reducible rfl) dX11_init_294 (fun g_688 he_689 hn_690 => ?_)
    have a1_691 : vIA cy B g_688 142 49 (fun _ => 0) := vIA_fr a1_669 (fun q h1 h2 => hn_690 q (by omega))
    have a2_692 : vIA cy B g_688 143 49 (uZ Rd1_666 0 2) := he_689
    have a3_693 : vIA cy B g_688 144 294 (fun _ => 0) := vIA_fr a3_670 (fun q h1 h2 => hn_690 q (by omega))
    have a4_694 : vIA cy B g_688 145 200 (fun _ => 0) := vIA_fr a4_671 (fun q h1 h2 => hn_690 q (by omega))
    have a5_695 : vLA cy B g_688 146 169 Sv := vLA_fr a5_672 (fun q h1 h2 => hn_690 q (by omega))
    have a6_696 : vIA cy B g_688 147 5 (fun _ => 0) := vIA_fr a6_673 (fun q h1 h2 => hn_690 q (by omega))
    have a7_697 : vIA cy B g_688 148 5 (fun _ => 0) := vIA_fr a7_674 (fun q h1 h2 => hn_690 q (by omega))
    have a8_698 : vLA cy B g_688 149 541 (fun _ => 0) := vLA_fr a8_675 (fun q h1 h2 => hn_690 q (by omega))
    have a9_699 : vLA cy B g_688 150 1621 (fun _ => 0) := vLA_fr a9_676 (fun q h1 h2 => hn_690 q (by omega))
    have a10_700 : vLA cy B g_688 151 1621 (fun _ => 0) := vLA_fr a10_677 (fun q h1 h2 => hn_690 q (by omega))
    have a11_701 : vLA cy B g_688 152 366 (fun _ => 0) := vLA_fr a11_678 (fun q h1 h2 => hn_690 q (by omega))
    have a12_702 : vLA cy B g_688 153 366 (fun _ => 0) := vLA_fr a12_679 (fun q h1 h2 => hn_690 q (by omega))
    have a13_703 : vLA cy B g_688 154 366 (fun _ => 0) := vLA_fr a13_680 (fun q h1 h2 => hn_690 q (by omega))
    have a14_704 : vLA cy B g_688 155 366 (fun _ => 0) := vLA_fr a14_681 (fun q h1 h2 => hn_690 q (by omega))
    have a15_705 : vIA cy B g_688 156 366 (fun _ => 0) := vIA_fr a15_682 (fun q h1 h2 => hn_690 q (by omega))
    have a16_706 : vIA cy B g_688 157 5 (fun _ => 0) := vIA_fr a16_683 (fun q h1 h2 => hn_690 q (by omega))
    have a17_707 : vIA cy B g_688 158 6 (fun _ => 0) := vIA_fr a17_684 (fun q h1 h2 => hn_690 q (by omega))
    have a18_708 : vLA cy B g_688 159 6 (fun _ => 0) := vLA_fr a18_685 (fun q h1 h2 => hn_690 q (by omega))
    have hm_709 : vM cy B g_688 141 0 0 0 0 0 0 0 0 0 0 0 0 0 0 := vM_fr hm_686 (fun q h1 h2 => hn_690 q (by omega))
    have hfr_710 : ∀ q, q < 141 → g_688 q = g q := fun q hq => (hn_690 q (by omega)).trans (hfr_687 q hq)
    have hE5 := ERZ_s1 (z := 2) (S := [[(8, 1, 0), (7, 3, 1), (9, 6, 2), (6, 5, 3)]]) hE1_285 (by decide) rfl
    refine w_aload_n dX11_init_295 rfl 0 rfl ?_
    refine w_iconst dX11_init_296 ?_
    refine w_iconst dX11_init_297 ?_
    refine w_iconst dX11_init_298 ?_
    refine w_callv (As := [.int (zI 5), .int (zI 1), .int (zI 0)]) (rest := []) (n := 3) (c_X11_puts (A := ([[(8, 1, 0), (7, 3, 1), (9, 6, 2), (6, 5, 3)]] : St)) (x := ([] : List Co)) hm_709 a2_692 (by first | omega | with_reducible rfl) hE5 (by decide)) gX11_init_X11_puts rfl rfl rfl (by decide +kernel) ⟨Nat.le_of_ble_eq_true rfl, Nat.le_of_ble_eq_true rfl⟩ rfl (by first | omega | with_reducible rfl) hm_709 rfl (Nat.le_of_ble_eq_true rfl) ⟨Nat.le_of_ble_eq_true rfl, Nat.le_of_ble_eq_true rfl⟩ dX11_init_299 rfl (fun g_711 hp_712 => ?_)
    obtain ⟨Rd1_713, a2_714, hE1_299, hf_715⟩ := hp_712
    have a1_716 : vIA cy B g_711 142 49 (fun _ => 0) := vIA_fr a1_691 (fun q h1 h2 => hf_715 q (by omega))
    have a3_717 : vIA cy B g_711 144 294 (fun _ => 0) := vIA_fr a3_693 (fun q h1 h2 => hf_715 q (by omega))
    have a4_718 : vIA cy B g_711 145 200 (fun _ => 0) := vIA_fr a4_694 (fun q h1 h2 => hf_715 q (by omega))
    have a5_719 : vLA cy B g_711 146 169 Sv := vLA_fr a5_695 (fun q h1 h2 => hf_715 q (by omega))
    have a6_720 : vIA cy B g_711 147 5 (fun _ => 0) := vIA_fr a6_696 (fun q h1 h2 => hf_715 q (by omega))
    have a7_721 : vIA cy B g_711 148 5 (fun _ => 0) := vIA_fr a7_697 (fun q h1 h2 => hf_715 q (by omega))
    have a8_722 : vLA cy B g_711 149 541 (fun _ => 0) := vLA_fr a8_698 (fun q h1 h2 => hf_715 q (by omega))
    have a9_723 : vLA cy B g_711 150 1621 (fun _ => 0) := vLA_fr a9_699 (fun q h1 h2 => hf_715 q (by omega))
    have a10_724 : vLA cy B g_711 151 1621 (fun _ => 0) := vLA_fr a10_700 (fun q h1 h2 => hf_715 q (by omega))
    have a11_725 : vLA cy B g_711 152 366 (fun _ => 0) := vLA_fr a11_701 (fun q h1 h2 => hf_715 q (by omega))
    have a12_726 : vLA cy B g_711 153 366 (fun _ => 0) := vLA_fr a12_702 (fun q h1 h2 => hf_715 q (by omega))
    have a13_727 : vLA cy B g_711 154 366 (fun _ => 0) := vLA_fr a13_703 (fun q h1 h2 => hf_715 q (by omega))
    have a14_728 : vLA cy B g_711 155 366 (fun _ => 0) := vLA_fr a14_704 (fun q h1 h2 => hf_715 q (by omega))
    have a15_729 : vIA cy B g_711 156 366 (fun _ => 0) := vIA_fr a15_705 (fun q h1 h2 => hf_715 q (by omega))
    have a16_730 : vIA cy B g_711 157 5 (fun _ => 0) := vIA_fr a16_706 (fun q h1 h2 => hf_715 q (by omega))
    have a17_731 : vIA cy B g_711 158 6 (fun _ => 0) := vIA_fr a17_707 (fun q h1 h2 => hf_715 q (by omega))
    have a18_732 : vLA cy B g_711 159 6 (fun _ => 0) := vLA_fr a18_708 (fun q h1 h2 => hf_715 q (by omega))
    have hm_733 : vM cy B g_711 141 0 0 0 0 0 0 0 0 0 0 0 0 0 0 := vM_fr hm_709 (fun q h1 h2 => hf_715 q (by omega))
    have hfr_734 : ∀ q, q < 141 → g_711 q = g q := fun q hq => (hf_715 q (by omega)).trans (hfr_710 q hq)
    refine w_aload_n dX11_init_302 rfl 0 rfl ?_
    refine w_bipush dX11_init_303 (by decide) ?_
    refine w_iconst dX11_init_305 ?_
    refine w_iconst dX11_init_306 ?_
    refine w_callv (As := [.int (zI 6), .int (zI 4), .int (zI 2)]) (rest := []) (n := 3) (c_X11_puts (A := ([[(8, 1, 0), (7, 3, 1), (9, 6, 2), (6, 5, 3)]] : St)) (x := ([(5, 1, 0)] : List Co)) hm_733 a2_714 (by first | omega | with_reducible rfl) hE1_299 (by decide)) gX11_init_X11_puts rfl rfl rfl (by decide +kernel) ⟨Nat.le_of_ble_eq_true rfl, Nat.le_of_ble_eq_true rfl⟩ rfl (by first | omega | with_reducible rfl) hm_733 rfl (Nat.le_of_ble_eq_true rfl) ⟨Nat.le_of_ble_eq_true rfl, Nat.le_of_ble_eq_true rfl⟩ dX11_init_307 rfl (fun g_735 hp_736 => ?_)
    obtain ⟨Rd1_737, a2_738, hE1_307, hf_739⟩ := hp_736
    have a1_740 : vIA cy B g_735 142 49 (fun _ => 0) := vIA_fr a1_716 (fun q h1 h2 => hf_739 q (by omega))
    have a3_741 : vIA cy B g_735 144 294 (fun _ => 0) := vIA_fr a3_717 (fun q h1 h2 => hf_739 q (by omega))
    have a4_742 : vIA cy B g_735 145 200 (fun _ => 0) := vIA_fr a4_718 (fun q h1 h2 => hf_739 q (by omega))
    have a5_743 : vLA cy B g_735 146 169 Sv := vLA_fr a5_719 (fun q h1 h2 => hf_739 q (by omega))
    have a6_744 : vIA cy B g_735 147 5 (fun _ => 0) := vIA_fr a6_720 (fun q h1 h2 => hf_739 q (by omega))
    have a7_745 : vIA cy B g_735 148 5 (fun _ => 0) := vIA_fr a7_721 (fun q h1 h2 => hf_739 q (by omega))
    have a8_746 : vLA cy B g_735 149 541 (fun _ => 0) := vLA_fr a8_722 (fun q h1 h2 => hf_739 q (by omega))
    have a9_747 : vLA cy B g_735 150 1621 (fun _ => 0) := vLA_fr a9_723 (fun q h1 h2 => hf_739 q (by omega))
    have a10_748 : vLA cy B g_735 151 1621 (fun _ => 0) := vLA_fr a10_724 (fun q h1 h2 => hf_739 q (by omega))
    have a11_749 : vLA cy B g_735 152 366 (fun _ => 0) := vLA_fr a11_725 (fun q h1 h2 => hf_739 q (by omega))
    have a12_750 : vLA cy B g_735 153 366 (fun _ => 0) := vLA_fr a12_726 (fun q h1 h2 => hf_739 q (by omega))
    have a13_751 : vLA cy B g_735 154 366 (fun _ => 0) := vLA_fr a13_727 (fun q h1 h2 => hf_739 q (by omega))
    have a14_752 : vLA cy B g_735 155 366 (fun _ => 0) := vLA_fr a14_728 (fun q h1 h2 => hf_739 q (by omega))
    have a15_753 : vIA cy B g_735 156 366 (fun _ => 0) := vIA_fr a15_729 (fun q h1 h2 => hf_739 q (by omega))
    have a16_754 : vIA cy B g_735 157 5 (fun _ => 0) := vIA_fr a16_730 (fun q h1 h2 => hf_739 q (by omega))
    have a17_755 : vIA cy B g_735 158 6 (fun _ => 0) := vIA_fr a17_731 (fun q h1 h2 => hf_739 q (by omega))
    have a18_756 : vLA cy B g_735 159 6 (fun _ => 0) := vLA_fr a18_732 (fun q h1 h2 => hf_739 q (by omega))
    have hm_757 : vM cy B g_735 141 0 0 0 0 0 0 0 0 0 0 0 0 0 0 := vM_fr hm_733 (fun q h1 h2 => hf_739 q (by omega))
    have hfr_758 : ∀ q, q < 141 → g_735 q = g q := fun q hq => (hf_739 q (by omega)).trans (hfr_734 q hq)
    have hE6 : ERZ _ firstS := hE1_307
    refine w_aload_n dX11_init_310 rfl 0 rfl ?_
    refine w_callv (As := []) (rest := []) (n := 0) (c_X11_takes hm_757 a1_740 a2_738 (by first | omega | with_reducible rfl)) gX11_init_X11_takes rfl rfl rfl (by decide +kernel) ⟨Nat.le_of_ble_eq_true rfl, Nat.le_of_ble_eq_true rfl⟩ rfl (by first | omega | with_reducible rfl) hm_757 rfl (Nat.le_of_ble_eq_true rfl) ⟨Nat.le_of_ble_eq_true rfl, Nat.le_of_ble_eq_true rfl⟩ dX11_init_311 rfl (fun g_759 hp_760 => ?_)
    obtain ⟨Nw1_761, hm_762, a1_763, hz_311, hf_764⟩ := hp_760
    have a2_765 : vIA cy B g_759 143 49 Rd1_737 := vIA_fr a2_738 (fun q h1 h2 => hf_764 q (by omega))
    have a3_766 : vIA cy B g_759 144 294 (fun _ => 0) := vIA_fr a3_741 (fun q h1 h2 => hf_764 q (by omega))
    have a4_767 : vIA cy B g_759 145 200 (fun _ => 0) := vIA_fr a4_742 (fun q h1 h2 => hf_764 q (by omega))
    have a5_768 : vLA cy B g_759 146 169 Sv := vLA_fr a5_743 (fun q h1 h2 => hf_764 q (by omega))
    have a6_769 : vIA cy B g_759 147 5 (fun _ => 0) := vIA_fr a6_744 (fun q h1 h2 => hf_764 q (by omega))
    have a7_770 : vIA cy B g_759 148 5 (fun _ => 0) := vIA_fr a7_745 (fun q h1 h2 => hf_764 q (by omega))
    have a8_771 : vLA cy B g_759 149 541 (fun _ => 0) := vLA_fr a8_746 (fun q h1 h2 => hf_764 q (by omega))
    have a9_772 : vLA cy B g_759 150 1621 (fun _ => 0) := vLA_fr a9_747 (fun q h1 h2 => hf_764 q (by omega))
    have a10_773 : vLA cy B g_759 151 1621 (fun _ => 0) := vLA_fr a10_748 (fun q h1 h2 => hf_764 q (by omega))
    have a11_774 : vLA cy B g_759 152 366 (fun _ => 0) := vLA_fr a11_749 (fun q h1 h2 => hf_764 q (by omega))
    have a12_775 : vLA cy B g_759 153 366 (fun _ => 0) := vLA_fr a12_750 (fun q h1 h2 => hf_764 q (by omega))
    have a13_776 : vLA cy B g_759 154 366 (fun _ => 0) := vLA_fr a13_751 (fun q h1 h2 => hf_764 q (by omega))
    have a14_777 : vLA cy B g_759 155 366 (fun _ => 0) := vLA_fr a14_752 (fun q h1 h2 => hf_764 q (by omega))
    have a15_778 : vIA cy B g_759 156 366 (fun _ => 0) := vIA_fr a15_753 (fun q h1 h2 => hf_764 q (by omega))
    have a16_779 : vIA cy B g_759 157 5 (fun _ => 0) := vIA_fr a16_754 (fun q h1 h2 => hf_764 q (by omega))
    have a17_780 : vIA cy B g_759 158 6 (fun _ => 0) := vIA_fr a17_755 (fun q h1 h2 => hf_764 q (by omega))
    have a18_781 : vLA cy B g_759 159 6 (fun _ => 0) := vLA_fr a18_756 (fun q h1 h2 => hf_764 q (by omega))
    have hfr_782 : ∀ q, q < 141 → g_759 q = g q := fun q hq => (hf_764 q (by omega)).trans (hfr_758 q hq)
    exact w_vret dX11_init_314 rfl ⟨⟨_, _, _, _, _, _, _, _, _, _, _, _, _, _, _, _, _, _, _, _, _, _, _, _, _, _, _, _, _, _, _, _, ⟨hm_762, a1_763, a2_765, a3_766, a4_767, a5_768, a6_769, a7_770, a8_771, a9_772, a10_773, a11_774, a12_775, a13_776, a14_777, a15_778, a16_779, a17_780, a18_781⟩, ⟨rfl, rfl, ⟨by omega, by omega⟩, ⟨by omega, by omega⟩, ⟨by omega, by omega⟩, ⟨by omega, by omega⟩⟩, ER_congr hE6.1 hz_311, ⟨by decide, fun i hi => absurd hi (Nat.not_lt_zero i)⟩, (fun i h1 h2 => by omega), SetJ_ok hSJ⟩, hfr_782⟩
  · refine w_aload_n dX11_init_164 rfl 0 rfl ?_
    refine w_get (i := 6) (T := TX11) (NF := 32) 141 (by first | omega | with_reducible rfl) hm_543 rfl (fun _ h => (List.mem_cons_of_mem _ (List.mem_append_right _ h))) (by decide) (List.mem_of_getElem? (i := 10) rfl) rfl dX11_init_165 ?_
    refine w_bipush dX11_init_168 (by decide) ?_
    refine w_iload_n dX11_init_170 rfl 1 rfl ?_
    refine w_imul dX11_init_171 ?_
    refine w_lconst1 dX11_init_172 ?_
    refine w_last 146 (by first | omega | with_reducible rfl) a5_529 (by first | omega | with_reducible rfl) dX11_init_173 (fun g_783 he_784 hn_785 => ?_)
    have a1_786 : vIA cy B g_783 142 49 (fun _ => 0) := vIA_fr a1_525 (fun q h1 h2 => hn_785 q (by omega))
    have a2_787 : vIA cy B g_783 143 49 (fun _ => 0) := vIA_fr a2_526 (fun q h1 h2 => hn_785 q (by omega))
    have a3_788 : vIA cy B g_783 144 294 (fun _ => 0) := vIA_fr a3_527 (fun q h1 h2 => hn_785 q (by omega))
    have a4_789 : vIA cy B g_783 145 200 (fun _ => 0) := vIA_fr a4_528 (fun q h1 h2 => hn_785 q (by omega))
    have a5_790 : vLA cy B g_783 146 169 (uZ Sv (13 * ((t : Nat) : Int)) 1) := he_784
    have a6_791 : vIA cy B g_783 147 5 (fun _ => 0) := vIA_fr a6_530 (fun q h1 h2 => hn_785 q (by omega))
    have a7_792 : vIA cy B g_783 148 5 (fun _ => 0) := vIA_fr a7_531 (fun q h1 h2 => hn_785 q (by omega))
    have a8_793 : vLA cy B g_783 149 541 (fun _ => 0) := vLA_fr a8_532 (fun q h1 h2 => hn_785 q (by omega))
    have a9_794 : vLA cy B g_783 150 1621 (fun _ => 0) := vLA_fr a9_533 (fun q h1 h2 => hn_785 q (by omega))
    have a10_795 : vLA cy B g_783 151 1621 (fun _ => 0) := vLA_fr a10_534 (fun q h1 h2 => hn_785 q (by omega))
    have a11_796 : vLA cy B g_783 152 366 (fun _ => 0) := vLA_fr a11_535 (fun q h1 h2 => hn_785 q (by omega))
    have a12_797 : vLA cy B g_783 153 366 (fun _ => 0) := vLA_fr a12_536 (fun q h1 h2 => hn_785 q (by omega))
    have a13_798 : vLA cy B g_783 154 366 (fun _ => 0) := vLA_fr a13_537 (fun q h1 h2 => hn_785 q (by omega))
    have a14_799 : vLA cy B g_783 155 366 (fun _ => 0) := vLA_fr a14_538 (fun q h1 h2 => hn_785 q (by omega))
    have a15_800 : vIA cy B g_783 156 366 (fun _ => 0) := vIA_fr a15_539 (fun q h1 h2 => hn_785 q (by omega))
    have a16_801 : vIA cy B g_783 157 5 (fun _ => 0) := vIA_fr a16_540 (fun q h1 h2 => hn_785 q (by omega))
    have a17_802 : vIA cy B g_783 158 6 (fun _ => 0) := vIA_fr a17_541 (fun q h1 h2 => hn_785 q (by omega))
    have a18_803 : vLA cy B g_783 159 6 (fun _ => 0) := vLA_fr a18_542 (fun q h1 h2 => hn_785 q (by omega))
    have hm_804 : vM cy B g_783 141 0 0 0 0 0 0 0 0 0 0 0 0 0 0 := vM_fr hm_543 (fun q h1 h2 => hn_785 q (by omega))
    have hfr_805 : ∀ q, q < 141 → g_783 q = g q := fun q hq => (hn_785 q (by omega)).trans (hfr_544 q hq)
    refine w_iconst dX11_init_174 ?_
    refine w_istore_n [(2, .int (zI 1)), (0, .ref (B + 141)), (1, .int (zI ((t : Nat) : Int)))] dX11_init_175 rfl (by decide) rfl ?_
    refine w_sub [(0, .ref (B + 141)), (1, .int (zI ((t : Nat) : Int))), (2, .int (zI 1))] [1, 2, 0] rfl ?_
    refine w_lv (lv' := [(0, .ref (B + 141)), (1, .int (zI ((t : Nat) : Int))), (2, .int (zI ((1 : Nat) : Int)))]) (lc_s (lc_s (lc_i (by first | omega | with_reducible rfl) rfl))) ?_
    refine w_loop3 (fun (u : Nat) (S1 : Int → Int) (gl_806 : (Nat → va_E)) => vIA cy B gl_806 142 49 (fun _ => 0) ∧ vIA cy B gl_806 143 49 (fun _ => 0) ∧ vIA cy B gl_806 144 294 (fun _ => 0) ∧ vIA cy B gl_806 145 200 (fun _ => 0) ∧ vLA cy B gl_806 146 169 S1 ∧ vIA cy B gl_806 147 5 (fun _ => 0) ∧ vIA cy B gl_806 148 5 (fun _ => 0) ∧ vLA cy B gl_806 149 541 (fun _ => 0) ∧ vLA cy B gl_806 150 1621 (fun _ => 0) ∧ vLA cy B gl_806 151 1621 (fun _ => 0) ∧ vLA cy B gl_806 152 366 (fun _ => 0) ∧ vLA cy B gl_806 153 366 (fun _ => 0) ∧ vLA cy B gl_806 154 366 (fun _ => 0) ∧ vLA cy B gl_806 155 366 (fun _ => 0) ∧ vIA cy B gl_806 156 366 (fun _ => 0) ∧ vIA cy B gl_806 157 5 (fun _ => 0) ∧ vIA cy B gl_806 158 6 (fun _ => 0) ∧ vLA cy B gl_806 159 6 (fun _ => 0) ∧ vM cy B gl_806 141 0 0 0 0 0 0 0 0 0 0 0 0 0 0 ∧ (∀ q, q < 141 → gl_806 q = g q) ∧ (1 ≤ u ∧ u ≤ t + 1) ∧ SetJ t u S1) (fun (u : Nat) (S1 : Int → Int) (gl_806 : (Nat → va_E)) => t + 1 - u) (fun (u : Nat) (S1 : Int → Int) (gl_806 : (Nat → va_E)) => gl_806) (fun (u : Nat) (S1 : Int → Int) (gl_806 : (Nat → va_E)) => [(0, .ref (B + 141)), (1, .int (zI ((t : Nat) : Int))), (2, .int (zI ((u : Nat) : Int)))]) ?_ 1 (uZ Sv (13 * ((t : Nat) : Int)) 1) g_783 ⟨a1_786, a2_787, a3_788, a4_789, a5_790, a6_791, a7_792, a8_793, a9_794, a10_795, a11_796, a12_797, a13_798, a14_799, a15_800, a16_801, a17_802, a18_803, hm_804, hfr_805, (by first | omega | with_reducible rfl), (SetJ_1 hI rfl)⟩
    rintro u S1 gl_806 ⟨a1_807, a2_808, a3_809, a4_810, a5_811, a6_812, a7_813, a8_814, a9_815, a10_816, a11_817, a12_818, a13_819, a14_820, a15_821, a16_822, a17_823, a18_824, hm_825, hfr_826, hu, hJ⟩ ih_176
    refine w_iload_n dX11_init_176 rfl 2 rfl ?_
    refine w_iload_n dX11_init_177 rfl 1 rfl ?_
    refine w_icmp_gt 238 dX11_init_178 (by decide) (by first | omega | with_reducible rfl) (by first | omega | with_reducible rfl) (fun c_178 => ?_) (fun c_178 => ?_)
    · refine w_iinc 1 [(1, .int (zI (((t : Nat) : Int) + 1))), (0, .ref (B + 141)), (2, .int (zI ((u : Nat) : Int)))] dX11_init_238 rfl (by decide) rfl ?_
      refine w_goto 158 dX11_init_241 (by decide) ?_
      refine w_sub [(0, .ref (B + 141)), (1, .int (zI (((t : Nat) : Int) + 1)))] [1, 0] rfl ?_
      refine w_lv (lv' := [(0, .ref (B + 141)), (1, .int (zI (((t + 1) : Nat) : Int)))]) (lc_s (lc_i (by first | omega | with_reducible rfl) rfl)) ?_
      exact ih_158 (t + 1) S1 gl_806 ⟨a1_807, a2_808, a3_809, a4_810, a5_811, a6_812, a7_813, a8_814, a9_815, a10_816, a11_817, a12_818, a13_819, a14_820, a15_821, a16_822, a17_823, a18_824, hm_825, hfr_826, (by first | omega | with_reducible rfl), (SetJ_n (by have h9 := hJ; rwa [show u = t + 1 by omega] at h9))⟩ (by first | omega | with_reducible rfl)
    · have hl1 := SetJ_le hJ (t - 1) (u - 1) (by omega) (by omega)
      rw [show 13 * ((t - 1 : Nat) : Int) + ((u - 1 : Nat) : Int) = 13 * ((t : Nat) : Int) - 13 + ((u : Nat) : Int) - 1 by omega] at hl1
      refine w_aload_n dX11_init_181 rfl 0 rfl ?_
      refine w_get (i := 6) (T := TX11) (NF := 32) 141 (by first | omega | with_reducible rfl) hm_825 rfl (fun _ h => (List.mem_cons_of_mem _ (List.mem_append_right _ h))) (by decide) (List.mem_of_getElem? (i := 10) rfl) rfl dX11_init_182 ?_
      refine w_bipush dX11_init_185 (by decide) ?_
      refine w_iload_n dX11_init_187 rfl 1 rfl ?_
      refine w_imul dX11_init_188 ?_
      refine w_iload_n dX11_init_189 rfl 2 rfl ?_
      refine w_iadd dX11_init_190 ?_
      refine w_aload_n dX11_init_191 rfl 0 rfl ?_
      refine w_get (i := 6) (T := TX11) (NF := 32) 141 (by first | omega | with_reducible rfl) hm_825 rfl (fun _ h => (List.mem_cons_of_mem _ (List.mem_append_right _ h))) (by decide) (List.mem_of_getElem? (i := 10) rfl) rfl dX11_init_192 ?_
      refine w_bipush dX11_init_195 (by decide) ?_
      refine w_iload_n dX11_init_197 rfl 1 rfl ?_
      refine w_imul dX11_init_198 ?_
      refine w_bipush dX11_init_199 (by decide) ?_
      refine w_isub dX11_init_201 ?_
      refine w_iload_n dX11_init_202 rfl 2 rfl ?_
      refine w_iadd dX11_init_203 ?_
      refine w_iconst dX11_init_204 ?_
      refine w_isub dX11_init_205 ?_
      refine w_lald 146 (by first | omega | with_reducible rfl) a5_811 (by first | omega | with_reducible rfl) dX11_init_206 ?_
      refine w_iload_n dX11_init_207 rfl 2 rfl ?_
      refine w_iload_n dX11_init_208 rfl 1 rfl ?_
      refine w_icmp_ge 229 dX11_init_209 (by decide) (by first | omega | with_reducible rfl) (by first | omega | with_reducible rfl) (fun c_209 => ?_) (fun c_209 => ?_)
      · refine w_lconst0 dX11_init_229 ?_
        refine w_ladd dX11_init_230 ?_
        refine w_last 146 (by first | omega | with_reducible rfl) a5_811 (by first | omega | with_reducible rfl) dX11_init_231 (fun g_827 he_828 hn_829 => ?_)
        have a1_830 : vIA cy B g_827 142 49 (fun _ => 0) := vIA_fr a1_807 (fun q h1 h2 => hn_829 q (by omega))
        have a2_831 : vIA cy B g_827 143 49 (fun _ => 0) := vIA_fr a2_808 (fun q h1 h2 => hn_829 q (by omega))
        have a3_832 : vIA cy B g_827 144 294 (fun _ => 0) := vIA_fr a3_809 (fun q h1 h2 => hn_829 q (by omega))
        have a4_833 : vIA cy B g_827 145 200 (fun _ => 0) := vIA_fr a4_810 (fun q h1 h2 => hn_829 q (by omega))
        have a5_834 : vLA cy B g_827 146 169 (uZ S1 ((13 * ((t : Nat) : Int)) + ((u : Nat) : Int)) ((S1 ((((13 * ((t : Nat) : Int)) - 13) + ((u : Nat) : Int)) - 1)) + 0)) := he_828
        have a6_835 : vIA cy B g_827 147 5 (fun _ => 0) := vIA_fr a6_812 (fun q h1 h2 => hn_829 q (by omega))
        have a7_836 : vIA cy B g_827 148 5 (fun _ => 0) := vIA_fr a7_813 (fun q h1 h2 => hn_829 q (by omega))
        have a8_837 : vLA cy B g_827 149 541 (fun _ => 0) := vLA_fr a8_814 (fun q h1 h2 => hn_829 q (by omega))
        have a9_838 : vLA cy B g_827 150 1621 (fun _ => 0) := vLA_fr a9_815 (fun q h1 h2 => hn_829 q (by omega))
        have a10_839 : vLA cy B g_827 151 1621 (fun _ => 0) := vLA_fr a10_816 (fun q h1 h2 => hn_829 q (by omega))
        have a11_840 : vLA cy B g_827 152 366 (fun _ => 0) := vLA_fr a11_817 (fun q h1 h2 => hn_829 q (by omega))
        have a12_841 : vLA cy B g_827 153 366 (fun _ => 0) := vLA_fr a12_818 (fun q h1 h2 => hn_829 q (by omega))
        have a13_842 : vLA cy B g_827 154 366 (fun _ => 0) := vLA_fr a13_819 (fun q h1 h2 => hn_829 q (by omega))
        have a14_843 : vLA cy B g_827 155 366 (fun _ => 0) := vLA_fr a14_820 (fun q h1 h2 => hn_829 q (by omega))
        have a15_844 : vIA cy B g_827 156 366 (fun _ => 0) := vIA_fr a15_821 (fun q h1 h2 => hn_829 q (by omega))
        have a16_845 : vIA cy B g_827 157 5 (fun _ => 0) := vIA_fr a16_822 (fun q h1 h2 => hn_829 q (by omega))
        have a17_846 : vIA cy B g_827 158 6 (fun _ => 0) := vIA_fr a17_823 (fun q h1 h2 => hn_829 q (by omega))
        have a18_847 : vLA cy B g_827 159 6 (fun _ => 0) := vLA_fr a18_824 (fun q h1 h2 => hn_829 q (by omega))
        have hm_848 : vM cy B g_827 141 0 0 0 0 0 0 0 0 0 0 0 0 0 0 := vM_fr hm_825 (fun q h1 h2 => hn_829 q (by omega))
        have hfr_849 : ∀ q, q < 141 → g_827 q = g q := fun q hq => (hn_829 q (by omega)).trans (hfr_826 q hq)
        refine w_iinc 2 [(2, .int (zI (((u : Nat) : Int) + 1))), (0, .ref (B + 141)), (1, .int (zI ((t : Nat) : Int)))] dX11_init_232 rfl (by decide) rfl ?_
        refine w_goto 176 dX11_init_235 (by decide) ?_
        refine w_sub [(0, .ref (B + 141)), (1, .int (zI ((t : Nat) : Int))), (2, .int (zI (((u : Nat) : Int) + 1)))] [1, 2, 0] rfl ?_
        refine w_lv (lv' := [(0, .ref (B + 141)), (1, .int (zI ((t : Nat) : Int))), (2, .int (zI (((u + 1) : Nat) : Int)))]) (lc_s (lc_s (lc_i (by first | omega | with_reducible rfl) rfl))) ?_
        exact ih_176 (u + 1) (uZ S1 ((13 * ((t : Nat) : Int)) + ((u : Nat) : Int)) ((S1 ((((13 * ((t : Nat) : Int)) - 13) + ((u : Nat) : Int)) - 1)) + 0)) g_827 ⟨a1_830, a2_831, a3_832, a4_833, a5_834, a6_835, a7_836, a8_837, a9_838, a10_839, a11_840, a12_841, a13_842, a14_843, a15_844, a16_845, a17_846, a18_847, hm_848, hfr_849, (by first | omega | with_reducible rfl), (SetJ_u ⟨by omega, by omega, by omega⟩ hJ rfl (by first | (rw [if_pos (by omega)]; rfl) | (rw [if_neg (by omega)]; rfl) | (rw [if_pos (by omega)]) | (rw [if_neg (by omega)])))⟩ (by first | omega | with_reducible rfl)
      · refine w_aload_n dX11_init_212 rfl 0 rfl ?_
        refine w_get (i := 6) (T := TX11) (NF := 32) 141 (by first | omega | with_reducible rfl) hm_825 rfl (fun _ h => (List.mem_cons_of_mem _ (List.mem_append_right _ h))) (by decide) (List.mem_of_getElem? (i := 10) rfl) rfl dX11_init_213 ?_
        refine w_bipush dX11_init_216 (by decide) ?_
        refine w_iload_n dX11_init_218 rfl 1 rfl ?_
        refine w_imul dX11_init_219 ?_
        refine w_bipush dX11_init_220 (by decide) ?_
        refine w_isub dX11_init_222 ?_
        refine w_iload_n dX11_init_223 rfl 2 rfl ?_
        refine w_iadd dX11_init_224 ?_
        refine w_lald 146 (by first | omega | with_reducible rfl) a5_811 (by first | omega | with_reducible rfl) dX11_init_225 ?_
        refine w_goto 230 dX11_init_226 (by decide) ?_
        refine w_ladd dX11_init_230 ?_
        refine w_last 146 (by first | omega | with_reducible rfl) a5_811 (by first | omega | with_reducible rfl) dX11_init_231 (fun g_850 he_851 hn_852 => ?_)
        have a1_853 : vIA cy B g_850 142 49 (fun _ => 0) := vIA_fr a1_807 (fun q h1 h2 => hn_852 q (by omega))
        have a2_854 : vIA cy B g_850 143 49 (fun _ => 0) := vIA_fr a2_808 (fun q h1 h2 => hn_852 q (by omega))
        have a3_855 : vIA cy B g_850 144 294 (fun _ => 0) := vIA_fr a3_809 (fun q h1 h2 => hn_852 q (by omega))
        have a4_856 : vIA cy B g_850 145 200 (fun _ => 0) := vIA_fr a4_810 (fun q h1 h2 => hn_852 q (by omega))
        have a5_857 : vLA cy B g_850 146 169 (uZ S1 ((13 * ((t : Nat) : Int)) + ((u : Nat) : Int)) ((S1 ((((13 * ((t : Nat) : Int)) - 13) + ((u : Nat) : Int)) - 1)) + (S1 (((13 * ((t : Nat) : Int)) - 13) + ((u : Nat) : Int))))) := he_851
        have a6_858 : vIA cy B g_850 147 5 (fun _ => 0) := vIA_fr a6_812 (fun q h1 h2 => hn_852 q (by omega))
        have a7_859 : vIA cy B g_850 148 5 (fun _ => 0) := vIA_fr a7_813 (fun q h1 h2 => hn_852 q (by omega))
        have a8_860 : vLA cy B g_850 149 541 (fun _ => 0) := vLA_fr a8_814 (fun q h1 h2 => hn_852 q (by omega))
        have a9_861 : vLA cy B g_850 150 1621 (fun _ => 0) := vLA_fr a9_815 (fun q h1 h2 => hn_852 q (by omega))
        have a10_862 : vLA cy B g_850 151 1621 (fun _ => 0) := vLA_fr a10_816 (fun q h1 h2 => hn_852 q (by omega))
        have a11_863 : vLA cy B g_850 152 366 (fun _ => 0) := vLA_fr a11_817 (fun q h1 h2 => hn_852 q (by omega))
        have a12_864 : vLA cy B g_850 153 366 (fun _ => 0) := vLA_fr a12_818 (fun q h1 h2 => hn_852 q (by omega))
        have a13_865 : vLA cy B g_850 154 366 (fun _ => 0) := vLA_fr a13_819 (fun q h1 h2 => hn_852 q (by omega))
        have a14_866 : vLA cy B g_850 155 366 (fun _ => 0) := vLA_fr a14_820 (fun q h1 h2 => hn_852 q (by omega))
        have a15_867 : vIA cy B g_850 156 366 (fun _ => 0) := vIA_fr a15_821 (fun q h1 h2 => hn_852 q (by omega))
        have a16_868 : vIA cy B g_850 157 5 (fun _ => 0) := vIA_fr a16_822 (fun q h1 h2 => hn_852 q (by omega))
        have a17_869 : vIA cy B g_850 158 6 (fun _ => 0) := vIA_fr a17_823 (fun q h1 h2 => hn_852 q (by omega))
        have a18_870 : vLA cy B g_850 159 6 (fun _ => 0) := vLA_fr a18_824 (fun q h1 h2 => hn_852 q (by omega))
        have hm_871 : vM cy B g_850 141 0 0 0 0 0 0 0 0 0 0 0 0 0 0 := vM_fr hm_825 (fun q h1 h2 => hn_852 q (by omega))
        have hfr_872 : ∀ q, q < 141 → g_850 q = g q := fun q hq => (hn_852 q (by omega)).trans (hfr_826 q hq)
        refine w_iinc 2 [(2, .int (zI (((u : Nat) : Int) + 1))), (0, .ref (B + 141)), (1, .int (zI ((t : Nat) : Int)))] dX11_init_232 rfl (by decide) rfl ?_
        refine w_goto 176 dX11_init_235 (by decide) ?_
        refine w_sub [(0, .ref (B + 141)), (1, .int (zI ((t : Nat) : Int))), (2, .int (zI (((u : Nat) : Int) + 1)))] [1, 2, 0] rfl ?_
        refine w_lv (lv' := [(0, .ref (B + 141)), (1, .int (zI ((t : Nat) : Int))), (2, .int (zI (((u + 1) : Nat) : Int)))]) (lc_s (lc_s (lc_i (by first | omega | with_reducible rfl) rfl))) ?_
        exact ih_176 (u + 1) (uZ S1 ((13 * ((t : Nat) : Int)) + ((u : Nat) : Int)) ((S1 ((((13 * ((t : Nat) : Int)) - 13) + ((u : Nat) : Int)) - 1)) + (S1 (((13 * ((t : Nat) : Int)) - 13) + ((u : Nat) : Int))))) g_850 ⟨a1_853, a2_854, a3_855, a4_856, a5_857, a6_858, a7_859, a8_860, a9_861, a10_862, a11_863, a12_864, a13_865, a14_866, a15_867, a16_868, a17_869, a18_870, hm_871, hfr_872, (by first | omega | with_reducible rfl), (SetJ_u ⟨by omega, by omega, by omega⟩ hJ rfl (by first | (rw [if_pos (by omega)]; rfl) | (rw [if_neg (by omega)]; rfl) | (rw [if_pos (by omega)]) | (rw [if_neg (by omega)])))⟩ (by first | omega | with_reducible rfl)
