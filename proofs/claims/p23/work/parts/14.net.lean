/-! ===== MarginTables$Net: at, put, isThere, fewest, most ===== -/
def pG (G : Nat → Int → Int) (kd : Nat) (i v : Int) : Nat → Int → Int := uF G kd (uZ (G kd) i v)
theorem pG_at (G : Nat → Int → Int) (kd : Nat) (i v : Int) (k : Nat) (x : Int) : pG G kd i v k x = if k = kd ∧ x = i then v else G k x := by
  unfold pG
  by_cases hk : k = kd
  · subst hk
    rw [uF_same]
    by_cases hx : x = i
    · rw [if_pos ⟨rfl, hx⟩, hx, uZ_same]
    · rw [if_neg (fun h => hx h.2), uZ_ne hx]
  · rw [if_neg (fun h => hk h.1), uF_ne hk]
def atA (G : Nat → Int → Int) (kd j a : Int) : Int := if 0 ≤ kd ∧ kd < 8 ∧ 0 ≤ j ∧ j ≤ 5 ∧ 0 ≤ a ∧ a < 61 then G kd.toNat (j * 61 + a) else 0
theorem atA_in {G : Nat → Int → Int} {kd j a : Int} {q : Nat} {i : Int} (hq : kd = (q : Int)) (h : q < 8 ∧ 0 ≤ j ∧ j ≤ 5 ∧ 0 ≤ a ∧ a < 61) (hi : j * 61 + a = i) : atA G kd j a = G q i := by
  unfold atA
  rw [if_pos (by omega), show kd.toNat = q by omega, hi]
theorem atA_out {G : Nat → Int → Int} {kd j a : Int} (h : ¬ (0 ≤ kd ∧ kd < 8 ∧ 0 ≤ j ∧ j ≤ 5 ∧ 0 ≤ a ∧ a < 61)) : atA G kd j a = 0 := if_neg h
set_option maxHeartbeats 4000000 in
set_option maxRecDepth 100000 in
theorem c_X2_at {l : Launch} {D : va_G} {cy : Nat → ClassId} {B N : Nat} {g : Nat → va_E} {b cb : Nat} {tf : Int → Int} {aa ver : Int} {G : Nat → Int → Int} {kd j a : Int} (hn : vNet cy B g b cb tf aa ver G) (hB : b + 11 ≤ N) (h_kd : -2147483648 ≤ kd ∧ kd < 2147483648) (h_j : -2147483648 ≤ j ∧ j < 2147483648) (h_a : -2147483648 ≤ a ∧ a < 2147483648) : CTl l yX2_at wsX2_at (rmo 0 0) D cy B N g [.ref (B + b), .int (zI kd), .int (zI j), .int (zI a)] (atA G kd j a) (fun g' => g' = g) := by
  refine WW_of (cc := cX2_at) (maxL := 4) (ret := (some .long)) (own := RX2) (by decide) rfl rfl (Nat.le_of_ble_eq_true rfl) rfl ?_
  intro pp ee ss mm bl me co hmn
  refine w_iload_n dX2_at_0 rfl 1 rfl ?_
  refine w_if_lt 29 dX2_at_1 (by decide) (by first | omega | with_reducible rfl) (fun c_1 => ?_) (fun c_1 => ?_)
  · refine w_lconst0 dX2_at_29 ?_
    exact w_lret dX2_at_30 rfl (by first | (rw [atA_in hkn (by omega) rfl]) | (rw [atA_out (by omega)])) rfl
  · refine w_iload_n dX2_at_4 rfl 1 rfl ?_
    refine w_bipush dX2_at_5 (by decide) ?_
    refine w_icmp_ge 29 dX2_at_7 (by decide) (by first | omega | with_reducible rfl) (by first | omega | with_reducible rfl) (fun c_7 => ?_) (fun c_7 => ?_)
    · refine w_lconst0 dX2_at_29 ?_
      exact w_lret dX2_at_30 rfl (by first | (rw [atA_in hkn (by omega) rfl]) | (rw [atA_out (by omega)])) rfl
    · refine w_iload_n dX2_at_10 rfl 2 rfl ?_
      refine w_if_lt 29 dX2_at_11 (by decide) (by first | omega | with_reducible rfl) (fun c_11 => ?_) (fun c_11 => ?_)
      · refine w_lconst0 dX2_at_29 ?_
        exact w_lret dX2_at_30 rfl (by first | (rw [atA_in hkn (by omega) rfl]) | (rw [atA_out (by omega)])) rfl
      · refine w_iload_n dX2_at_14 rfl 2 rfl ?_
        refine w_iconst dX2_at_15 ?_
        refine w_icmp_gt 29 dX2_at_16 (by decide) (by first | omega | with_reducible rfl) (by first | omega | with_reducible rfl) (fun c_16 => ?_) (fun c_16 => ?_)
        · refine w_lconst0 dX2_at_29 ?_
          exact w_lret dX2_at_30 rfl (by first | (rw [atA_in hkn (by omega) rfl]) | (rw [atA_out (by omega)])) rfl
        · refine w_iload_n dX2_at_19 rfl 3 rfl ?_
          refine w_if_lt 29 dX2_at_20 (by decide) (by first | omega | with_reducible rfl) (fun c_20 => ?_) (fun c_20 => ?_)
          · refine w_lconst0 dX2_at_29 ?_
            exact w_lret dX2_at_30 rfl (by first | (rw [atA_in hkn (by omega) rfl]) | (rw [atA_out (by omega)])) rfl
          · refine w_iload_n dX2_at_23 rfl 3 rfl ?_
            refine w_bipush dX2_at_24 (by decide) ?_
            refine w_icmp_lt 31 dX2_at_26 (by decide) (by first | omega | with_reducible rfl) (by first | omega | with_reducible rfl) (fun c_26 => ?_) (fun c_26 => ?_)
            · obtain ⟨kn, hkn⟩ := Int.eq_ofNat_of_zero_le (show 0 ≤ kd by omega)
              refine w_aload_n dX2_at_31 rfl 0 rfl ?_
              refine w_get (i := 1) (T := TX2) (NF := 5) b (by first | omega | with_reducible rfl) hn.1 rfl (fun _ h => (List.mem_cons_of_mem _ (List.mem_append_right _ h))) (by decide) (List.mem_of_getElem? (i := 1) rfl) rfl dX2_at_32 ?_
              refine w_iload_n dX2_at_35 rfl 1 rfl ?_
              refine w_aald (j := kn) (k' := (b + (kn + 2))) (b + 1) (by first | omega | with_reducible rfl) hn.2.1 rfl rfl (by first | omega | with_reducible rfl) (by first | omega | with_reducible rfl) (by first | omega | with_reducible rfl) dX2_at_36 ?_
              refine w_iload_n dX2_at_37 rfl 2 rfl ?_
              refine w_bipush dX2_at_38 (by decide) ?_
              refine w_imul dX2_at_40 ?_
              refine w_iload_n dX2_at_41 rfl 3 rfl ?_
              refine w_iadd dX2_at_42 ?_
              refine w_lald (b + (kn + 2)) (by first | omega | with_reducible rfl) (hn.2.2.1 kn (by first | omega | with_reducible rfl)) (by first | omega | with_reducible rfl) dX2_at_43 ?_
              exact w_lret dX2_at_44 rfl (by first | (rw [atA_in hkn (by omega) rfl]) | (rw [atA_out (by omega)])) rfl
            · refine w_lconst0 dX2_at_29 ?_
              exact w_lret dX2_at_30 rfl (by first | (rw [atA_in hkn (by omega) rfl]) | (rw [atA_out (by omega)])) rfl
set_option maxHeartbeats 4000000 in
set_option maxRecDepth 100000 in
theorem c_X2_put {l : Launch} {D : va_G} {cy : Nat → ClassId} {B N : Nat} {g : Nat → va_E} {b cb : Nat} {tf : Int → Int} {aa ver : Int} {G : Nat → Int → Int} {kn : Nat} {j a v : Int} (hn : vNet cy B g b cb tf aa ver G) (hB : b + 11 ≤ N) (hk : kn < 8) (hj : 0 ≤ j ∧ j ≤ 5) (ha : 0 ≤ a ∧ a < 61) : CTv l yX2_put wsX2_put (rmo 0 0) D cy B N g [.ref (B + b), .int (zI ((kn : Nat) : Int)), .int (zI j), .int (zI a), .long (zJ v)] (fun g' => vNet cy B g' b cb tf aa ver (pG G kn (j * 61 + a) v) ∧ (∀ q, (q < b ∨ b + 11 ≤ q) → g' q = g q)) := by
  refine WW_of (cc := cX2_put) (maxL := 6) (ret := none) (own := RX2) (by decide) rfl rfl (Nat.le_of_ble_eq_true rfl) rfl ?_
  intro pp ee ss mm bl me co hmn
  have hfr_0 : ∀ q, (q < b ∨ b + 11 ≤ q) → g q = g q := fun _ _ => rfl
  refine w_iload_n dX2_put_0 rfl 1 rfl ?_
  refine w_if_lt 29 dX2_put_1 (by decide) (by first | omega | with_reducible rfl) (fun c_1 => ?_) (fun c_1 => ?_)
  · exfalso; omega
  · refine w_iload_n dX2_put_4 rfl 1 rfl ?_
    refine w_bipush dX2_put_5 (by decide) ?_
    refine w_icmp_ge 29 dX2_put_7 (by decide) (by first | omega | with_reducible rfl) (by first | omega | with_reducible rfl) (fun c_7 => ?_) (fun c_7 => ?_)
    · exfalso; omega
    · refine w_iload_n dX2_put_10 rfl 2 rfl ?_
      refine w_if_lt 29 dX2_put_11 (by decide) (by first | omega | with_reducible rfl) (fun c_11 => ?_) (fun c_11 => ?_)
      · exfalso; omega
      · refine w_iload_n dX2_put_14 rfl 2 rfl ?_
        refine w_iconst dX2_put_15 ?_
        refine w_icmp_gt 29 dX2_put_16 (by decide) (by first | omega | with_reducible rfl) (by first | omega | with_reducible rfl) (fun c_16 => ?_) (fun c_16 => ?_)
        · exfalso; omega
        · refine w_iload_n dX2_put_19 rfl 3 rfl ?_
          refine w_if_lt 29 dX2_put_20 (by decide) (by first | omega | with_reducible rfl) (fun c_20 => ?_) (fun c_20 => ?_)
          · exfalso; omega
          · refine w_iload_n dX2_put_23 rfl 3 rfl ?_
            refine w_bipush dX2_put_24 (by decide) ?_
            refine w_icmp_lt 30 dX2_put_26 (by decide) (by first | omega | with_reducible rfl) (by first | omega | with_reducible rfl) (fun c_26 => ?_) (fun c_26 => ?_)
            · refine w_aload_n dX2_put_30 rfl 0 rfl ?_
              refine w_get (i := 1) (T := TX2) (NF := 5) b (by first | omega | with_reducible rfl) hn.1 rfl (fun _ h => (List.mem_cons_of_mem _ (List.mem_append_right _ h))) (by decide) (List.mem_of_getElem? (i := 1) rfl) rfl dX2_put_31 ?_
              refine w_iload_n dX2_put_34 rfl 1 rfl ?_
              refine w_aald (j := kn) (k' := (b + (kn + 2))) (b + 1) (by first | omega | with_reducible rfl) hn.2.1 rfl rfl (by first | omega | with_reducible rfl) (by first | omega | with_reducible rfl) (by first | omega | with_reducible rfl) dX2_put_35 ?_
              refine w_iload_n dX2_put_36 rfl 2 rfl ?_
              refine w_bipush dX2_put_37 (by decide) ?_
              refine w_imul dX2_put_39 ?_
              refine w_iload_n dX2_put_40 rfl 3 rfl ?_
              refine w_iadd dX2_put_41 ?_
              refine w_lload dX2_put_42 4 rfl ?_
              refine w_last (b + (kn + 2)) (by first | omega | with_reducible rfl) (hn.2.2.1 kn (by first | omega | with_reducible rfl)) (by first | omega | with_reducible rfl) dX2_put_44 (fun g_1 he_2 hn_3 => ?_)
              have hn_4 : vNet cy B g_1 b cb tf aa ver (uF G kn (uZ (G kn) ((j * 61) + a) v)) := ⟨((hn_3 _ (by omega)).trans hn.1), ((hn_3 _ (by omega)).trans hn.2.1), (fam_put (F := fun z9 => cJ (cy 2) 366 z9) (P := G) (b := b) (o := 2) hn.2.2.1 he_2 hn_3), ((hn_3 _ (by omega)).trans hn.2.2.2)⟩
              have hfr_5 : ∀ q, (q < b ∨ b + 11 ≤ q) → g_1 q = g q := fun q hq => (hn_3 q (by omega)).trans (hfr_0 q hq)
              exact w_vret dX2_put_45 rfl ⟨(by have h9 := hn_4; exact h9), hfr_5⟩
            · exfalso; omega
set_option maxHeartbeats 4000000 in
set_option maxRecDepth 100000 in
theorem c_X2_isThere {l : Launch} {D : va_G} {cy : Nat → ClassId} {B N : Nat} {g : Nat → va_E} {b cb : Nat} {tf : Int → Int} {aa ver : Int} {G : Nat → Int → Int} {j a : Int} (hn : vNet cy B g b cb tf aa ver G) (hB : b + 11 ≤ N) (hj : 0 ≤ j ∧ j ≤ 5) (ha : 0 ≤ a ∧ a < 61) (hG1 : ∀ i : Int, 0 ≤ i → i < 366 → 0 ≤ G 1 i ∧ G 1 i < 4611686018427387904) : CTi l yX2_isThere wsX2_isThere (rmo 1 23) D cy B N g [.ref (B + b), .int (zI j), .int (zI a)] (if 0 < G 1 (j * 61 + a) then 1 else 0) (fun g' => g' = g) := by
  refine WW_of (cc := cX2_isThere) (maxL := 3) (ret := (some .boolean)) (own := RX2) (by decide) rfl rfl (Nat.le_of_ble_eq_true rfl) rfl ?_
  intro pp ee ss mm bl me co hmn
  refine w_aload_n dX2_isThere_0 rfl 0 rfl ?_
  refine w_iconst dX2_isThere_1 ?_
  refine w_iload_n dX2_isThere_2 rfl 1 rfl ?_
  refine w_iload_n dX2_isThere_3 rfl 2 rfl ?_
  refine w_calll (As := [.int (zI 1), .int (zI j), .int (zI a)]) (rest := []) (n := 3) (c_X2_at hn (by first | omega | with_reducible rfl) (by first | omega | with_reducible rfl) (by first | omega | with_reducible rfl) (by first | omega | with_reducible rfl)) gX2_isThere_X2_at rfl rfl rfl (by decide +kernel) ⟨Nat.le_of_ble_eq_true rfl, Nat.le_of_ble_eq_true rfl⟩ rfl (by first | omega | with_reducible rfl) hn.1 rfl (Nat.le_of_ble_eq_true rfl) ⟨Nat.zero_le _, Nat.zero_le _⟩ dX2_isThere_4 rfl (fun g_1 hp_2 => ?_)
  subst g_1
  have h9 := hG1 (j * 61 + a) (by omega) (by omega)
  refine w_as (st' := [.long (zJ (G 1 (j * 61 + a)))]) (sc_l (atA_in (q := 1) rfl (by omega) rfl) rfl) ?_
  refine w_lconst0 dX2_isThere_7 ?_
  refine w_lcmp_le 16 dX2_isThere_8 dX2_isThere_9 (by decide) (by first | omega | with_reducible rfl) (by first | omega | with_reducible rfl) (fun c_8 => ?_) (fun c_8 => ?_)
  · refine w_iconst dX2_isThere_16 ?_
    exact w_zret dX2_isThere_17 rfl rfl (by first | (rw [if_neg (by omega)]) | (rw [if_pos (by omega)])) rfl
  · refine w_iconst dX2_isThere_12 ?_
    refine w_goto 17 dX2_isThere_13 (by decide) ?_
    exact w_zret dX2_isThere_17 rfl rfl (by first | (rw [if_neg (by omega)]) | (rw [if_pos (by omega)])) rfl
set_option maxHeartbeats 4000000 in
set_option maxRecDepth 100000 in
theorem c_X2_fewest {l : Launch} {D : va_G} {cy : Nat → ClassId} {B N : Nat} {g : Nat → va_E} {b cb : Nat} {tf : Int → Int} {aa ver : Int} {G : Nat → Int → Int} {j a : Int} (hn : vNet cy B g b cb tf aa ver G) (hB : b + 11 ≤ N) (hj : 0 ≤ j ∧ j < 5) (htf : ∀ i : Int, 0 ≤ i → i ≤ 5 → 0 ≤ tf i ∧ tf i ≤ 60) (haa : 0 ≤ aa ∧ aa ≤ 60) (ha : 0 ≤ a ∧ a ≤ 60) : CTi l yX2_fewest wsX2_fewest (rmo 1 40) D cy B N g [.ref (B + b), .int (zI j), .int (zI a)] (max 0 (aa - a - tf (j + 1))) (fun g' => g' = g) := by
  refine WW_of (cc := cX2_fewest) (maxL := 3) (ret := (some .int)) (own := RX2) (by decide) rfl rfl (Nat.le_of_ble_eq_true rfl) rfl ?_
  intro pp ee ss mm bl me co hmn
  refine w_iload_n dX2_fewest_0 rfl 1 rfl ?_
  refine w_if_lt 31 dX2_fewest_1 (by decide) (by first | omega | with_reducible rfl) (fun c_1 => ?_) (fun c_1 => ?_)
  · exfalso; omega
  · refine w_iload_n dX2_fewest_4 rfl 1 rfl ?_
    refine w_iconst dX2_fewest_5 ?_
    refine w_icmp_ge 31 dX2_fewest_6 (by decide) (by first | omega | with_reducible rfl) (by first | omega | with_reducible rfl) (fun c_6 => ?_) (fun c_6 => ?_)
    · exfalso; omega
    · have h9 := htf (j + 1) (by omega) (by omega)
      refine w_iconst dX2_fewest_9 ?_
      refine w_aload_n dX2_fewest_10 rfl 0 rfl ?_
      refine w_get (i := 3) (T := TX2) (NF := 5) b (by first | omega | with_reducible rfl) hn.1 rfl (fun _ h => (List.mem_cons_of_mem _ (List.mem_append_right _ h))) (by decide) (List.mem_of_getElem? (i := 1) rfl) rfl dX2_fewest_11 ?_
      refine w_iload_n dX2_fewest_14 rfl 2 rfl ?_
      refine w_isub dX2_fewest_15 ?_
      refine w_aload_n dX2_fewest_16 rfl 0 rfl ?_
      refine w_get (i := 2) (T := TX2) (NF := 5) b (by first | omega | with_reducible rfl) hn.1 rfl (fun _ h => (List.mem_cons_of_mem _ (List.mem_append_right _ h))) (by decide) (List.mem_of_getElem? (i := 2) rfl) rfl dX2_fewest_17 ?_
      refine w_iload_n dX2_fewest_20 rfl 1 rfl ?_
      refine w_iconst dX2_fewest_21 ?_
      refine w_iadd dX2_fewest_22 ?_
      refine w_iald (b + 10) (by first | omega | with_reducible rfl) hn.2.2.2 (by first | omega | with_reducible rfl) dX2_fewest_23 ?_
      refine w_isub dX2_fewest_24 ?_
      refine w_mmax (List.mem_of_getElem? (i := 3) rfl) (List.mem_of_getElem? (i := 4) rfl) (List.mem_of_getElem? (i := 5) rfl) (List.mem_of_getElem? (i := 6) rfl) (Nat.le_of_ble_eq_true rfl) (Nat.le_of_ble_eq_true rfl) ⟨Nat.zero_le _, Nat.zero_le _⟩ (by first | omega | with_reducible rfl) (by first | omega | with_reducible rfl) dX2_fewest_25 ?_
      refine w_goto 32 dX2_fewest_28 (by decide) ?_
      exact w_iret dX2_fewest_32 rfl (by first | with_reducible rfl | omega | (split <;> omega)) rfl
set_option maxHeartbeats 4000000 in
set_option maxRecDepth 100000 in
theorem c_X2_most {l : Launch} {D : va_G} {cy : Nat → ClassId} {B N : Nat} {g : Nat → va_E} {b cb : Nat} {tf : Int → Int} {aa ver : Int} {G : Nat → Int → Int} {sets n : Nat} {cver : Int} {T X V : Int → Int} {Wy : Nat → Int → Int} {j a : Int} (hn : vNet cy B g b cb tf aa ver G) (hc : vCol cy B g cb sets n cver T X V Wy) (hB : b + 11 ≤ N) (hN : cb + 10 ≤ N) (hn5 : n ≤ 5) (hj : 0 ≤ j ∧ j < n) (hT : 0 ≤ T j ∧ T j ≤ 12) (haa : 0 ≤ aa ∧ aa ≤ 60) (ha : 0 ≤ a ∧ a ≤ 60) : CTi l yX2_most wsX2_most (rmo 1 40) D cy B N g [.ref (B + b), .int (zI j), .int (zI a)] (min (T j) (aa - a)) (fun g' => g' = g) := by
  refine WW_of (cc := cX2_most) (maxL := 3) (ret := (some .int)) (own := RX2) (by decide) rfl rfl (Nat.le_of_ble_eq_true rfl) rfl ?_
  intro pp ee ss mm bl me co hmn
  refine w_aload_n dX2_most_0 rfl 0 rfl ?_
  refine w_get (i := 0) (T := TX2) (NF := 5) b (by first | omega | with_reducible rfl) hn.1 rfl (fun _ h => (List.mem_cons_of_mem _ (List.mem_append_left _ (List.mem_append_right _ h)))) (by decide) (List.mem_of_getElem? (i := 1) rfl) rfl dX2_most_1 ?_
  refine w_iload_n dX2_most_4 rfl 1 rfl ?_
  refine w_calli (As := [.int (zI j)]) (rest := []) (n := 1) (c_X0_totalOf hc (by first | omega | with_reducible rfl) (by first | omega | with_reducible rfl) (by first | omega | with_reducible rfl)) gX2_most_X0_totalOf rfl rfl rfl (by decide +kernel) ⟨Nat.le_of_ble_eq_true rfl, Nat.le_of_ble_eq_true rfl⟩ rfl (by first | omega | with_reducible rfl) hc.1 rfl (Nat.le_of_ble_eq_true rfl) ⟨Nat.zero_le _, Nat.zero_le _⟩ dX2_most_5 rfl (fun g_1 hp_2 => ?_)
  subst g_1
  refine w_as (st' := [.int (zI (T j))]) (sc_i (inA_in (by omega)) rfl) ?_
  refine w_aload_n dX2_most_8 rfl 0 rfl ?_
  refine w_get (i := 3) (T := TX2) (NF := 5) b (by first | omega | with_reducible rfl) hn.1 rfl (fun _ h => (List.mem_cons_of_mem _ (List.mem_append_left _ (List.mem_append_right _ h)))) (by decide) (List.mem_of_getElem? (i := 2) rfl) rfl dX2_most_9 ?_
  refine w_iload_n dX2_most_12 rfl 2 rfl ?_
  refine w_isub dX2_most_13 ?_
  refine w_mmin (List.mem_of_getElem? (i := 3) rfl) (List.mem_of_getElem? (i := 4) rfl) (List.mem_of_getElem? (i := 5) rfl) (List.mem_of_getElem? (i := 6) rfl) (Nat.le_of_ble_eq_true rfl) (Nat.le_of_ble_eq_true rfl) ⟨Nat.zero_le _, Nat.zero_le _⟩ (by first | omega | with_reducible rfl) (by first | omega | with_reducible rfl) dX2_most_14 ?_
  exact w_iret dX2_most_17 rfl (by first | with_reducible rfl | omega | (split <;> omega)) rfl
