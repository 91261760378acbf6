/-! ===== MarginTables$Net: one node weighed ===== -/
def fB (c : Nat × Nat) (cs : List (Nat × Nat)) (r : Nat) : Nat → Int := fun x => (ch c.1 x : Int) * bh cs (r - x)
def fL (c : Nat × Nat) (cs : List (Nat × Nat)) (r : Nat) : Nat → Int := fun x => (ch c.1 x : Int) * lg cs (r - x)
def fS (c : Nat × Nat) (cs : List (Nat × Nat)) (r : Nat) : Nat → Int := fun x => (ch c.1 x : Int) * sh cs (r - x)
def fT (cs : List (Nat × Nat)) (r : Nat) : Nat → Int := fun x => tc cs (r - x)
def fK (cs : List (Nat × Nat)) (r : Nat) : Nat → Int := fun x => 1 + lk cs (r - x)
def fE (c : Nat × Nat) (cs : List (Nat × Nat)) (r : Nat) : Nat → Int := fun x => (x : Int) * (c.2 : Int) + les cs (r - x)
def fG (c : Nat × Nat) (cs : List (Nat × Nat)) (r : Nat) : Nat → Int := fun x => (x : Int) * (c.2 : Int) + grs cs (r - x)
def ah : List (Nat × Nat) → Nat → Int
  | [], a => if a = 0 then 1 else 0
  | c :: cs, a => srN (fun x => (ch c.1 x : Int) * (if x ≤ a then ah cs (a - x) else 0)) 0 (c.1 + 1)
def fA (c : Nat × Nat) (cs : List (Nat × Nat)) (a : Nat) : Nat → Int := fun x => (ch c.1 x : Int) * (if x ≤ a then ah cs (a - x) else 0)
theorem at_ah {G : Nat → Int → Int} {cs : List (Nat × Nat)} {j a k : Nat} {j1 : Int} (hj1 : j1 = ((j : Nat) : Int)) (hj : j ≤ 5) (ha : a ≤ 60) (hw : k ≤ a → G 0 ((((j : Nat) : Int) * 61) + ((a - k : Nat) : Int)) = ah cs (a - k)) : atA G 0 j1 (((a : Nat) : Int) - ((k : Nat) : Int)) = if k ≤ a then ah cs (a - k) else 0 := by
  by_cases hka : k ≤ a
  · rw [if_pos hka, atA_in (kd := 0) (q := 0) rfl (by omega) (show _ = (((j : Nat) : Int) * 61) + ((a - k : Nat) : Int) by omega)]
    exact hw hka
  · rw [if_neg hka, atA_out (by omega)]
theorem bh_c (c : Nat × Nat) (cs : List (Nat × Nat)) (r : Nat) : bh (c :: cs) r = srN (fB c cs r) (lo cs r) (nn c cs r) := rfl
theorem lg_c (c : Nat × Nat) (cs : List (Nat × Nat)) (r : Nat) : lg (c :: cs) r = mxN (fL c cs r) (lo cs r) (nn c cs r) := rfl
theorem sh_c (c : Nat × Nat) (cs : List (Nat × Nat)) (r : Nat) : sh (c :: cs) r = mnN 9223372036854775807 (fS c cs r) (lo cs r) (nn c cs r) := rfl
theorem tc_c (c : Nat × Nat) (cs : List (Nat × Nat)) (r : Nat) : tc (c :: cs) r = srN (fT cs r) (lo cs r) (nn c cs r) := rfl
theorem lk_c (c : Nat × Nat) (cs : List (Nat × Nat)) (r : Nat) : lk (c :: cs) r = srN (fK cs r) (lo cs r) (nn c cs r) := rfl
theorem les_c (c : Nat × Nat) (cs : List (Nat × Nat)) (r : Nat) : les (c :: cs) r = mnN 540 (fE c cs r) (lo cs r) (nn c cs r) := rfl
theorem grs_c (c : Nat × Nat) (cs : List (Nat × Nat)) (r : Nat) : grs (c :: cs) r = mxN (fG c cs r) (lo cs r) (nn c cs r) := rfl
theorem ah_c (c : Nat × Nat) (cs : List (Nat × Nat)) (a : Nat) : ah (c :: cs) a = srN (fA c cs a) 0 (c.1 + 1) := rfl
set_option maxHeartbeats 4000000 in
set_option maxRecDepth 100000 in
theorem c_X2_weighBehind {l : Launch} {D : va_G} {cy : Nat → ClassId} {B N : Nat} {g : Nat → va_E} {b cb : Nat} {tf : Int → Int} {aa ver : Int} {G : Nat → Int → Int} {sets n : Nat} {cver : Int} {T X V : Int → Int} {Wy : Nat → Int → Int} {j a r : Nat} {c : Nat × Nat} {cs : List (Nat × Nat)} (hn : vNet cy B g b cb tf aa ver G) (hc : vCol cy B g cb sets n cver T X V Wy) (hB : b + 11 ≤ N) (hN : cb + 10 ≤ N) (hn5 : n ≤ 5) (hj : j < n) (haa : aa = ((a + r : Nat) : Int)) (har : a + r ≤ 60) (hc1 : T ((j : Nat) : Int) = ((c.1 : Nat) : Int)) (hc12 : c.1 ≤ 12) (htf : tf (((j : Nat) : Int) + 1) = ((tsum cs : Nat) : Int)) (hts : tsum cs ≤ 60) (htr : r ≤ c.1 + tsum cs) (htfr : ∀ i : Int, 0 ≤ i → i ≤ 5 → 0 ≤ tf i ∧ tf i ≤ 60) (hdis : cb + 10 ≤ b ∨ b + 11 ≤ cb) (hWy : ∀ x : Nat, x ≤ 12 → Wy j ((x : Nat) : Int) = ((ch c.1 x : Nat) : Int)) (hw1 : ∀ x : Nat, lo cs r ≤ x → x ≤ c.1 → x ≤ r → G 1 (((((j : Nat) : Int) + 1) * 61) + (((a : Nat) : Int) + ((x : Nat) : Int))) = bh cs (r - x)) (hw2 : ∀ x : Nat, lo cs r ≤ x → x ≤ c.1 → x ≤ r → G 2 (((((j : Nat) : Int) + 1) * 61) + (((a : Nat) : Int) + ((x : Nat) : Int))) = lg cs (r - x)) (hw3 : ∀ x : Nat, lo cs r ≤ x → x ≤ c.1 → x ≤ r → G 3 (((((j : Nat) : Int) + 1) * 61) + (((a : Nat) : Int) + ((x : Nat) : Int))) = sh cs (r - x)) (hb2 : ∀ x : Nat, lo cs r ≤ x → x ≤ c.1 → x ≤ r → 0 ≤ fL c cs r x ∧ fL c cs r x ≤ 4611686018427387904) (hb3 : ∀ x : Nat, lo cs r ≤ x → x ≤ c.1 → x ≤ r → 0 ≤ fS c cs r x ∧ fS c cs r x ≤ 4611686018427387904) : CTv l yX2_weighBehind wsX2_weighBehind (rmo 2 62) D cy B N g [.ref (B + b), .int (zI ((j : Nat) : Int)), .int (zI ((a : Nat) : Int))] (fun g' => vNet cy B g' b cb tf aa ver (pG (pG (pG G 1 (((j : Nat) : Int) * 61 + ((a : Nat) : Int)) (bh (c :: cs) r)) 2 (((j : Nat) : Int) * 61 + ((a : Nat) : Int)) (lg (c :: cs) r)) 3 (((j : Nat) : Int) * 61 + ((a : Nat) : Int)) (sh (c :: cs) r)) ∧ (∀ q, (q < b ∨ b + 11 ≤ q) → g' q = g q)) := by
  refine WW_of (cc := cX2_weighBehind) (maxL := 13) (ret := none) (own := RX2) (by decide) rfl rfl (Nat.le_of_ble_eq_true rfl) rfl ?_
  intro pp ee ss mm bl me co hmn
  have hfr_0 : ∀ q, (q < b ∨ b + 11 ≤ q) → g q = g q := fun _ _ => rfl
  refine w_lconst0 dX2_weighBehind_0 ?_
  refine w_lstore_n [(3, .long (zJ 0)), (0, .ref (B + b)), (1, .int (zI ((j : Nat) : Int))), (2, .int (zI ((a : Nat) : Int)))] dX2_weighBehind_1 rfl (by decide) rfl ?_
  refine w_lconst0 dX2_weighBehind_2 ?_
  refine w_lstore [(5, .long (zJ 0)), (3, .long (zJ 0)), (0, .ref (B + b)), (1, .int (zI ((j : Nat) : Int))), (2, .int (zI ((a : Nat) : Int)))] dX2_weighBehind_3 (by decide) rfl ?_
  refine w_ldc2 (z := 9223372036854775807) (List.mem_of_getElem? (i := 1) rfl) dX2_weighBehind_5 ?_
  refine w_lstore [(7, .long (zJ 9223372036854775807)), (5, .long (zJ 0)), (3, .long (zJ 0)), (0, .ref (B + b)), (1, .int (zI ((j : Nat) : Int))), (2, .int (zI ((a : Nat) : Int)))] dX2_weighBehind_8 (by decide) rfl ?_
  refine w_aload_n dX2_weighBehind_10 rfl 3 rfl ?_
  refine w_iload_n dX2_weighBehind_11 rfl 4 rfl ?_
  refine w_iload_n dX2_weighBehind_12 rfl 5 rfl ?_
  refine w_calli (As := [.int (zI ((j : Nat) : Int)), .int (zI ((a : Nat) : Int))]) (rest := []) (n := 2) (c_X2_most hn hc (by first | omega | with_reducible rfl) (by first | omega | with_reducible rfl) (by first | omega | with_reducible rfl) (by omega) (by omega) (by omega) (by omega)) gX2_weighBehind_X2_most rfl rfl rfl (by decide +kernel) ⟨Nat.le_of_ble_eq_true rfl, Nat.le_of_ble_eq_true rfl⟩ rfl (by first | omega | with_reducible rfl) hn.1 rfl (Nat.le_of_ble_eq_true rfl) ⟨Nat.zero_le _, Nat.zero_le _⟩ dX2_weighBehind_13 rfl (fun g_1 hp_2 => ?_)
  subst g_1
  refine w_as (st' := [.int (zI ((min c.1 r : Nat) : Int))]) (sc_i (by rw [hc1]; omega) rfl) ?_
  refine w_istore [(9, .int (zI ((min c.1 r : Nat) : Int))), (7, .long (zJ 9223372036854775807)), (5, .long (zJ 0)), (3, .long (zJ 0)), (0, .ref (B + b)), (1, .int (zI ((j : Nat) : Int))), (2, .int (zI ((a : Nat) : Int)))] dX2_weighBehind_16 (by decide) rfl ?_
  refine w_aload_n dX2_weighBehind_18 rfl 4 rfl ?_
  refine w_iload_n dX2_weighBehind_19 rfl 5 rfl ?_
  refine w_iload_n dX2_weighBehind_20 rfl 6 rfl ?_
  refine w_calli (As := [.int (zI ((j : Nat) : Int)), .int (zI ((a : Nat) : Int))]) (rest := []) (n := 2) (c_X2_fewest hn (by first | omega | with_reducible rfl) (by omega) htfr (by omega) (by omega)) gX2_weighBehind_X2_fewest rfl rfl rfl (by decide +kernel) ⟨Nat.le_of_ble_eq_true rfl, Nat.le_of_ble_eq_true rfl⟩ rfl (by first | omega | with_reducible rfl) hn.1 rfl (Nat.le_of_ble_eq_true rfl) ⟨Nat.zero_le _, Nat.zero_le _⟩ dX2_weighBehind_21 rfl (fun g_3 hp_4 => ?_)
  subst g_3
  refine w_as (st' := [.int (zI ((lo cs r : Nat) : Int))]) (sc_i (by unfold lo; omega) rfl) ?_
  refine w_istore [(10, .int (zI ((lo cs r : Nat) : Int))), (9, .int (zI ((min c.1 r : Nat) : Int))), (7, .long (zJ 9223372036854775807)), (5, .long (zJ 0)), (3, .long (zJ 0)), (0, .ref (B + b)), (1, .int (zI ((j : Nat) : Int))), (2, .int (zI ((a : Nat) : Int)))] dX2_weighBehind_24 (by decide) rfl ?_
  refine w_sub [(0, .ref (B + b)), (1, .int (zI ((j : Nat) : Int))), (2, .int (zI ((a : Nat) : Int))), (3, .long (zJ 0)), (5, .long (zJ 0)), (7, .long (zJ 9223372036854775807)), (9, .int (zI ((min c.1 r : Nat) : Int))), (10, .int (zI ((lo cs r : Nat) : Int)))] [5, 6, 7, 4, 3, 2, 1, 0] rfl ?_
  refine w_lv (lv' := [(0, .ref (B + b)), (1, .int (zI ((j : Nat) : Int))), (2, .int (zI ((a : Nat) : Int))), (3, .long (zJ (srN (fB c cs r) (lo cs r) 0))), (5, .long (zJ (mxN (fL c cs r) (lo cs r) 0))), (7, .long (zJ (mnN 9223372036854775807 (fS c cs r) (lo cs r) 0))), (9, .int (zI ((min c.1 r : Nat) : Int))), (10, .int (zI (((lo cs r + 0) : Nat) : Int)))]) (lc_s (lc_s (lc_s (lc_l rfl (lc_l rfl (lc_l rfl (lc_s (lc_i (by first | omega | with_reducible rfl) rfl)))))))) ?_
  refine w_loop1 (fun (k : Nat) => k ≤ nn c cs r) (fun (k : Nat) => nn c cs r - k) (fun (k : Nat) => g) (fun (k : Nat) => [(0, .ref (B + b)), (1, .int (zI ((j : Nat) : Int))), (2, .int (zI ((a : Nat) : Int))), (3, .long (zJ (srN (fB c cs r) (lo cs r) k))), (5, .long (zJ (mxN (fL c cs r) (lo cs r) k))), (7, .long (zJ (mnN 9223372036854775807 (fS c cs r) (lo cs r) k))), (9, .int (zI ((min c.1 r : Nat) : Int))), (10, .int (zI (((lo cs r + k) : Nat) : Int)))]) ?_ 0 (Nat.zero_le _)
  rintro k hk ih_26
  have hlo : lo cs r ≤ r ∧ nn c cs r ≤ 13 := by unfold lo nn; omega
  refine w_iload dX2_weighBehind_26 7 rfl ?_
  refine w_iload dX2_weighBehind_28 6 rfl ?_
  refine w_icmp_gt 113 dX2_weighBehind_30 (by decide) (by first | omega | with_reducible rfl) (by first | omega | with_reducible rfl) (fun c_30 => ?_) (fun c_30 => ?_)
  · have hk9 : k = nn c cs r := by unfold lo nn at *; omega
    refine w_aload_n dX2_weighBehind_113 rfl 0 rfl ?_
    refine w_iconst dX2_weighBehind_114 ?_
    refine w_iload_n dX2_weighBehind_115 rfl 1 rfl ?_
    refine w_iload_n dX2_weighBehind_116 rfl 2 rfl ?_
    refine w_lload_n dX2_weighBehind_117 rfl 3 rfl ?_
    refine w_callv (As := [.int (zI 1), .int (zI ((j : Nat) : Int)), .int (zI ((a : Nat) : Int)), .long (zJ (srN (fB c cs r) (lo cs r) k))]) (rest := []) (n := 4) (c_X2_put (kn := 1) hn (by first | omega | with_reducible rfl) (by first | omega | with_reducible rfl) (by first | omega | with_reducible rfl) (by first | omega | with_reducible rfl)) gX2_weighBehind_X2_put rfl rfl rfl (by decide +kernel) ⟨Nat.le_of_ble_eq_true rfl, Nat.le_of_ble_eq_true rfl⟩ rfl (by first | omega | with_reducible rfl) hn.1 rfl (Nat.le_of_ble_eq_true rfl) ⟨Nat.zero_le _, Nat.zero_le _⟩ dX2_weighBehind_118 rfl (fun g_5 hp_6 => ?_)
    obtain ⟨hn_7, hf_8⟩ := hp_6
    have hc_9 : vCol cy B g_5 cb sets n cver T X V Wy := vCol_fr hc (fun q h1 h2 => hf_8 q (by omega))
    have hfr_10 : ∀ q, (q < b ∨ b + 11 ≤ q) → g_5 q = g q := fun q hq => (hf_8 q (by omega)).trans (hfr_0 q hq)
    refine w_aload_n dX2_weighBehind_121 rfl 0 rfl ?_
    refine w_iconst dX2_weighBehind_122 ?_
    refine w_iload_n dX2_weighBehind_123 rfl 1 rfl ?_
    refine w_iload_n dX2_weighBehind_124 rfl 2 rfl ?_
    refine w_lload dX2_weighBehind_125 4 rfl ?_
    refine w_callv (As := [.int (zI 2), .int (zI ((j : Nat) : Int)), .int (zI ((a : Nat) : Int)), .long (zJ (mxN (fL c cs r) (lo cs r) k))]) (rest := []) (n := 4) (c_X2_put (kn := 2) hn_7 (by first | omega | with_reducible rfl) (by first | omega | with_reducible rfl) (by first | omega | with_reducible rfl) (by first | omega | with_reducible rfl)) gX2_weighBehind_X2_put rfl rfl rfl (by decide +kernel) ⟨Nat.le_of_ble_eq_true rfl, Nat.le_of_ble_eq_true rfl⟩ rfl (by first | omega | with_reducible rfl) hn_7.1 rfl (Nat.le_of_ble_eq_true rfl) ⟨Nat.zero_le _, Nat.zero_le _⟩ dX2_weighBehind_127 rfl (fun g_11 hp_12 => ?_)
    obtain ⟨hn_13, hf_14⟩ := hp_12
    have hc_15 : vCol cy B g_11 cb sets n cver T X V Wy := vCol_fr hc_9 (fun q h1 h2 => hf_14 q (by omega))
    have hfr_16 : ∀ q, (q < b ∨ b + 11 ≤ q) → g_11 q = g q := fun q hq => (hf_14 q (by omega)).trans (hfr_10 q hq)
    refine w_aload_n dX2_weighBehind_130 rfl 0 rfl ?_
    refine w_iconst dX2_weighBehind_131 ?_
    refine w_iload_n dX2_weighBehind_132 rfl 1 rfl ?_
    refine w_iload_n dX2_weighBehind_133 rfl 2 rfl ?_
    refine w_lload dX2_weighBehind_134 5 rfl ?_
    refine w_callv (As := [.int (zI 3), .int (zI ((j : Nat) : Int)), .int (zI ((a : Nat) : Int)), .long (zJ (mnN 9223372036854775807 (fS c cs r) (lo cs r) k))]) (rest := []) (n := 4) (c_X2_put (kn := 3) hn_13 (by first | omega | with_reducible rfl) (by first | omega | with_reducible rfl) (by first | omega | with_reducible rfl) (by first | omega | with_reducible rfl)) gX2_weighBehind_X2_put rfl rfl rfl (by decide +kernel) ⟨Nat.le_of_ble_eq_true rfl, Nat.le_of_ble_eq_true rfl⟩ rfl (by first | omega | with_reducible rfl) hn_13.1 rfl (Nat.le_of_ble_eq_true rfl) ⟨Nat.zero_le _, Nat.zero_le _⟩ dX2_weighBehind_136 rfl (fun g_17 hp_18 => ?_)
    obtain ⟨hn_19, hf_20⟩ := hp_18
    have hc_21 : vCol cy B g_17 cb sets n cver T X V Wy := vCol_fr hc_15 (fun q h1 h2 => hf_20 q (by omega))
    have hfr_22 : ∀ q, (q < b ∨ b + 11 ≤ q) → g_17 q = g q := fun q hq => (hf_20 q (by omega)).trans (hfr_16 q hq)
    exact w_vret dX2_weighBehind_139 rfl ⟨(by have h9 := hn_19; rw [hk9] at h9; exact h9), hfr_22⟩
  · have hln : lo cs r + k ≤ min c.1 r := by unfold lo nn at *; omega
    have hb2k := hb2 (lo cs r + k) (by omega) (by omega) (by omega)
    have hb3k := hb3 (lo cs r + k) (by omega) (by omega) (by omega)
    have hm2 := mxN_rg (f := fL c cs r) (a := lo cs r) (M := 4611686018427387904) (by omega) (k := k) (fun i hi => hb2 _ (by omega) (by omega) (by omega))
    have hm3 := mnN_rg (M := 9223372036854775807) (f := fS c cs r) (a := lo cs r) (by omega) (k := k) (fun i hi => (hb3 _ (by omega) (by omega) (by omega)).1)
    refine w_aload_n dX2_weighBehind_33 rfl 0 rfl ?_
    refine w_get (i := 0) (T := TX2) (NF := 5) b (by first | omega | with_reducible rfl) hn.1 rfl (fun _ h => (List.mem_cons_of_mem _ (List.mem_append_left _ (List.mem_append_right _ h)))) (by decide) (List.mem_of_getElem? (i := 2) rfl) rfl dX2_weighBehind_34 ?_
    refine w_iload_n dX2_weighBehind_37 rfl 1 rfl ?_
    refine w_iload dX2_weighBehind_38 7 rfl ?_
    refine w_calll (As := [.int (zI ((j : Nat) : Int)), .int (zI (((lo cs r + k) : Nat) : Int))]) (rest := []) (n := 2) (c_X0_waysOf hc (by first | omega | with_reducible rfl) (by first | omega | with_reducible rfl) (by first | omega | with_reducible rfl) (by first | omega | with_reducible rfl)) gX2_weighBehind_X0_waysOf rfl rfl rfl (by decide +kernel) ⟨Nat.le_of_ble_eq_true rfl, Nat.le_of_ble_eq_true rfl⟩ rfl (by first | omega | with_reducible rfl) hc.1 rfl (Nat.le_of_ble_eq_true rfl) ⟨Nat.zero_le _, Nat.zero_le _⟩ dX2_weighBehind_40 rfl (fun g_23 hp_24 => ?_)
    subst g_23
    refine w_as (st' := [.long (zJ ((ch c.1 (lo cs r + k) : Nat) : Int))]) (sc_l (by rw [wyA_in (by omega), Int.toNat_natCast]; exact hWy _ (by omega)) rfl) ?_
    refine w_lstore [(11, .long (zJ ((ch c.1 (lo cs r + k) : Nat) : Int))), (0, .ref (B + b)), (1, .int (zI ((j : Nat) : Int))), (2, .int (zI ((a : Nat) : Int))), (3, .long (zJ (srN (fB c cs r) (lo cs r) k))), (5, .long (zJ (mxN (fL c cs r) (lo cs r) k))), (7, .long (zJ (mnN 9223372036854775807 (fS c cs r) (lo cs r) k))), (9, .int (zI ((min c.1 r : Nat) : Int))), (10, .int (zI (((lo cs r + k) : Nat) : Int)))] dX2_weighBehind_43 (by decide) rfl ?_
    refine w_lload_n dX2_weighBehind_45 rfl 4 rfl ?_
    refine w_lload dX2_weighBehind_46 0 rfl ?_
    refine w_aload_n dX2_weighBehind_48 rfl 1 rfl ?_
    refine w_iconst dX2_weighBehind_49 ?_
    refine w_iload_n dX2_weighBehind_50 rfl 2 rfl ?_
    refine w_iconst dX2_weighBehind_51 ?_
    refine w_iadd dX2_weighBehind_52 ?_
    refine w_iload_n dX2_weighBehind_53 rfl 3 rfl ?_
    refine w_iload dX2_weighBehind_54 8 rfl ?_
    refine w_iadd dX2_weighBehind_56 ?_
    refine w_calll (As := [.int (zI 1), .int (zI (((j : Nat) : Int) + 1)), .int (zI (((a : Nat) : Int) + (((lo cs r + k) : Nat) : Int)))]) (rest := [.long (zJ ((ch c.1 (lo cs r + k) : Nat) : Int)), .long (zJ (srN (fB c cs r) (lo cs r) k))]) (n := 3) (c_X2_at hn (by first | omega | with_reducible rfl) (by first | omega | with_reducible rfl) (by first | omega | with_reducible rfl) (by first | omega | with_reducible rfl)) gX2_weighBehind_X2_at rfl rfl rfl (by decide +kernel) ⟨Nat.le_of_ble_eq_true rfl, Nat.le_of_ble_eq_true rfl⟩ rfl (by first | omega | with_reducible rfl) hn.1 rfl (Nat.le_of_ble_eq_true rfl) ⟨Nat.zero_le _, Nat.zero_le _⟩ dX2_weighBehind_57 rfl (fun g_25 hp_26 => ?_)
    subst g_25
    refine w_as (st' := [.long (zJ (bh cs (r - (lo cs r + k)))), .long (zJ ((ch c.1 (lo cs r + k) : Nat) : Int)), .long (zJ (srN (fB c cs r) (lo cs r) k))]) (sc_l (by rw [atA_in (kd := 1) (q := 1) rfl (by omega) (show _ = ((((j : Nat) : Int) + 1) * 61) + (((a : Nat) : Int) + (((lo cs r + k) : Nat) : Int)) by omega)]; exact hw1 _ (by omega) (by omega) (by omega)) rfl) ?_
    refine w_lmul dX2_weighBehind_60 ?_
    refine w_ladd dX2_weighBehind_61 ?_
    refine w_as (st' := [.long (zJ ((srN (fB c cs r) (lo cs r) k) + (fB c cs r (lo cs r + k))))]) (sc_l rfl rfl) ?_
    refine w_lstore_n [(3, .long (zJ ((srN (fB c cs r) (lo cs r) k) + (fB c cs r (lo cs r + k))))), (11, .long (zJ ((ch c.1 (lo cs r + k) : Nat) : Int))), (0, .ref (B + b)), (1, .int (zI ((j : Nat) : Int))), (2, .int (zI ((a : Nat) : Int))), (5, .long (zJ (mxN (fL c cs r) (lo cs r) k))), (7, .long (zJ (mnN 9223372036854775807 (fS c cs r) (lo cs r) k))), (9, .int (zI ((min c.1 r : Nat) : Int))), (10, .int (zI (((lo cs r + k) : Nat) : Int)))] dX2_weighBehind_62 rfl (by decide) rfl ?_
    refine w_lload dX2_weighBehind_63 5 rfl ?_
    refine w_lload dX2_weighBehind_65 1 rfl ?_
    refine w_aload_n dX2_weighBehind_67 rfl 2 rfl ?_
    refine w_iconst dX2_weighBehind_68 ?_
    refine w_iload_n dX2_weighBehind_69 rfl 3 rfl ?_
    refine w_iconst dX2_weighBehind_70 ?_
    refine w_iadd dX2_weighBehind_71 ?_
    refine w_iload_n dX2_weighBehind_72 rfl 4 rfl ?_
    refine w_iload dX2_weighBehind_73 8 rfl ?_
    refine w_iadd dX2_weighBehind_75 ?_
    refine w_calll (As := [.int (zI 2), .int (zI (((j : Nat) : Int) + 1)), .int (zI (((a : Nat) : Int) + (((lo cs r + k) : Nat) : Int)))]) (rest := [.long (zJ ((ch c.1 (lo cs r + k) : Nat) : Int)), .long (zJ (mxN (fL c cs r) (lo cs r) k))]) (n := 3) (c_X2_at hn (by first | omega | with_reducible rfl) (by first | omega | with_reducible rfl) (by first | omega | with_reducible rfl) (by first | omega | with_reducible rfl)) gX2_weighBehind_X2_at rfl rfl rfl (by decide +kernel) ⟨Nat.le_of_ble_eq_true rfl, Nat.le_of_ble_eq_true rfl⟩ rfl (by first | omega | with_reducible rfl) hn.1 rfl (Nat.le_of_ble_eq_true rfl) ⟨Nat.zero_le _, Nat.zero_le _⟩ dX2_weighBehind_76 rfl (fun g_27 hp_28 => ?_)
    subst g_27
    refine w_as (st' := [.long (zJ (lg cs (r - (lo cs r + k)))), .long (zJ ((ch c.1 (lo cs r + k) : Nat) : Int)), .long (zJ (mxN (fL c cs r) (lo cs r) k))]) (sc_l (by rw [atA_in (kd := 2) (q := 2) rfl (by omega) (show _ = ((((j : Nat) : Int) + 1) * 61) + (((a : Nat) : Int) + (((lo cs r + k) : Nat) : Int)) by omega)]; exact hw2 _ (by omega) (by omega) (by omega)) rfl) ?_
    refine w_lmul dX2_weighBehind_79 ?_
    refine w_as (st' := [.long (zJ (fL c cs r (lo cs r + k))), .long (zJ (mxN (fL c cs r) (lo cs r) k))]) (sc_l rfl rfl) ?_
    refine w_mmaxJ (List.mem_of_getElem? (i := 3) rfl) (List.mem_of_getElem? (i := 4) rfl) (List.mem_of_getElem? (i := 5) rfl) (List.mem_of_getElem? (i := 6) rfl) (Nat.le_of_ble_eq_true rfl) (Nat.le_of_ble_eq_true rfl) ⟨Nat.zero_le _, Nat.zero_le _⟩ (by first | omega | with_reducible rfl) (by first | omega | with_reducible rfl) dX2_weighBehind_80 ?_
    refine w_lstore [(5, .long (zJ (max (mxN (fL c cs r) (lo cs r) k) (fL c cs r (lo cs r + k))))), (3, .long (zJ ((srN (fB c cs r) (lo cs r) k) + (fB c cs r (lo cs r + k))))), (11, .long (zJ ((ch c.1 (lo cs r + k) : Nat) : Int))), (0, .ref (B + b)), (1, .int (zI ((j : Nat) : Int))), (2, .int (zI ((a : Nat) : Int))), (7, .long (zJ (mnN 9223372036854775807 (fS c cs r) (lo cs r) k))), (9, .int (zI ((min c.1 r : Nat) : Int))), (10, .int (zI (((lo cs r + k) : Nat) : Int)))] dX2_weighBehind_83 (by decide) rfl ?_
    refine w_lload dX2_weighBehind_85 6 rfl ?_
    refine w_lload dX2_weighBehind_87 2 rfl ?_
    refine w_aload_n dX2_weighBehind_89 rfl 3 rfl ?_
    refine w_iconst dX2_weighBehind_90 ?_
    refine w_iload_n dX2_weighBehind_91 rfl 4 rfl ?_
    refine w_iconst dX2_weighBehind_92 ?_
    refine w_iadd dX2_weighBehind_93 ?_
    refine w_iload_n dX2_weighBehind_94 rfl 5 rfl ?_
    refine w_iload dX2_weighBehind_95 8 rfl ?_
    refine w_iadd dX2_weighBehind_97 ?_
    refine w_calll (As := [.int (zI 3), .int (zI (((j : Nat) : Int) + 1)), .int (zI (((a : Nat) : Int) + (((lo cs r + k) : Nat) : Int)))]) (rest := [.long (zJ ((ch c.1 (lo cs r + k) : Nat) : Int)), .long (zJ (mnN 9223372036854775807 (fS c cs r) (lo cs r) k))]) (n := 3) (c_X2_at hn (by first | omega | with_reducible rfl) (by first | omega | with_reducible rfl) (by first | omega | with_reducible rfl) (by first | omega | with_reducible rfl)) gX2_weighBehind_X2_at rfl rfl rfl (by decide +kernel) ⟨Nat.le_of_ble_eq_true rfl, Nat.le_of_ble_eq_true rfl⟩ rfl (by first | omega | with_reducible rfl) hn.1 rfl (Nat.le_of_ble_eq_true rfl) ⟨Nat.zero_le _, Nat.zero_le _⟩ dX2_weighBehind_98 rfl (fun g_29 hp_30 => ?_)
    subst g_29
    refine w_as (st' := [.long (zJ (sh cs (r - (lo cs r + k)))), .long (zJ ((ch c.1 (lo cs r + k) : Nat) : Int)), .long (zJ (mnN 9223372036854775807 (fS c cs r) (lo cs r) k))]) (sc_l (by rw [atA_in (kd := 3) (q := 3) rfl (by omega) (show _ = ((((j : Nat) : Int) + 1) * 61) + (((a : Nat) : Int) + (((lo cs r + k) : Nat) : Int)) by omega)]; exact hw3 _ (by omega) (by omega) (by omega)) rfl) ?_
    refine w_lmul dX2_weighBehind_101 ?_
    refine w_as (st' := [.long (zJ (fS c cs r (lo cs r + k))), .long (zJ (mnN 9223372036854775807 (fS c cs r) (lo cs r) k))]) (sc_l rfl rfl) ?_
    refine w_mminJ (List.mem_of_getElem? (i := 7) rfl) (List.mem_of_getElem? (i := 8) rfl) (List.mem_of_getElem? (i := 5) rfl) (List.mem_of_getElem? (i := 9) rfl) (Nat.le_of_ble_eq_true rfl) (Nat.le_of_ble_eq_true rfl) ⟨Nat.zero_le _, Nat.zero_le _⟩ (by first | omega | with_reducible rfl) (by first | omega | with_reducible rfl) dX2_weighBehind_102 ?_
    refine w_lstore [(7, .long (zJ (min (mnN 9223372036854775807 (fS c cs r) (lo cs r) k) (fS c cs r (lo cs r + k))))), (5, .long (zJ (max (mxN (fL c cs r) (lo cs r) k) (fL c cs r (lo cs r + k))))), (3, .long (zJ ((srN (fB c cs r) (lo cs r) k) + (fB c cs r (lo cs r + k))))), (11, .long (zJ ((ch c.1 (lo cs r + k) : Nat) : Int))), (0, .ref (B + b)), (1, .int (zI ((j : Nat) : Int))), (2, .int (zI ((a : Nat) : Int))), (9, .int (zI ((min c.1 r : Nat) : Int))), (10, .int (zI (((lo cs r + k) : Nat) : Int)))] dX2_weighBehind_105 (by decide) rfl ?_
    refine w_iinc 8 [(10, .int (zI ((((lo cs r + k) : Nat) : Int) + 1))), (7, .long (zJ (min (mnN 9223372036854775807 (fS c cs r) (lo cs r) k) (fS c cs r (lo cs r + k))))), (5, .long (zJ (max (mxN (fL c cs r) (lo cs r) k) (fL c cs r (lo cs r + k))))), (3, .long (zJ ((srN (fB c cs r) (lo cs r) k) + (fB c cs r (lo cs r + k))))), (11, .long (zJ ((ch c.1 (lo cs r + k) : Nat) : Int))), (0, .ref (B + b)), (1, .int (zI ((j : Nat) : Int))), (2, .int (zI ((a : Nat) : Int))), (9, .int (zI ((min c.1 r : Nat) : Int)))] dX2_weighBehind_107 rfl (by decide) rfl ?_
    refine w_goto 26 dX2_weighBehind_110 (by decide) ?_
    refine w_sub [(0, .ref (B + b)), (1, .int (zI ((j : Nat) : Int))), (2, .int (zI ((a : Nat) : Int))), (3, .long (zJ ((srN (fB c cs r) (lo cs r) k) + (fB c cs r (lo cs r + k))))), (5, .long (zJ (max (mxN (fL c cs r) (lo cs r) k) (fL c cs r (lo cs r + k))))), (7, .long (zJ (min (mnN 9223372036854775807 (fS c cs r) (lo cs r) k) (fS c cs r (lo cs r + k))))), (9, .int (zI ((min c.1 r : Nat) : Int))), (10, .int (zI ((((lo cs r + k) : Nat) : Int) + 1)))] [5, 6, 7, 3, 2, 1, 8, 0] rfl ?_
    refine w_lv (lv' := [(0, .ref (B + b)), (1, .int (zI ((j : Nat) : Int))), (2, .int (zI ((a : Nat) : Int))), (3, .long (zJ (srN (fB c cs r) (lo cs r) (k + 1)))), (5, .long (zJ (mxN (fL c cs r) (lo cs r) (k + 1)))), (7, .long (zJ (mnN 9223372036854775807 (fS c cs r) (lo cs r) (k + 1)))), (9, .int (zI ((min c.1 r : Nat) : Int))), (10, .int (zI (((lo cs r + (k + 1)) : Nat) : Int)))]) (lc_s (lc_s (lc_s (lc_l rfl (lc_l rfl (lc_l rfl (lc_s (lc_i (by first | omega | with_reducible rfl) rfl)))))))) ?_
    exact ih_26 (k + 1) (by unfold lo nn at *; omega) (by unfold lo nn at *; omega)
set_option maxHeartbeats 4000000 in
set_option maxRecDepth 100000 in
theorem c_X2_countWalksBehind {l : Launch} {D : va_G} {cy : Nat → ClassId} {B N : Nat} {g : Nat → va_E} {b cb : Nat} {tf : Int → Int} {aa ver : Int} {G : Nat → Int → Int} {sets n : Nat} {cver : Int} {T X V : Int → Int} {Wy : Nat → Int → Int} {j a r : Nat} {c : Nat × Nat} {cs : List (Nat × Nat)} (hn : vNet cy B g b cb tf aa ver G) (hc : vCol cy B g cb sets n cver T X V Wy) (hB : b + 11 ≤ N) (hN : cb + 10 ≤ N) (hn5 : n ≤ 5) (hj : j < n) (haa : aa = ((a + r : Nat) : Int)) (har : a + r ≤ 60) (hc1 : T ((j : Nat) : Int) = ((c.1 : Nat) : Int)) (hc12 : c.1 ≤ 12) (htf : tf (((j : Nat) : Int) + 1) = ((tsum cs : Nat) : Int)) (hts : tsum cs ≤ 60) (htr : r ≤ c.1 + tsum cs) (htfr : ∀ i : Int, 0 ≤ i → i ≤ 5 → 0 ≤ tf i ∧ tf i ≤ 60) (hdis : cb + 10 ≤ b ∨ b + 11 ≤ cb) (hw4 : ∀ x : Nat, lo cs r ≤ x → x ≤ c.1 → x ≤ r → G 4 (((((j : Nat) : Int) + 1) * 61) + (((a : Nat) : Int) + ((x : Nat) : Int))) = tc cs (r - x)) (hw5 : ∀ x : Nat, lo cs r ≤ x → x ≤ c.1 → x ≤ r → G 5 (((((j : Nat) : Int) + 1) * 61) + (((a : Nat) : Int) + ((x : Nat) : Int))) = lk cs (r - x)) : CTv l yX2_countWalksBehind wsX2_countWalksBehind (rmo 2 62) D cy B N g [.ref (B + b), .int (zI ((j : Nat) : Int)), .int (zI ((a : Nat) : Int))] (fun g' => vNet cy B g' b cb tf aa ver (pG (pG G 4 (((j : Nat) : Int) * 61 + ((a : Nat) : Int)) (tc (c :: cs) r)) 5 (((j : Nat) : Int) * 61 + ((a : Nat) : Int)) (lk (c :: cs) r)) ∧ (∀ q, (q < b ∨ b + 11 ≤ q) → g' q = g q)) := by
  refine WW_of (cc := cX2_countWalksBehind) (maxL := 9) (ret := none) (own := RX2) (by decide) rfl rfl (Nat.le_of_ble_eq_true rfl) rfl ?_
  intro pp ee ss mm bl me co hmn
  have hfr_0 : ∀ q, (q < b ∨ b + 11 ≤ q) → g q = g q := fun _ _ => rfl
  refine w_lconst0 dX2_countWalksBehind_0 ?_
  refine w_lstore_n [(3, .long (zJ 0)), (0, .ref (B + b)), (1, .int (zI ((j : Nat) : Int))), (2, .int (zI ((a : Nat) : Int)))] dX2_countWalksBehind_1 rfl (by decide) rfl ?_
  refine w_lconst0 dX2_countWalksBehind_2 ?_
  refine w_lstore [(5, .long (zJ 0)), (3, .long (zJ 0)), (0, .ref (B + b)), (1, .int (zI ((j : Nat) : Int))), (2, .int (zI ((a : Nat) : Int)))] dX2_countWalksBehind_3 (by decide) rfl ?_
  refine w_aload_n dX2_countWalksBehind_5 rfl 2 rfl ?_
  refine w_iload_n dX2_countWalksBehind_6 rfl 3 rfl ?_
  refine w_iload_n dX2_countWalksBehind_7 rfl 4 rfl ?_
  refine w_calli (As := [.int (zI ((j : Nat) : Int)), .int (zI ((a : Nat) : Int))]) (rest := []) (n := 2) (c_X2_most hn hc (by first | omega | with_reducible rfl) (by first | omega | with_reducible rfl) (by first | omega | with_reducible rfl) (by omega) (by omega) (by omega) (by omega)) gX2_countWalksBehind_X2_most rfl rfl rfl (by decide +kernel) ⟨Nat.le_of_ble_eq_true rfl, Nat.le_of_ble_eq_true rfl⟩ rfl (by first | omega | with_reducible rfl) hn.1 rfl (Nat.le_of_ble_eq_true rfl) ⟨Nat.zero_le _, Nat.zero_le _⟩ dX2_countWalksBehind_8 rfl (fun g_1 hp_2 => ?_)
  subst g_1
  refine w_as (st' := [.int (zI ((min c.1 r : Nat) : Int))]) (sc_i (by rw [hc1]; omega) rfl) ?_
  refine w_istore [(7, .int (zI ((min c.1 r : Nat) : Int))), (5, .long (zJ 0)), (3, .long (zJ 0)), (0, .ref (B + b)), (1, .int (zI ((j : Nat) : Int))), (2, .int (zI ((a : Nat) : Int)))] dX2_countWalksBehind_11 (by decide) rfl ?_
  refine w_aload_n dX2_countWalksBehind_13 rfl 3 rfl ?_
  refine w_iload_n dX2_countWalksBehind_14 rfl 4 rfl ?_
  refine w_iload_n dX2_countWalksBehind_15 rfl 5 rfl ?_
  refine w_calli (As := [.int (zI ((j : Nat) : Int)), .int (zI ((a : Nat) : Int))]) (rest := []) (n := 2) (c_X2_fewest hn (by first | omega | with_reducible rfl) (by omega) htfr (by omega) (by omega)) gX2_countWalksBehind_X2_fewest rfl rfl rfl (by decide +kernel) ⟨Nat.le_of_ble_eq_true rfl, Nat.le_of_ble_eq_true rfl⟩ rfl (by first | omega | with_reducible rfl) hn.1 rfl (Nat.le_of_ble_eq_true rfl) ⟨Nat.zero_le _, Nat.zero_le _⟩ dX2_countWalksBehind_16 rfl (fun g_3 hp_4 => ?_)
  subst g_3
  refine w_as (st' := [.int (zI ((lo cs r : Nat) : Int))]) (sc_i (by unfold lo; omega) rfl) ?_
  refine w_istore [(8, .int (zI ((lo cs r : Nat) : Int))), (7, .int (zI ((min c.1 r : Nat) : Int))), (5, .long (zJ 0)), (3, .long (zJ 0)), (0, .ref (B + b)), (1, .int (zI ((j : Nat) : Int))), (2, .int (zI ((a : Nat) : Int)))] dX2_countWalksBehind_19 (by decide) rfl ?_
  refine w_sub [(0, .ref (B + b)), (1, .int (zI ((j : Nat) : Int))), (2, .int (zI ((a : Nat) : Int))), (3, .long (zJ 0)), (5, .long (zJ 0)), (7, .int (zI ((min c.1 r : Nat) : Int))), (8, .int (zI ((lo cs r : Nat) : Int)))] [4, 5, 6, 3, 2, 1, 0] rfl ?_
  refine w_lv (lv' := [(0, .ref (B + b)), (1, .int (zI ((j : Nat) : Int))), (2, .int (zI ((a : Nat) : Int))), (3, .long (zJ (srN (fT cs r) (lo cs r) 0))), (5, .long (zJ (srN (fK cs r) (lo cs r) 0))), (7, .int (zI ((min c.1 r : Nat) : Int))), (8, .int (zI (((lo cs r + 0) : Nat) : Int)))]) (lc_s (lc_s (lc_s (lc_l rfl (lc_l rfl (lc_s (lc_i (by first | omega | with_reducible rfl) rfl))))))) ?_
  refine w_loop1 (fun (k : Nat) => k ≤ nn c cs r) (fun (k : Nat) => nn c cs r - k) (fun (k : Nat) => g) (fun (k : Nat) => [(0, .ref (B + b)), (1, .int (zI ((j : Nat) : Int))), (2, .int (zI ((a : Nat) : Int))), (3, .long (zJ (srN (fT cs r) (lo cs r) k))), (5, .long (zJ (srN (fK cs r) (lo cs r) k))), (7, .int (zI ((min c.1 r : Nat) : Int))), (8, .int (zI (((lo cs r + k) : Nat) : Int)))]) ?_ 0 (Nat.zero_le _)
  rintro k hk ih_21
  have hlo : lo cs r ≤ r ∧ nn c cs r ≤ 13 := by unfold lo nn; omega
  refine w_iload dX2_countWalksBehind_21 6 rfl ?_
  refine w_iload dX2_countWalksBehind_23 5 rfl ?_
  refine w_icmp_gt 68 dX2_countWalksBehind_25 (by decide) (by first | omega | with_reducible rfl) (by first | omega | with_reducible rfl) (fun c_25 => ?_) (fun c_25 => ?_)
  · have hk9 : k = nn c cs r := by unfold lo nn at *; omega
    refine w_aload_n dX2_countWalksBehind_68 rfl 0 rfl ?_
    refine w_iconst dX2_countWalksBehind_69 ?_
    refine w_iload_n dX2_countWalksBehind_70 rfl 1 rfl ?_
    refine w_iload_n dX2_countWalksBehind_71 rfl 2 rfl ?_
    refine w_lload_n dX2_countWalksBehind_72 rfl 3 rfl ?_
    refine w_callv (As := [.int (zI 4), .int (zI ((j : Nat) : Int)), .int (zI ((a : Nat) : Int)), .long (zJ (srN (fT cs r) (lo cs r) k))]) (rest := []) (n := 4) (c_X2_put (kn := 4) hn (by first | omega | with_reducible rfl) (by first | omega | with_reducible rfl) (by first | omega | with_reducible rfl) (by first | omega | with_reducible rfl)) gX2_countWalksBehind_X2_put rfl rfl rfl (by decide +kernel) ⟨Nat.le_of_ble_eq_true rfl, Nat.le_of_ble_eq_true rfl⟩ rfl (by first | omega | with_reducible rfl) hn.1 rfl (Nat.le_of_ble_eq_true rfl) ⟨Nat.zero_le _, Nat.zero_le _⟩ dX2_countWalksBehind_73 rfl (fun g_5 hp_6 => ?_)
    obtain ⟨hn_7, hf_8⟩ := hp_6
    have hc_9 : vCol cy B g_5 cb sets n cver T X V Wy := vCol_fr hc (fun q h1 h2 => hf_8 q (by omega))
    have hfr_10 : ∀ q, (q < b ∨ b + 11 ≤ q) → g_5 q = g q := fun q hq => (hf_8 q (by omega)).trans (hfr_0 q hq)
    refine w_aload_n dX2_countWalksBehind_76 rfl 0 rfl ?_
    refine w_iconst dX2_countWalksBehind_77 ?_
    refine w_iload_n dX2_countWalksBehind_78 rfl 1 rfl ?_
    refine w_iload_n dX2_countWalksBehind_79 rfl 2 rfl ?_
    refine w_lload dX2_countWalksBehind_80 4 rfl ?_
    refine w_callv (As := [.int (zI 5), .int (zI ((j : Nat) : Int)), .int (zI ((a : Nat) : Int)), .long (zJ (srN (fK cs r) (lo cs r) k))]) (rest := []) (n := 4) (c_X2_put (kn := 5) hn_7 (by first | omega | with_reducible rfl) (by first | omega | with_reducible rfl) (by first | omega | with_reducible rfl) (by first | omega | with_reducible rfl)) gX2_countWalksBehind_X2_put rfl rfl rfl (by decide +kernel) ⟨Nat.le_of_ble_eq_true rfl, Nat.le_of_ble_eq_true rfl⟩ rfl (by first | omega | with_reducible rfl) hn_7.1 rfl (Nat.le_of_ble_eq_true rfl) ⟨Nat.zero_le _, Nat.zero_le _⟩ dX2_countWalksBehind_82 rfl (fun g_11 hp_12 => ?_)
    obtain ⟨hn_13, hf_14⟩ := hp_12
    have hc_15 : vCol cy B g_11 cb sets n cver T X V Wy := vCol_fr hc_9 (fun q h1 h2 => hf_14 q (by omega))
    have hfr_16 : ∀ q, (q < b ∨ b + 11 ≤ q) → g_11 q = g q := fun q hq => (hf_14 q (by omega)).trans (hfr_10 q hq)
    exact w_vret dX2_countWalksBehind_85 rfl ⟨(by have h9 := hn_13; rw [hk9] at h9; exact h9), hfr_16⟩
  · have hln : lo cs r + k ≤ min c.1 r := by unfold lo nn at *; omega
    refine w_lload_n dX2_countWalksBehind_28 rfl 3 rfl ?_
    refine w_aload_n dX2_countWalksBehind_29 rfl 0 rfl ?_
    refine w_iconst dX2_countWalksBehind_30 ?_
    refine w_iload_n dX2_countWalksBehind_31 rfl 1 rfl ?_
    refine w_iconst dX2_countWalksBehind_32 ?_
    refine w_iadd dX2_countWalksBehind_33 ?_
    refine w_iload_n dX2_countWalksBehind_34 rfl 2 rfl ?_
    refine w_iload dX2_countWalksBehind_35 6 rfl ?_
    refine w_iadd dX2_countWalksBehind_37 ?_
    refine w_calll (As := [.int (zI 4), .int (zI (((j : Nat) : Int) + 1)), .int (zI (((a : Nat) : Int) + (((lo cs r + k) : Nat) : Int)))]) (rest := [.long (zJ (srN (fT cs r) (lo cs r) k))]) (n := 3) (c_X2_at hn (by first | omega | with_reducible rfl) (by first | omega | with_reducible rfl) (by first | omega | with_reducible rfl) (by first | omega | with_reducible rfl)) gX2_countWalksBehind_X2_at rfl rfl rfl (by decide +kernel) ⟨Nat.le_of_ble_eq_true rfl, Nat.le_of_ble_eq_true rfl⟩ rfl (by first | omega | with_reducible rfl) hn.1 rfl (Nat.le_of_ble_eq_true rfl) ⟨Nat.zero_le _, Nat.zero_le _⟩ dX2_countWalksBehind_38 rfl (fun g_17 hp_18 => ?_)
    subst g_17
    refine w_as (st' := [.long (zJ (tc cs (r - (lo cs r + k)))), .long (zJ (srN (fT cs r) (lo cs r) k))]) (sc_l (by rw [atA_in (kd := 4) (q := 4) rfl (by omega) (show _ = ((((j : Nat) : Int) + 1) * 61) + (((a : Nat) : Int) + (((lo cs r + k) : Nat) : Int)) by omega)]; exact hw4 _ (by omega) (by omega) (by omega)) rfl) ?_
    refine w_ladd dX2_countWalksBehind_41 ?_
    refine w_lstore_n [(3, .long (zJ ((srN (fT cs r) (lo cs r) k) + (tc cs (r - (lo cs r + k)))))), (0, .ref (B + b)), (1, .int (zI ((j : Nat) : Int))), (2, .int (zI ((a : Nat) : Int))), (5, .long (zJ (srN (fK cs r) (lo cs r) k))), (7, .int (zI ((min c.1 r : Nat) : Int))), (8, .int (zI (((lo cs r + k) : Nat) : Int)))] dX2_countWalksBehind_42 rfl (by decide) rfl ?_
    refine w_lload dX2_countWalksBehind_43 4 rfl ?_
    refine w_lconst1 dX2_countWalksBehind_45 ?_
    refine w_aload_n dX2_countWalksBehind_46 rfl 1 rfl ?_
    refine w_iconst dX2_countWalksBehind_47 ?_
    refine w_iload_n dX2_countWalksBehind_48 rfl 2 rfl ?_
    refine w_iconst dX2_countWalksBehind_49 ?_
    refine w_iadd dX2_countWalksBehind_50 ?_
    refine w_iload_n dX2_countWalksBehind_51 rfl 3 rfl ?_
    refine w_iload dX2_countWalksBehind_52 6 rfl ?_
    refine w_iadd dX2_countWalksBehind_54 ?_
    refine w_calll (As := [.int (zI 5), .int (zI (((j : Nat) : Int) + 1)), .int (zI (((a : Nat) : Int) + (((lo cs r + k) : Nat) : Int)))]) (rest := [.long (zJ 1), .long (zJ (srN (fK cs r) (lo cs r) k))]) (n := 3) (c_X2_at hn (by first | omega | with_reducible rfl) (by first | omega | with_reducible rfl) (by first | omega | with_reducible rfl) (by first | omega | with_reducible rfl)) gX2_countWalksBehind_X2_at rfl rfl rfl (by decide +kernel) ⟨Nat.le_of_ble_eq_true rfl, Nat.le_of_ble_eq_true rfl⟩ rfl (by first | omega | with_reducible rfl) hn.1 rfl (Nat.le_of_ble_eq_true rfl) ⟨Nat.zero_le _, Nat.zero_le _⟩ dX2_countWalksBehind_55 rfl (fun g_19 hp_20 => ?_)
    subst g_19
    refine w_as (st' := [.long (zJ (lk cs (r - (lo cs r + k)))), .long (zJ 1), .long (zJ (srN (fK cs r) (lo cs r) k))]) (sc_l (by rw [atA_in (kd := 5) (q := 5) rfl (by omega) (show _ = ((((j : Nat) : Int) + 1) * 61) + (((a : Nat) : Int) + (((lo cs r + k) : Nat) : Int)) by omega)]; exact hw5 _ (by omega) (by omega) (by omega)) rfl) ?_
    refine w_ladd dX2_countWalksBehind_58 ?_
    refine w_as (st' := [.long (zJ (fK cs r (lo cs r + k))), .long (zJ (srN (fK cs r) (lo cs r) k))]) (sc_l rfl rfl) ?_
    refine w_ladd dX2_countWalksBehind_59 ?_
    refine w_lstore [(5, .long (zJ ((srN (fK cs r) (lo cs r) k) + (fK cs r (lo cs r + k))))), (3, .long (zJ ((srN (fT cs r) (lo cs r) k) + (tc cs (r - (lo cs r + k)))))), (0, .ref (B + b)), (1, .int (zI ((j : Nat) : Int))), (2, .int (zI ((a : Nat) : Int))), (7, .int (zI ((min c.1 r : Nat) : Int))), (8, .int (zI (((lo cs r + k) : Nat) : Int)))] dX2_countWalksBehind_60 (by decide) rfl ?_
    refine w_iinc 6 [(8, .int (zI ((((lo cs r + k) : Nat) : Int) + 1))), (5, .long (zJ ((srN (fK cs r) (lo cs r) k) + (fK cs r (lo cs r + k))))), (3, .long (zJ ((srN (fT cs r) (lo cs r) k) + (tc cs (r - (lo cs r + k)))))), (0, .ref (B + b)), (1, .int (zI ((j : Nat) : Int))), (2, .int (zI ((a : Nat) : Int))), (7, .int (zI ((min c.1 r : Nat) : Int)))] dX2_countWalksBehind_62 rfl (by decide) rfl ?_
    refine w_goto 21 dX2_countWalksBehind_65 (by decide) ?_
    refine w_sub [(0, .ref (B + b)), (1, .int (zI ((j : Nat) : Int))), (2, .int (zI ((a : Nat) : Int))), (3, .long (zJ ((srN (fT cs r) (lo cs r) k) + (tc cs (r - (lo cs r + k)))))), (5, .long (zJ ((srN (fK cs r) (lo cs r) k) + (fK cs r (lo cs r + k))))), (7, .int (zI ((min c.1 r : Nat) : Int))), (8, .int (zI ((((lo cs r + k) : Nat) : Int) + 1)))] [3, 4, 5, 2, 1, 6, 0] rfl ?_
    refine w_lv (lv' := [(0, .ref (B + b)), (1, .int (zI ((j : Nat) : Int))), (2, .int (zI ((a : Nat) : Int))), (3, .long (zJ (srN (fT cs r) (lo cs r) (k + 1)))), (5, .long (zJ (srN (fK cs r) (lo cs r) (k + 1)))), (7, .int (zI ((min c.1 r : Nat) : Int))), (8, .int (zI (((lo cs r + (k + 1)) : Nat) : Int)))]) (lc_s (lc_s (lc_s (lc_l rfl (lc_l rfl (lc_s (lc_i (by first | omega | with_reducible rfl) rfl))))))) ?_
    exact ih_21 (k + 1) (by unfold lo nn at *; omega) (by unfold lo nn at *; omega)
set_option maxHeartbeats 4000000 in
set_option maxRecDepth 100000 in
theorem c_X2_sumBehind {l : Launch} {D : va_G} {cy : Nat → ClassId} {B N : Nat} {g : Nat → va_E} {b cb : Nat} {tf : Int → Int} {aa ver : Int} {G : Nat → Int → Int} {sets n : Nat} {cver : Int} {T X V : Int → Int} {Wy : Nat → Int → Int} {j a r : Nat} {c : Nat × Nat} {cs : List (Nat × Nat)} (hn : vNet cy B g b cb tf aa ver G) (hc : vCol cy B g cb sets n cver T X V Wy) (hB : b + 11 ≤ N) (hN : cb + 10 ≤ N) (hn5 : n ≤ 5) (hj : j < n) (haa : aa = ((a + r : Nat) : Int)) (har : a + r ≤ 60) (hc1 : T ((j : Nat) : Int) = ((c.1 : Nat) : Int)) (hc12 : c.1 ≤ 12) (htf : tf (((j : Nat) : Int) + 1) = ((tsum cs : Nat) : Int)) (hts : tsum cs ≤ 60) (htr : r ≤ c.1 + tsum cs) (htfr : ∀ i : Int, 0 ≤ i → i ≤ 5 → 0 ≤ tf i ∧ tf i ≤ 60) (hdis : cb + 10 ≤ b ∨ b + 11 ≤ cb) (hV : V ((j : Nat) : Int) = ((c.2 : Nat) : Int)) (hV9 : c.2 ≤ 9) (hw6 : ∀ x : Nat, lo cs r ≤ x → x ≤ c.1 → x ≤ r → G 6 (((((j : Nat) : Int) + 1) * 61) + (((a : Nat) : Int) + ((x : Nat) : Int))) = les cs (r - x)) (hw7 : ∀ x : Nat, lo cs r ≤ x → x ≤ c.1 → x ≤ r → G 7 (((((j : Nat) : Int) + 1) * 61) + (((a : Nat) : Int) + ((x : Nat) : Int))) = grs cs (r - x)) (hb6 : ∀ x : Nat, lo cs r ≤ x → x ≤ c.1 → x ≤ r → 0 ≤ fE c cs r x ∧ fE c cs r x ≤ 4611686018427387904) (hb7 : ∀ x : Nat, lo cs r ≤ x → x ≤ c.1 → x ≤ r → 0 ≤ fG c cs r x ∧ fG c cs r x ≤ 4611686018427387904) : CTv l yX2_sumBehind wsX2_sumBehind (rmo 2 62) D cy B N g [.ref (B + b), .int (zI ((j : Nat) : Int)), .int (zI ((a : Nat) : Int))] (fun g' => vNet cy B g' b cb tf aa ver (pG (pG G 6 (((j : Nat) : Int) * 61 + ((a : Nat) : Int)) (les (c :: cs) r)) 7 (((j : Nat) : Int) * 61 + ((a : Nat) : Int)) (grs (c :: cs) r)) ∧ (∀ q, (q < b ∨ b + 11 ≤ q) → g' q = g q)) := by
  refine WW_of (cc := cX2_sumBehind) (maxL := 11) (ret := none) (own := RX2) (by decide) rfl rfl (Nat.le_of_ble_eq_true rfl) rfl ?_
  intro pp ee ss mm bl me co hmn
  have hfr_0 : ∀ q, (q < b ∨ b + 11 ≤ q) → g q = g q := fun _ _ => rfl
  refine w_ldc2 (z := 540) (List.mem_of_getElem? (i := 1) rfl) dX2_sumBehind_0 ?_
  refine w_lstore_n [(3, .long (zJ 540)), (0, .ref (B + b)), (1, .int (zI ((j : Nat) : Int))), (2, .int (zI ((a : Nat) : Int)))] dX2_sumBehind_3 rfl (by decide) rfl ?_
  refine w_lconst0 dX2_sumBehind_4 ?_
  refine w_lstore [(5, .long (zJ 0)), (3, .long (zJ 540)), (0, .ref (B + b)), (1, .int (zI ((j : Nat) : Int))), (2, .int (zI ((a : Nat) : Int)))] dX2_sumBehind_5 (by decide) rfl ?_
  refine w_aload_n dX2_sumBehind_7 rfl 2 rfl ?_
  refine w_iload_n dX2_sumBehind_8 rfl 3 rfl ?_
  refine w_iload_n dX2_sumBehind_9 rfl 4 rfl ?_
  refine w_calli (As := [.int (zI ((j : Nat) : Int)), .int (zI ((a : Nat) : Int))]) (rest := []) (n := 2) (c_X2_most hn hc (by first | omega | with_reducible rfl) (by first | omega | with_reducible rfl) (by first | omega | with_reducible rfl) (by omega) (by omega) (by omega) (by omega)) gX2_sumBehind_X2_most rfl rfl rfl (by decide +kernel) ⟨Nat.le_of_ble_eq_true rfl, Nat.le_of_ble_eq_true rfl⟩ rfl (by first | omega | with_reducible rfl) hn.1 rfl (Nat.le_of_ble_eq_true rfl) ⟨Nat.zero_le _, Nat.zero_le _⟩ dX2_sumBehind_10 rfl (fun g_1 hp_2 => ?_)
  subst g_1
  refine w_as (st' := [.int (zI ((min c.1 r : Nat) : Int))]) (sc_i (by rw [hc1]; omega) rfl) ?_
  refine w_istore [(7, .int (zI ((min c.1 r : Nat) : Int))), (5, .long (zJ 0)), (3, .long (zJ 540)), (0, .ref (B + b)), (1, .int (zI ((j : Nat) : Int))), (2, .int (zI ((a : Nat) : Int)))] dX2_sumBehind_13 (by decide) rfl ?_
  refine w_aload_n dX2_sumBehind_15 rfl 3 rfl ?_
  refine w_iload_n dX2_sumBehind_16 rfl 4 rfl ?_
  refine w_iload_n dX2_sumBehind_17 rfl 5 rfl ?_
  refine w_calli (As := [.int (zI ((j : Nat) : Int)), .int (zI ((a : Nat) : Int))]) (rest := []) (n := 2) (c_X2_fewest hn (by first | omega | with_reducible rfl) (by omega) htfr (by omega) (by omega)) gX2_sumBehind_X2_fewest rfl rfl rfl (by decide +kernel) ⟨Nat.le_of_ble_eq_true rfl, Nat.le_of_ble_eq_true rfl⟩ rfl (by first | omega | with_reducible rfl) hn.1 rfl (Nat.le_of_ble_eq_true rfl) ⟨Nat.zero_le _, Nat.zero_le _⟩ dX2_sumBehind_18 rfl (fun g_3 hp_4 => ?_)
  subst g_3
  refine w_as (st' := [.int (zI ((lo cs r : Nat) : Int))]) (sc_i (by unfold lo; omega) rfl) ?_
  refine w_istore [(8, .int (zI ((lo cs r : Nat) : Int))), (7, .int (zI ((min c.1 r : Nat) : Int))), (5, .long (zJ 0)), (3, .long (zJ 540)), (0, .ref (B + b)), (1, .int (zI ((j : Nat) : Int))), (2, .int (zI ((a : Nat) : Int)))] dX2_sumBehind_21 (by decide) rfl ?_
  refine w_sub [(0, .ref (B + b)), (1, .int (zI ((j : Nat) : Int))), (2, .int (zI ((a : Nat) : Int))), (3, .long (zJ 540)), (5, .long (zJ 0)), (7, .int (zI ((min c.1 r : Nat) : Int))), (8, .int (zI ((lo cs r : Nat) : Int)))] [4, 5, 6, 3, 2, 1, 0] rfl ?_
  refine w_lv (lv' := [(0, .ref (B + b)), (1, .int (zI ((j : Nat) : Int))), (2, .int (zI ((a : Nat) : Int))), (3, .long (zJ (mnN 540 (fE c cs r) (lo cs r) 0))), (5, .long (zJ (mxN (fG c cs r) (lo cs r) 0))), (7, .int (zI ((min c.1 r : Nat) : Int))), (8, .int (zI (((lo cs r + 0) : Nat) : Int)))]) (lc_s (lc_s (lc_s (lc_l rfl (lc_l rfl (lc_s (lc_i (by first | omega | with_reducible rfl) rfl))))))) ?_
  refine w_loop1 (fun (k : Nat) => k ≤ nn c cs r) (fun (k : Nat) => nn c cs r - k) (fun (k : Nat) => g) (fun (k : Nat) => [(0, .ref (B + b)), (1, .int (zI ((j : Nat) : Int))), (2, .int (zI ((a : Nat) : Int))), (3, .long (zJ (mnN 540 (fE c cs r) (lo cs r) k))), (5, .long (zJ (mxN (fG c cs r) (lo cs r) k))), (7, .int (zI ((min c.1 r : Nat) : Int))), (8, .int (zI (((lo cs r + k) : Nat) : Int)))]) ?_ 0 (Nat.zero_le _)
  rintro k hk ih_23
  have hlo : lo cs r ≤ r ∧ nn c cs r ≤ 13 := by unfold lo nn; omega
  refine w_iload dX2_sumBehind_23 6 rfl ?_
  refine w_iload dX2_sumBehind_25 5 rfl ?_
  refine w_icmp_gt 94 dX2_sumBehind_27 (by decide) (by first | omega | with_reducible rfl) (by first | omega | with_reducible rfl) (fun c_27 => ?_) (fun c_27 => ?_)
  · have hk9 : k = nn c cs r := by unfold lo nn at *; omega
    refine w_aload_n dX2_sumBehind_94 rfl 0 rfl ?_
    refine w_bipush dX2_sumBehind_95 (by decide) ?_
    refine w_iload_n dX2_sumBehind_97 rfl 1 rfl ?_
    refine w_iload_n dX2_sumBehind_98 rfl 2 rfl ?_
    refine w_lload_n dX2_sumBehind_99 rfl 3 rfl ?_
    refine w_callv (As := [.int (zI 6), .int (zI ((j : Nat) : Int)), .int (zI ((a : Nat) : Int)), .long (zJ (mnN 540 (fE c cs r) (lo cs r) k))]) (rest := []) (n := 4) (c_X2_put (kn := 6) hn (by first | omega | with_reducible rfl) (by first | omega | with_reducible rfl) (by first | omega | with_reducible rfl) (by first | omega | with_reducible rfl)) gX2_sumBehind_X2_put rfl rfl rfl (by decide +kernel) ⟨Nat.le_of_ble_eq_true rfl, Nat.le_of_ble_eq_true rfl⟩ rfl (by first | omega | with_reducible rfl) hn.1 rfl (Nat.le_of_ble_eq_true rfl) ⟨Nat.zero_le _, Nat.zero_le _⟩ dX2_sumBehind_100 rfl (fun g_5 hp_6 => ?_)
    obtain ⟨hn_7, hf_8⟩ := hp_6
    have hc_9 : vCol cy B g_5 cb sets n cver T X V Wy := vCol_fr hc (fun q h1 h2 => hf_8 q (by omega))
    have hfr_10 : ∀ q, (q < b ∨ b + 11 ≤ q) → g_5 q = g q := fun q hq => (hf_8 q (by omega)).trans (hfr_0 q hq)
    refine w_aload_n dX2_sumBehind_103 rfl 0 rfl ?_
    refine w_bipush dX2_sumBehind_104 (by decide) ?_
    refine w_iload_n dX2_sumBehind_106 rfl 1 rfl ?_
    refine w_iload_n dX2_sumBehind_107 rfl 2 rfl ?_
    refine w_lload dX2_sumBehind_108 4 rfl ?_
    refine w_callv (As := [.int (zI 7), .int (zI ((j : Nat) : Int)), .int (zI ((a : Nat) : Int)), .long (zJ (mxN (fG c cs r) (lo cs r) k))]) (rest := []) (n := 4) (c_X2_put (kn := 7) hn_7 (by first | omega | with_reducible rfl) (by first | omega | with_reducible rfl) (by first | omega | with_reducible rfl) (by first | omega | with_reducible rfl)) gX2_sumBehind_X2_put rfl rfl rfl (by decide +kernel) ⟨Nat.le_of_ble_eq_true rfl, Nat.le_of_ble_eq_true rfl⟩ rfl (by first | omega | with_reducible rfl) hn_7.1 rfl (Nat.le_of_ble_eq_true rfl) ⟨Nat.zero_le _, Nat.zero_le _⟩ dX2_sumBehind_110 rfl (fun g_11 hp_12 => ?_)
    obtain ⟨hn_13, hf_14⟩ := hp_12
    have hc_15 : vCol cy B g_11 cb sets n cver T X V Wy := vCol_fr hc_9 (fun q h1 h2 => hf_14 q (by omega))
    have hfr_16 : ∀ q, (q < b ∨ b + 11 ≤ q) → g_11 q = g q := fun q hq => (hf_14 q (by omega)).trans (hfr_10 q hq)
    exact w_vret dX2_sumBehind_113 rfl ⟨(by have h9 := hn_13; rw [hk9] at h9; exact h9), hfr_16⟩
  · have hln : lo cs r + k ≤ min c.1 r := by unfold lo nn at *; omega
    have hb6k := hb6 (lo cs r + k) (by omega) (by omega) (by omega)
    have hb7k := hb7 (lo cs r + k) (by omega) (by omega) (by omega)
    have hm6 := mnN_rg (M := 540) (f := fE c cs r) (a := lo cs r) (by omega) (k := k) (fun i hi => (hb6 _ (by omega) (by omega) (by omega)).1)
    have hm7 := mxN_rg (f := fG c cs r) (a := lo cs r) (M := 4611686018427387904) (by omega) (k := k) (fun i hi => hb7 _ (by omega) (by omega) (by omega))
    have hxv : 0 ≤ (((lo cs r + k) : Nat) : Int) * ((c.2 : Nat) : Int) ∧ (((lo cs r + k) : Nat) : Int) * ((c.2 : Nat) : Int) ≤ 12 * 9 := ⟨Int.mul_nonneg (by omega) (by omega), Int.mul_le_mul (by omega) (by omega) (by omega) (by omega)⟩
    refine w_iload dX2_sumBehind_30 6 rfl ?_
    refine w_aload_n dX2_sumBehind_32 rfl 0 rfl ?_
    refine w_get (i := 0) (T := TX2) (NF := 5) b (by first | omega | with_reducible rfl) hn.1 rfl (fun _ h => (List.mem_cons_of_mem _ (List.mem_append_left _ (List.mem_append_right _ h)))) (by decide) (List.mem_of_getElem? (i := 2) rfl) rfl dX2_sumBehind_33 ?_
    refine w_iload_n dX2_sumBehind_36 rfl 1 rfl ?_
    refine w_calli (As := [.int (zI ((j : Nat) : Int))]) (rest := [.int (zI (((lo cs r + k) : Nat) : Int))]) (n := 1) (c_X0_scoreOf hc (by first | omega | with_reducible rfl) (by first | omega | with_reducible rfl) (by first | omega | with_reducible rfl)) gX2_sumBehind_X0_scoreOf rfl rfl rfl (by decide +kernel) ⟨Nat.le_of_ble_eq_true rfl, Nat.le_of_ble_eq_true rfl⟩ rfl (by first | omega | with_reducible rfl) hc.1 rfl (Nat.le_of_ble_eq_true rfl) ⟨Nat.zero_le _, Nat.zero_le _⟩ dX2_sumBehind_37 rfl (fun g_17 hp_18 => ?_)
    subst g_17
    refine w_as (st' := [.int (zI ((c.2 : Nat) : Int)), .int (zI (((lo cs r + k) : Nat) : Int))]) (sc_i (by rw [inA_in (by omega)]; exact hV) rfl) ?_
    refine w_imul dX2_sumBehind_40 ?_
    refine w_i2l dX2_sumBehind_41 (by first | omega | with_reducible rfl) ?_
    refine w_lstore [(9, .long (zJ ((((lo cs r + k) : Nat) : Int) * ((c.2 : Nat) : Int)))), (0, .ref (B + b)), (1, .int (zI ((j : Nat) : Int))), (2, .int (zI ((a : Nat) : Int))), (3, .long (zJ (mnN 540 (fE c cs r) (lo cs r) k))), (5, .long (zJ (mxN (fG c cs r) (lo cs r) k))), (7, .int (zI ((min c.1 r : Nat) : Int))), (8, .int (zI (((lo cs r + k) : Nat) : Int)))] dX2_sumBehind_42 (by decide) rfl ?_
    refine w_lload_n dX2_sumBehind_44 rfl 4 rfl ?_
    refine w_lload dX2_sumBehind_45 0 rfl ?_
    refine w_aload_n dX2_sumBehind_47 rfl 1 rfl ?_
    refine w_bipush dX2_sumBehind_48 (by decide) ?_
    refine w_iload_n dX2_sumBehind_50 rfl 2 rfl ?_
    refine w_iconst dX2_sumBehind_51 ?_
    refine w_iadd dX2_sumBehind_52 ?_
    refine w_iload_n dX2_sumBehind_53 rfl 3 rfl ?_
    refine w_iload dX2_sumBehind_54 7 rfl ?_
    refine w_iadd dX2_sumBehind_56 ?_
    refine w_calll (As := [.int (zI 6), .int (zI (((j : Nat) : Int) + 1)), .int (zI (((a : Nat) : Int) + (((lo cs r + k) : Nat) : Int)))]) (rest := [.long (zJ ((((lo cs r + k) : Nat) : Int) * ((c.2 : Nat) : Int))), .long (zJ (mnN 540 (fE c cs r) (lo cs r) k))]) (n := 3) (c_X2_at hn (by first | omega | with_reducible rfl) (by first | omega | with_reducible rfl) (by first | omega | with_reducible rfl) (by first | omega | with_reducible rfl)) gX2_sumBehind_X2_at rfl rfl rfl (by decide +kernel) ⟨Nat.le_of_ble_eq_true rfl, Nat.le_of_ble_eq_true rfl⟩ rfl (by first | omega | with_reducible rfl) hn.1 rfl (Nat.le_of_ble_eq_true rfl) ⟨Nat.zero_le _, Nat.zero_le _⟩ dX2_sumBehind_57 rfl (fun g_19 hp_20 => ?_)
    subst g_19
    refine w_as (st' := [.long (zJ (les cs (r - (lo cs r + k)))), .long (zJ ((((lo cs r + k) : Nat) : Int) * ((c.2 : Nat) : Int))), .long (zJ (mnN 540 (fE c cs r) (lo cs r) k))]) (sc_l (by rw [atA_in (kd := 6) (q := 6) rfl (by omega) (show _ = ((((j : Nat) : Int) + 1) * 61) + (((a : Nat) : Int) + (((lo cs r + k) : Nat) : Int)) by omega)]; exact hw6 _ (by omega) (by omega) (by omega)) rfl) ?_
    refine w_ladd dX2_sumBehind_60 ?_
    refine w_as (st' := [.long (zJ (fE c cs r (lo cs r + k))), .long (zJ (mnN 540 (fE c cs r) (lo cs r) k))]) (sc_l rfl rfl) ?_
    refine w_mminJ (List.mem_of_getElem? (i := 3) rfl) (List.mem_of_getElem? (i := 4) rfl) (List.mem_of_getElem? (i := 5) rfl) (List.mem_of_getElem? (i := 6) rfl) (Nat.le_of_ble_eq_true rfl) (Nat.le_of_ble_eq_true rfl) ⟨Nat.zero_le _, Nat.zero_le _⟩ (by first | omega | with_reducible rfl) (by first | omega | with_reducible rfl) dX2_sumBehind_61 ?_
    refine w_lstore_n [(3, .long (zJ (min (mnN 540 (fE c cs r) (lo cs r) k) (fE c cs r (lo cs r + k))))), (9, .long (zJ ((((lo cs r + k) : Nat) : Int) * ((c.2 : Nat) : Int)))), (0, .ref (B + b)), (1, .int (zI ((j : Nat) : Int))), (2, .int (zI ((a : Nat) : Int))), (5, .long (zJ (mxN (fG c cs r) (lo cs r) k))), (7, .int (zI ((min c.1 r : Nat) : Int))), (8, .int (zI (((lo cs r + k) : Nat) : Int)))] dX2_sumBehind_64 rfl (by decide) rfl ?_
    refine w_lload dX2_sumBehind_65 5 rfl ?_
    refine w_lload dX2_sumBehind_67 1 rfl ?_
    refine w_aload_n dX2_sumBehind_69 rfl 2 rfl ?_
    refine w_bipush dX2_sumBehind_70 (by decide) ?_
    refine w_iload_n dX2_sumBehind_72 rfl 3 rfl ?_
    refine w_iconst dX2_sumBehind_73 ?_
    refine w_iadd dX2_sumBehind_74 ?_
    refine w_iload_n dX2_sumBehind_75 rfl 4 rfl ?_
    refine w_iload dX2_sumBehind_76 7 rfl ?_
    refine w_iadd dX2_sumBehind_78 ?_
    refine w_calll (As := [.int (zI 7), .int (zI (((j : Nat) : Int) + 1)), .int (zI (((a : Nat) : Int) + (((lo cs r + k) : Nat) : Int)))]) (rest := [.long (zJ ((((lo cs r + k) : Nat) : Int) * ((c.2 : Nat) : Int))), .long (zJ (mxN (fG c cs r) (lo cs r) k))]) (n := 3) (c_X2_at hn (by first | omega | with_reducible rfl) (by first | omega | with_reducible rfl) (by first | omega | with_reducible rfl) (by first | omega | with_reducible rfl)) gX2_sumBehind_X2_at rfl rfl rfl (by decide +kernel) ⟨Nat.le_of_ble_eq_true rfl, Nat.le_of_ble_eq_true rfl⟩ rfl (by first | omega | with_reducible rfl) hn.1 rfl (Nat.le_of_ble_eq_true rfl) ⟨Nat.zero_le _, Nat.zero_le _⟩ dX2_sumBehind_79 rfl (fun g_21 hp_22 => ?_)
    subst g_21
    refine w_as (st' := [.long (zJ (grs cs (r - (lo cs r + k)))), .long (zJ ((((lo cs r + k) : Nat) : Int) * ((c.2 : Nat) : Int))), .long (zJ (mxN (fG c cs r) (lo cs r) k))]) (sc_l (by rw [atA_in (kd := 7) (q := 7) rfl (by omega) (show _ = ((((j : Nat) : Int) + 1) * 61) + (((a : Nat) : Int) + (((lo cs r + k) : Nat) : Int)) by omega)]; exact hw7 _ (by omega) (by omega) (by omega)) rfl) ?_
    refine w_ladd dX2_sumBehind_82 ?_
    refine w_as (st' := [.long (zJ (fG c cs r (lo cs r + k))), .long (zJ (mxN (fG c cs r) (lo cs r) k))]) (sc_l rfl rfl) ?_
    refine w_mmaxJ (List.mem_of_getElem? (i := 7) rfl) (List.mem_of_getElem? (i := 8) rfl) (List.mem_of_getElem? (i := 5) rfl) (List.mem_of_getElem? (i := 9) rfl) (Nat.le_of_ble_eq_true rfl) (Nat.le_of_ble_eq_true rfl) ⟨Nat.zero_le _, Nat.zero_le _⟩ (by first | omega | with_reducible rfl) (by first | omega | with_reducible rfl) dX2_sumBehind_83 ?_
    refine w_lstore [(5, .long (zJ (max (mxN (fG c cs r) (lo cs r) k) (fG c cs r (lo cs r + k))))), (3, .long (zJ (min (mnN 540 (fE c cs r) (lo cs r) k) (fE c cs r (lo cs r + k))))), (9, .long (zJ ((((lo cs r + k) : Nat) : Int) * ((c.2 : Nat) : Int)))), (0, .ref (B + b)), (1, .int (zI ((j : Nat) : Int))), (2, .int (zI ((a : Nat) : Int))), (7, .int (zI ((min c.1 r : Nat) : Int))), (8, .int (zI (((lo cs r + k) : Nat) : Int)))] dX2_sumBehind_86 (by decide) rfl ?_
    refine w_iinc 7 [(8, .int (zI ((((lo cs r + k) : Nat) : Int) + 1))), (5, .long (zJ (max (mxN (fG c cs r) (lo cs r) k) (fG c cs r (lo cs r + k))))), (3, .long (zJ (min (mnN 540 (fE c cs r) (lo cs r) k) (fE c cs r (lo cs r + k))))), (9, .long (zJ ((((lo cs r + k) : Nat) : Int) * ((c.2 : Nat) : Int)))), (0, .ref (B + b)), (1, .int (zI ((j : Nat) : Int))), (2, .int (zI ((a : Nat) : Int))), (7, .int (zI ((min c.1 r : Nat) : Int)))] dX2_sumBehind_88 rfl (by decide) rfl ?_
    refine w_goto 23 dX2_sumBehind_91 (by decide) ?_
    refine w_sub [(0, .ref (B + b)), (1, .int (zI ((j : Nat) : Int))), (2, .int (zI ((a : Nat) : Int))), (3, .long (zJ (min (mnN 540 (fE c cs r) (lo cs r) k) (fE c cs r (lo cs r + k))))), (5, .long (zJ (max (mxN (fG c cs r) (lo cs r) k) (fG c cs r (lo cs r + k))))), (7, .int (zI ((min c.1 r : Nat) : Int))), (8, .int (zI ((((lo cs r + k) : Nat) : Int) + 1)))] [4, 5, 6, 2, 1, 7, 0] rfl ?_
    refine w_lv (lv' := [(0, .ref (B + b)), (1, .int (zI ((j : Nat) : Int))), (2, .int (zI ((a : Nat) : Int))), (3, .long (zJ (mnN 540 (fE c cs r) (lo cs r) (k + 1)))), (5, .long (zJ (mxN (fG c cs r) (lo cs r) (k + 1)))), (7, .int (zI ((min c.1 r : Nat) : Int))), (8, .int (zI (((lo cs r + (k + 1)) : Nat) : Int)))]) (lc_s (lc_s (lc_s (lc_l rfl (lc_l rfl (lc_s (lc_i (by first | omega | with_reducible rfl) rfl))))))) ?_
    exact ih_23 (k + 1) (by unfold lo nn at *; omega) (by unfold lo nn at *; omega)
set_option maxHeartbeats 4000000 in
set_option maxRecDepth 100000 in
theorem c_X2_waysAhead {l : Launch} {D : va_G} {cy : Nat → ClassId} {B N : Nat} {g : Nat → va_E} {b cb : Nat} {tf : Int → Int} {aa ver : Int} {G : Nat → Int → Int} {sets n : Nat} {cver : Int} {T X V : Int → Int} {Wy : Nat → Int → Int} {j a : Nat} {c : Nat × Nat} {cs : List (Nat × Nat)} (hn : vNet cy B g b cb tf aa ver G) (hc : vCol cy B g cb sets n cver T X V Wy) (hB : b + 11 ≤ N) (hN : cb + 10 ≤ N) (hn5 : n ≤ 5) (hj : j < n) (ha60 : a ≤ 60) (hc1 : T ((j : Nat) : Int) = ((c.1 : Nat) : Int)) (hc12 : c.1 ≤ 12) (hWy : ∀ x : Nat, x ≤ 12 → Wy j ((x : Nat) : Int) = ((ch c.1 x : Nat) : Int)) (hw0 : ∀ x : Nat, x ≤ c.1 → x ≤ a → G 0 ((((j : Nat) : Int) * 61) + ((a - x : Nat) : Int)) = ah cs (a - x)) : CTl l yX2_waysAhead wsX2_waysAhead (rmo 1 23) D cy B N g [.ref (B + b), .int (zI (((j + 1) : Nat) : Int)), .int (zI ((a : Nat) : Int))] (ah (c :: cs) a) (fun g' => g' = g) := by
  refine WW_of (cc := cX2_waysAhead) (maxL := 6) (ret := (some .long)) (own := RX2) (by decide) rfl rfl (Nat.le_of_ble_eq_true rfl) rfl ?_
  intro pp ee ss mm bl me co hmn
  refine w_lconst0 dX2_waysAhead_0 ?_
  refine w_lstore_n [(3, .long (zJ 0)), (0, .ref (B + b)), (1, .int (zI (((j + 1) : Nat) : Int))), (2, .int (zI ((a : Nat) : Int)))] dX2_waysAhead_1 rfl (by decide) rfl ?_
  refine w_iconst dX2_waysAhead_2 ?_
  refine w_istore [(5, .int (zI 0)), (3, .long (zJ 0)), (0, .ref (B + b)), (1, .int (zI (((j + 1) : Nat) : Int))), (2, .int (zI ((a : Nat) : Int)))] dX2_waysAhead_3 (by decide) rfl ?_
  refine w_sub [(0, .ref (B + b)), (1, .int (zI (((j + 1) : Nat) : Int))), (2, .int (zI ((a : Nat) : Int))), (3, .long (zJ 0)), (5, .int (zI 0))] [2, 3, 4, 1, 0] rfl ?_
  refine w_lv (lv' := [(0, .ref (B + b)), (1, .int (zI (((j + 1) : Nat) : Int))), (2, .int (zI ((a : Nat) : Int))), (3, .long (zJ (srN (fA c cs a) 0 0))), (5, .int (zI ((0 : Nat) : Int)))]) (lc_s (lc_s (lc_s (lc_l rfl (lc_i (by first | omega | with_reducible rfl) rfl))))) ?_
  refine w_loop1 (fun (k : Nat) => k ≤ c.1 + 1) (fun (k : Nat) => c.1 + 1 - k) (fun (k : Nat) => g) (fun (k : Nat) => [(0, .ref (B + b)), (1, .int (zI (((j + 1) : Nat) : Int))), (2, .int (zI ((a : Nat) : Int))), (3, .long (zJ (srN (fA c cs a) 0 k))), (5, .int (zI ((k : Nat) : Int)))]) ?_ 0 (by first | omega | with_reducible rfl)
  rintro k hk ih_5
  refine w_iload dX2_waysAhead_5 4 rfl ?_
  refine w_aload_n dX2_waysAhead_7 rfl 0 rfl ?_
  refine w_get (i := 0) (T := TX2) (NF := 5) b (by first | omega | with_reducible rfl) hn.1 rfl (fun _ h => (List.mem_cons_of_mem _ (List.mem_append_left _ (List.mem_append_right _ h)))) (by decide) (List.mem_of_getElem? (i := 1) rfl) rfl dX2_waysAhead_8 ?_
  refine w_iload_n dX2_waysAhead_11 rfl 1 rfl ?_
  refine w_iconst dX2_waysAhead_12 ?_
  refine w_isub dX2_waysAhead_13 ?_
  refine w_calli (As := [.int (zI ((((j + 1) : Nat) : Int) - 1))]) (rest := [.int (zI ((k : Nat) : Int))]) (n := 1) (c_X0_totalOf hc (by first | omega | with_reducible rfl) (by first | omega | with_reducible rfl) (by first | omega | with_reducible rfl)) gX2_waysAhead_X0_totalOf rfl rfl rfl (by decide +kernel) ⟨Nat.le_of_ble_eq_true rfl, Nat.le_of_ble_eq_true rfl⟩ rfl (by first | omega | with_reducible rfl) hc.1 rfl (Nat.le_of_ble_eq_true rfl) ⟨Nat.zero_le _, Nat.zero_le _⟩ dX2_waysAhead_14 rfl (fun g_1 hp_2 => ?_)
  subst g_1
  refine w_as (st' := [.int (zI ((c.1 : Nat) : Int)), .int (zI ((k : Nat) : Int))]) (sc_i (by rw [inA_in (by omega), show (((j + 1) : Nat) : Int) - 1 = ((j : Nat) : Int) by omega]; exact hc1) rfl) ?_
  refine w_icmp_gt 54 dX2_waysAhead_17 (by decide) (by first | omega | with_reducible rfl) (by first | omega | with_reducible rfl) (fun c_17 => ?_) (fun c_17 => ?_)
  · refine w_lload_n dX2_waysAhead_54 rfl 3 rfl ?_
    exact w_lret dX2_waysAhead_55 rfl (by rw [show k = c.1 + 1 by omega]; rfl) rfl
  · refine w_lload_n dX2_waysAhead_20 rfl 3 rfl ?_
    refine w_aload_n dX2_waysAhead_21 rfl 0 rfl ?_
    refine w_get (i := 0) (T := TX2) (NF := 5) b (by first | omega | with_reducible rfl) hn.1 rfl (fun _ h => (List.mem_cons_of_mem _ (List.mem_append_left _ (List.mem_append_right _ h)))) (by decide) (List.mem_of_getElem? (i := 1) rfl) rfl dX2_waysAhead_22 ?_
    refine w_iload_n dX2_waysAhead_25 rfl 1 rfl ?_
    refine w_iconst dX2_waysAhead_26 ?_
    refine w_isub dX2_waysAhead_27 ?_
    refine w_iload dX2_waysAhead_28 4 rfl ?_
    refine w_calll (As := [.int (zI ((((j + 1) : Nat) : Int) - 1)), .int (zI ((k : Nat) : Int))]) (rest := [.long (zJ (srN (fA c cs a) 0 k))]) (n := 2) (c_X0_waysOf hc (by first | omega | with_reducible rfl) (by first | omega | with_reducible rfl) (by first | omega | with_reducible rfl) (by first | omega | with_reducible rfl)) gX2_waysAhead_X0_waysOf rfl rfl rfl (by decide +kernel) ⟨Nat.le_of_ble_eq_true rfl, Nat.le_of_ble_eq_true rfl⟩ rfl (by first | omega | with_reducible rfl) hc.1 rfl (Nat.le_of_ble_eq_true rfl) ⟨Nat.zero_le _, Nat.zero_le _⟩ dX2_waysAhead_30 rfl (fun g_3 hp_4 => ?_)
    subst g_3
    refine w_as (st' := [.long (zJ ((ch c.1 k : Nat) : Int)), .long (zJ (srN (fA c cs a) 0 k))]) (sc_l (by rw [wyA_in (by omega), show ((((j + 1) : Nat) : Int) - 1).toNat = j by omega]; exact hWy _ (by omega)) rfl) ?_
    refine w_aload_n dX2_waysAhead_33 rfl 0 rfl ?_
    refine w_iconst dX2_waysAhead_34 ?_
    refine w_iload_n dX2_waysAhead_35 rfl 1 rfl ?_
    refine w_iconst dX2_waysAhead_36 ?_
    refine w_isub dX2_waysAhead_37 ?_
    refine w_iload_n dX2_waysAhead_38 rfl 2 rfl ?_
    refine w_iload dX2_waysAhead_39 4 rfl ?_
    refine w_isub dX2_waysAhead_41 ?_
    refine w_calll (As := [.int (zI 0), .int (zI ((((j + 1) : Nat) : Int) - 1)), .int (zI (((a : Nat) : Int) - ((k : Nat) : Int)))]) (rest := [.long (zJ ((ch c.1 k : Nat) : Int)), .long (zJ (srN (fA c cs a) 0 k))]) (n := 3) (c_X2_at hn (by first | omega | with_reducible rfl) (by first | omega | with_reducible rfl) (by first | omega | with_reducible rfl) (by first | omega | with_reducible rfl)) gX2_waysAhead_X2_at rfl rfl rfl (by decide +kernel) ⟨Nat.le_of_ble_eq_true rfl, Nat.le_of_ble_eq_true rfl⟩ rfl (by first | omega | with_reducible rfl) hn.1 rfl (Nat.le_of_ble_eq_true rfl) ⟨Nat.zero_le _, Nat.zero_le _⟩ dX2_waysAhead_42 rfl (fun g_5 hp_6 => ?_)
    subst g_5
    refine w_as (st' := [.long (zJ (if k ≤ a then ah cs (a - k) else 0)), .long (zJ ((ch c.1 k : Nat) : Int)), .long (zJ (srN (fA c cs a) 0 k))]) (sc_l (at_ah (j := j) (by omega) (by omega) (by omega) (fun h => hw0 k (by omega) h)) rfl) ?_
    refine w_lmul dX2_waysAhead_45 ?_
    refine w_as (st' := [.long (zJ (fA c cs a k)), .long (zJ (srN (fA c cs a) 0 k))]) (sc_l rfl rfl) ?_
    refine w_ladd dX2_waysAhead_46 ?_
    refine w_lstore_n [(3, .long (zJ ((srN (fA c cs a) 0 k) + (fA c cs a k)))), (0, .ref (B + b)), (1, .int (zI (((j + 1) : Nat) : Int))), (2, .int (zI ((a : Nat) : Int))), (5, .int (zI ((k : Nat) : Int)))] dX2_waysAhead_47 rfl (by decide) rfl ?_
    refine w_iinc 4 [(5, .int (zI (((k : Nat) : Int) + 1))), (3, .long (zJ ((srN (fA c cs a) 0 k) + (fA c cs a k)))), (0, .ref (B + b)), (1, .int (zI (((j + 1) : Nat) : Int))), (2, .int (zI ((a : Nat) : Int)))] dX2_waysAhead_48 rfl (by decide) rfl ?_
    refine w_goto 5 dX2_waysAhead_51 (by decide) ?_
    refine w_sub [(0, .ref (B + b)), (1, .int (zI (((j + 1) : Nat) : Int))), (2, .int (zI ((a : Nat) : Int))), (3, .long (zJ ((srN (fA c cs a) 0 k) + (fA c cs a k)))), (5, .int (zI (((k : Nat) : Int) + 1)))] [2, 3, 4, 1, 0] rfl ?_
    refine w_lv (lv' := [(0, .ref (B + b)), (1, .int (zI (((j + 1) : Nat) : Int))), (2, .int (zI ((a : Nat) : Int))), (3, .long (zJ (srN (fA c cs a) 0 (k + 1)))), (5, .int (zI (((k + 1) : Nat) : Int)))]) (lc_s (lc_s (lc_s (lc_l (by rw [srN, Nat.zero_add]) (lc_i (by first | omega | with_reducible rfl) rfl))))) ?_
    exact ih_5 (k + 1) (by first | omega | with_reducible rfl) (by first | omega | with_reducible rfl)
