/-! ===== the law: its loop ===== -/
set_option maxRecDepth 100000 in
theorem law_loop {p : Program} {l : Launch} {e : Env} {s : State} {m : MethodId} {below : List Frame} {meth : Method} {c : Code} {D : va_G} {cy : Nat → ClassId} {b L cells slots : Nat} {xs : Nat → Int32} {n0 : Nat} {Lt0 : Int → Int} {S0 : St} {P0 : List St} {g : Nat → va_E} (hX : va_X b L xs s s.heap) (hbl : b < s.heap.size) (hbA : ¬ yA s.heap.size b) (hL : L ≤ 2560) (hcs : cells ≤ room_1.cells ∧ slots ≤ room_1.slots) (hCW0 : CW cy s.heap.size g n0 Lt0 S0 P0 7) (hMW0 : MW cy s.heap.size g n0 Lt0 S0 P0) (hwf0 : WFg n0 Lt0 S0 P0) : WW p l e room_1 s m #[Value.ref b] below meth c (lw_Z below #[Value.ref b] s) cL_law 4 ret RL wsL_law D cy s.heap.size 160 cells slots g 18 [(3, .int (zI 0)), (2, .ref (s.heap.size + 141)), (1, .ref (s.heap.size + 0)), (0, .ref b)] [] := by
  refine w_loop6 (fun (i n : Nat) (Lt : Int → Int) (S : St) (P : List St) (g1 : Nat → va_E) => CW cy s.heap.size g1 n Lt S P (7 + 4 * ((i : Nat) : Int)) ∧ MW cy s.heap.size g1 n Lt S P ∧ WFg n Lt S P ∧ i ≤ 2600) (fun (i n : Nat) (Lt : Int → Int) (S : St) (P : List St) (g1 : Nat → va_E) => 2600 - i) (fun (i n : Nat) (Lt : Int → Int) (S : St) (P : List St) (g1 : Nat → va_E) => g1) (fun (i n : Nat) (Lt : Int → Int) (S : St) (P : List St) (g1 : Nat → va_E) => [(3, .int (zI ((i : Nat) : Int))), (2, .ref (s.heap.size + 141)), (1, .ref (s.heap.size + 0)), (0, .ref b)]) ?_ 0 n0 Lt0 S0 P0 g ⟨CW_M hCW0 (by omega), hMW0, hwf0, by omega⟩
  rintro i n Lt S P g1 ⟨hCW, hMW, hwf, hi6⟩ ih
  refine w_iload_n dL_law_18 rfl 0 rfl ?_
  refine w_aload_n dL_law_19 rfl 3 rfl ?_
  refine w_slen hX hbl hbA dL_law_20 ?_
  refine w_iconst dL_law_21 ?_
  refine w_isub dL_law_22 ?_
  refine w_icmp_gt 758 dL_law_23 (by decide) (by omega) (by omega) (fun h => ?_) (fun h => ?_)
  · refine w_iconst dL_law_758 ?_
    intro C hb hz H locs ls hP hS hl
    refine va_forget (fun q hq => hS.2.2 q hq) ?_
    refine W.widen (k := 600000) (n := 7302250) hcs.1 hcs.2 ?_
    exact lw_ret C.1 C.2.1 C.2.2.2.2.2.2.1 C.2.2.2.2.2.2.2 dL_law_759
  · have hi : ((i : Nat) : Int) + 5 ≤ L := by omega
    refine w_aload_n dL_law_26 rfl 3 rfl ?_
    refine w_iload_n dL_law_27 rfl 0 rfl ?_
    refine w_sld hX hbl hbA (by omega) dL_law_28 ?_
    refine w_bipush dL_law_29 (by decide) ?_
    refine w_andR dL_law_31 (fun r hr => ?_)
    by_cases c_32 : r < 0 ∨ 19 < r
    · refine w_tout 752 dL_law_32 hr c_32 (by decide) ?_
      refine w_iinc 0 [(3, .int (zI (((i : Nat) : Int) + 5))), (2, .ref (s.heap.size + 141)), (1, .ref (s.heap.size + 0)), (0, .ref b)] dL_law_752 rfl (by decide) rfl ?_
      refine w_lv (lv' := [(3, .int (zI ((i + 5 : Nat) : Int))), (2, .ref (s.heap.size + 141)), (1, .ref (s.heap.size + 0)), (0, .ref b)]) (lc_i (by omega) (lc_s (lc_s (lc_s rfl)))) ?_
      refine w_goto 18 dL_law_755 (by decide) ?_
      exact ih (i + 5) n Lt S P g1 ⟨CW_up hCW (by omega), hMW, hwf, by omega⟩ (by omega)
    · rcases (show r = 0 ∨ r = 1 ∨ r = 2 ∨ r = 3 ∨ r = 4 ∨ r = 5 ∨ r = 6 ∨ r = 7 ∨ r = 8 ∨ r = 9 ∨ r = 10 ∨ r = 11 ∨ r = 12 ∨ r = 13 ∨ r = 14 ∨ r = 15 ∨ r = 16 ∨ r = 17 ∨ r = 18 ∨ r = 19 by omega) with c_32 | c_32 | c_32 | c_32 | c_32 | c_32 | c_32 | c_32 | c_32 | c_32 | c_32 | c_32 | c_32 | c_32 | c_32 | c_32 | c_32 | c_32 | c_32 | c_32
      · refine w_tin (z := r) (off := 96) 128 dL_law_32 hr (by omega) (by omega) (by rw [c_32]; rfl) (by decide) ?_
        exact lawc_write hX hbl hbA hL hcs hi hCW hMW hwf ih
      · refine w_tin (z := r) (off := 119) 151 dL_law_32 hr (by omega) (by omega) (by rw [c_32]; rfl) (by decide) ?_
        exact lawc_wipe hX hbl hbA hL hcs hi hCW hMW hwf ih
      · refine w_tin (z := r) (off := 132) 164 dL_law_32 hr (by omega) (by omega) (by rw [c_32]; rfl) (by decide) ?_
        exact lawc_fault hX hbl hbA hL hcs hi hCW hMW hwf ih
      · refine w_tin (z := r) (off := 145) 177 dL_law_32 hr (by omega) (by omega) (by rw [c_32]; rfl) (by decide) ?_
        exact lawc_lay hX hbl hbA hL hcs hi hCW hMW hwf ih
      · refine w_tin (z := r) (off := 158) 190 dL_law_32 hr (by omega) (by omega) (by rw [c_32]; rfl) (by decide) ?_
        exact lawc_set hX hbl hbA hL hcs hi hCW hMW hwf ih
      · refine w_tin (z := r) (off := 211) 243 dL_law_32 hr (by omega) (by omega) (by rw [c_32]; rfl) (by decide) ?_
        exact lawc_move hX hbl hbA hL hcs hi hCW hMW hwf ih
      · refine w_tin (z := r) (off := 254) 286 dL_law_32 hr (by omega) (by omega) (by rw [c_32]; rfl) (by decide) ?_
        exact lawc_turn hX hbl hbA hL hcs hi hCW hMW hwf ih
      · refine w_tin (z := r) (off := 277) 309 dL_law_32 hr (by omega) (by omega) (by rw [c_32]; rfl) (by decide) ?_
        exact lawc_undo hX hbl hbA hL hcs hi hCW hMW hwf ih
      · refine w_tin (z := r) (off := 290) 322 dL_law_32 hr (by omega) (by omega) (by rw [c_32]; rfl) (by decide) ?_
        exact lawc_column hX hbl hbA hL hcs hi hCW hMW hwf ih
      · refine w_tin (z := r) (off := 333) 365 dL_law_32 hr (by omega) (by omega) (by rw [c_32]; rfl) (by decide) ?_
        exact lawc_stratum hX hbl hbA hL hcs hi hCW hMW hwf ih
      · refine w_tin (z := r) (off := 366) 398 dL_law_32 hr (by omega) (by omega) (by rw [c_32]; rfl) (by decide) ?_
        exact lawc_ways hX hbl hbA hL hcs hi hCW hMW hwf ih
      · refine w_tin (z := r) (off := 400) 432 dL_law_32 hr (by omega) (by omega) (by rw [c_32]; rfl) (by decide) ?_
        exact lawc_chance hX hbl hbA hL hcs hi hCW hMW hwf ih
      · refine w_tin (z := r) (off := 444) 476 dL_law_32 hr (by omega) (by omega) (by rw [c_32]; rfl) (by decide) ?_
        exact lawc_joined hX hbl hbA hL hcs hi hCW hMW hwf ih
      · refine w_tin (z := r) (off := 478) 510 dL_law_32 hr (by omega) (by omega) (by rw [c_32]; rfl) (by decide) ?_
        exact lawc_strange hX hbl hbA hL hcs hi hCW hMW hwf ih
      · refine w_tin (z := r) (off := 511) 543 dL_law_32 hr (by omega) (by omega) (by rw [c_32]; rfl) (by decide) ?_
        exact lawc_node hX hbl hbA hL hcs hi hCW hMW hwf ih
      · refine w_tin (z := r) (off := 565) 597 dL_law_32 hr (by omega) (by omega) (by rw [c_32]; rfl) (by decide) ?_
        exact lawc_looks hX hbl hbA hL hcs hi hCW hMW hwf ih
      · refine w_tin (z := r) (off := 598) 630 dL_law_32 hr (by omega) (by omega) (by rw [c_32]; rfl) (by decide) ?_
        exact lawc_table hX hbl hbA hL hcs hi hCW hMW hwf ih
      · refine w_tin (z := r) (off := 641) 673 dL_law_32 hr (by omega) (by omega) (by rw [c_32]; rfl) (by decide) ?_
        exact lawc_rank hX hbl hbA hL hcs hi hCW hMW hwf ih
      · refine w_tin (z := r) (off := 664) 696 dL_law_32 hr (by omega) (by omega) (by rw [c_32]; rfl) (by decide) ?_
        exact lawc_likeliest hX hbl hbA hL hcs hi hCW hMW hwf ih
      · refine w_tin (z := r) (off := 697) 729 dL_law_32 hr (by omega) (by omega) (by rw [c_32]; rfl) (by decide) ?_
        exact lawc_count hX hbl hbA hL hcs hi hCW hMW hwf ih
