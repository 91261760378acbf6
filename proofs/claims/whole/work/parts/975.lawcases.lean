/-! ===== the law: one case each ===== -/
set_option maxRecDepth 100000 in
theorem lawc_write {p : Program} {l : Launch} {e : Env} {s : State} {m : MethodId} {below : List Frame} {meth : Method} {c : Code} {D : va_G} {cy : Nat → ClassId} {b L cells slots : Nat} {xs : Nat → Int32} {i n : Nat} {Lt : Int → Int} {S : St} {P : List St} {g : Nat → va_E} (hX : va_X b L xs s s.heap) (hbl : b < s.heap.size) (hbA : ¬ yA s.heap.size b) (hL : L ≤ 2560) (hcs : cells ≤ room_1.cells ∧ slots ≤ room_1.slots) (hi : ((i : Nat) : Int) + 5 ≤ L) (hCW : CW cy s.heap.size g n Lt S P (7 + 4 * ((i : Nat) : Int))) (hMW : MW cy s.heap.size g n Lt S P) (hwf : WFg n Lt S P) (ih : ∀ (i1 n1 : Nat) (L1 : Int → Int) (S1 : St) (P1 : List St) (g1 : Nat → va_E), (CW cy s.heap.size g1 n1 L1 S1 P1 (7 + 4 * ((i1 : Nat) : Int)) ∧ MW cy s.heap.size g1 n1 L1 S1 P1 ∧ WFg n1 L1 S1 P1 ∧ i1 ≤ 2600) → 2600 - i1 < 2600 - i → WW p l e room_1 s m #[Value.ref b] below meth c (lw_Z below #[Value.ref b] s) cL_law 4 ret RL wsL_law D cy s.heap.size 160 cells slots g1 18 [(3, .int (zI ((i1 : Nat) : Int))), (2, .ref (s.heap.size + 141)), (1, .ref (s.heap.size + 0)), (0, .ref b)] []) : WW p l e room_1 s m #[Value.ref b] below meth c (lw_Z below #[Value.ref b] s) cL_law 4 ret RL wsL_law D cy s.heap.size 160 cells slots g 128 [(3, .int (zI ((i : Nat) : Int))), (2, .ref (s.heap.size + 141)), (1, .ref (s.heap.size + 0)), (0, .ref b)] [] := by
  obtain ⟨E, n1, L1, S1, P1, hwf1, hC1, hM1⟩ := api_write (l := l) (D := D) (cy := cy) (B := s.heap.size) hwf (xz_rg (((i : Nat) : Int) + 1))
  refine w_aload_n dL_law_128 rfl 2 rfl ?_
  refine w_aload_n dL_law_129 rfl 3 rfl ?_
  refine w_iload_n dL_law_130 rfl 0 rfl ?_
  refine w_iconst dL_law_131 ?_
  refine w_iadd dL_law_132 ?_
  refine w_sld hX hbl hbA (by omega) dL_law_133 ?_
  obtain ⟨hg0_fs, hg0⟩ := CW_0 hCW
  refine w_calli (As := [.int (zI (xz xs (((i : Nat) : Int) + 1)))]) (rest := []) (n := 1) (hC1 160 g (7 + 4 * ((i : Nat) : Int)) (Nat.le_refl _) (by omega) hCW) gL_law_X10_write rfl rfl rfl (by decide +kernel) ⟨Nat.le_of_ble_eq_true rfl, Nat.le_of_ble_eq_true rfl⟩ rfl (by omega) hg0 rfl (Nat.le_of_ble_eq_true rfl) hcs dL_law_134 rfl (fun g2 hp1 => ?_)
  obtain ⟨hCW2, hf2⟩ := hp1
  have hMW2 := MW_fr hMW hf2
  refine w_aload_n dL_law_137 rfl 1 rfl ?_
  refine w_aload_n dL_law_138 rfl 3 rfl ?_
  refine w_iload_n dL_law_139 rfl 0 rfl ?_
  refine w_iconst dL_law_140 ?_
  refine w_iadd dL_law_141 ?_
  refine w_sld hX hbl hbA (by omega) dL_law_142 ?_
  obtain ⟨hg1_fs, hg1⟩ := MW_0 hMW2
  refine w_calli (As := [.int (zI (xz xs (((i : Nat) : Int) + 1)))]) (rest := [.int (zI E)]) (n := 1) (hM1 160 g2 (Nat.le_refl _) hMW2) gL_law_X11_write rfl rfl rfl (by decide +kernel) ⟨Nat.le_of_ble_eq_true rfl, Nat.le_of_ble_eq_true rfl⟩ rfl (by omega) hg1 rfl (Nat.le_of_ble_eq_true rfl) hcs dL_law_143 rfl (fun g3 hp2 => ?_)
  obtain ⟨hMW3, hf3⟩ := hp2
  have hCW3 := CW_fr hCW2 (fun q h => hf3 q (Or.inl h))
  refine w_eqS 752 dL_law_146 (by decide) ?_
  refine w_iinc 0 [(3, .int (zI (((i : Nat) : Int) + 5))), (2, .ref (s.heap.size + 141)), (1, .ref (s.heap.size + 0)), (0, .ref b)] dL_law_752 rfl (by decide) rfl ?_
  refine w_lv (lv' := [(3, .int (zI ((i + 5 : Nat) : Int))), (2, .ref (s.heap.size + 141)), (1, .ref (s.heap.size + 0)), (0, .ref b)]) (lc_i (by omega) (lc_s (lc_s (lc_s rfl)))) ?_
  refine w_goto 18 dL_law_755 (by decide) ?_
  exact ih (i + 5) n1 L1 S1 P1 g3 ⟨CW_M hCW3 (by omega), hMW3, hwf1, by omega⟩ (by omega)

set_option maxRecDepth 100000 in
theorem lawc_wipe {p : Program} {l : Launch} {e : Env} {s : State} {m : MethodId} {below : List Frame} {meth : Method} {c : Code} {D : va_G} {cy : Nat → ClassId} {b L cells slots : Nat} {xs : Nat → Int32} {i n : Nat} {Lt : Int → Int} {S : St} {P : List St} {g : Nat → va_E} (hX : va_X b L xs s s.heap) (hbl : b < s.heap.size) (hbA : ¬ yA s.heap.size b) (hL : L ≤ 2560) (hcs : cells ≤ room_1.cells ∧ slots ≤ room_1.slots) (hi : ((i : Nat) : Int) + 5 ≤ L) (hCW : CW cy s.heap.size g n Lt S P (7 + 4 * ((i : Nat) : Int))) (hMW : MW cy s.heap.size g n Lt S P) (hwf : WFg n Lt S P) (ih : ∀ (i1 n1 : Nat) (L1 : Int → Int) (S1 : St) (P1 : List St) (g1 : Nat → va_E), (CW cy s.heap.size g1 n1 L1 S1 P1 (7 + 4 * ((i1 : Nat) : Int)) ∧ MW cy s.heap.size g1 n1 L1 S1 P1 ∧ WFg n1 L1 S1 P1 ∧ i1 ≤ 2600) → 2600 - i1 < 2600 - i → WW p l e room_1 s m #[Value.ref b] below meth c (lw_Z below #[Value.ref b] s) cL_law 4 ret RL wsL_law D cy s.heap.size 160 cells slots g1 18 [(3, .int (zI ((i1 : Nat) : Int))), (2, .ref (s.heap.size + 141)), (1, .ref (s.heap.size + 0)), (0, .ref b)] []) : WW p l e room_1 s m #[Value.ref b] below meth c (lw_Z below #[Value.ref b] s) cL_law 4 ret RL wsL_law D cy s.heap.size 160 cells slots g 151 [(3, .int (zI ((i : Nat) : Int))), (2, .ref (s.heap.size + 141)), (1, .ref (s.heap.size + 0)), (0, .ref b)] [] := by
  obtain ⟨E, n1, L1, S1, P1, hwf1, hC1, hM1⟩ := api_wipe (l := l) (D := D) (cy := cy) (B := s.heap.size) hwf
  refine w_aload_n dL_law_151 rfl 2 rfl ?_
  obtain ⟨hg0_fs, hg0⟩ := CW_0 hCW
  refine w_calli (As := []) (rest := []) (n := 0) (hC1 160 g (7 + 4 * ((i : Nat) : Int)) (Nat.le_refl _) (by omega) hCW) gL_law_X10_wipe rfl rfl rfl (by decide +kernel) ⟨Nat.le_of_ble_eq_true rfl, Nat.le_of_ble_eq_true rfl⟩ rfl (by omega) hg0 rfl (Nat.le_of_ble_eq_true rfl) hcs dL_law_152 rfl (fun g2 hp1 => ?_)
  obtain ⟨hCW2, hf2⟩ := hp1
  have hMW2 := MW_fr hMW hf2
  refine w_aload_n dL_law_155 rfl 1 rfl ?_
  obtain ⟨hg1_fs, hg1⟩ := MW_0 hMW2
  refine w_calli (As := []) (rest := [.int (zI E)]) (n := 0) (hM1 160 g2 (Nat.le_refl _) hMW2) gL_law_X11_wipe rfl rfl rfl (by decide +kernel) ⟨Nat.le_of_ble_eq_true rfl, Nat.le_of_ble_eq_true rfl⟩ rfl (by omega) hg1 rfl (Nat.le_of_ble_eq_true rfl) hcs dL_law_156 rfl (fun g3 hp2 => ?_)
  obtain ⟨hMW3, hf3⟩ := hp2
  have hCW3 := CW_fr hCW2 (fun q h => hf3 q (Or.inl h))
  refine w_eqS 752 dL_law_159 (by decide) ?_
  refine w_iinc 0 [(3, .int (zI (((i : Nat) : Int) + 5))), (2, .ref (s.heap.size + 141)), (1, .ref (s.heap.size + 0)), (0, .ref b)] dL_law_752 rfl (by decide) rfl ?_
  refine w_lv (lv' := [(3, .int (zI ((i + 5 : Nat) : Int))), (2, .ref (s.heap.size + 141)), (1, .ref (s.heap.size + 0)), (0, .ref b)]) (lc_i (by omega) (lc_s (lc_s (lc_s rfl)))) ?_
  refine w_goto 18 dL_law_755 (by decide) ?_
  exact ih (i + 5) n1 L1 S1 P1 g3 ⟨CW_M hCW3 (by omega), hMW3, hwf1, by omega⟩ (by omega)

set_option maxRecDepth 100000 in
theorem lawc_fault {p : Program} {l : Launch} {e : Env} {s : State} {m : MethodId} {below : List Frame} {meth : Method} {c : Code} {D : va_G} {cy : Nat → ClassId} {b L cells slots : Nat} {xs : Nat → Int32} {i n : Nat} {Lt : Int → Int} {S : St} {P : List St} {g : Nat → va_E} (hX : va_X b L xs s s.heap) (hbl : b < s.heap.size) (hbA : ¬ yA s.heap.size b) (hL : L ≤ 2560) (hcs : cells ≤ room_1.cells ∧ slots ≤ room_1.slots) (hi : ((i : Nat) : Int) + 5 ≤ L) (hCW : CW cy s.heap.size g n Lt S P (7 + 4 * ((i : Nat) : Int))) (hMW : MW cy s.heap.size g n Lt S P) (hwf : WFg n Lt S P) (ih : ∀ (i1 n1 : Nat) (L1 : Int → Int) (S1 : St) (P1 : List St) (g1 : Nat → va_E), (CW cy s.heap.size g1 n1 L1 S1 P1 (7 + 4 * ((i1 : Nat) : Int)) ∧ MW cy s.heap.size g1 n1 L1 S1 P1 ∧ WFg n1 L1 S1 P1 ∧ i1 ≤ 2600) → 2600 - i1 < 2600 - i → WW p l e room_1 s m #[Value.ref b] below meth c (lw_Z below #[Value.ref b] s) cL_law 4 ret RL wsL_law D cy s.heap.size 160 cells slots g1 18 [(3, .int (zI ((i1 : Nat) : Int))), (2, .ref (s.heap.size + 141)), (1, .ref (s.heap.size + 0)), (0, .ref b)] []) : WW p l e room_1 s m #[Value.ref b] below meth c (lw_Z below #[Value.ref b] s) cL_law 4 ret RL wsL_law D cy s.heap.size 160 cells slots g 164 [(3, .int (zI ((i : Nat) : Int))), (2, .ref (s.heap.size + 141)), (1, .ref (s.heap.size + 0)), (0, .ref b)] [] := by
  obtain ⟨E, n1, L1, S1, P1, hwf1, hC1, hM1⟩ := api_fault (l := l) (D := D) (cy := cy) (B := s.heap.size) hwf
  refine w_aload_n dL_law_164 rfl 2 rfl ?_
  obtain ⟨hg0_fs, hg0⟩ := CW_0 hCW
  refine w_calli (As := []) (rest := []) (n := 0) (hC1 160 g (7 + 4 * ((i : Nat) : Int)) (Nat.le_refl _) (by omega) hCW) gL_law_X10_fault rfl rfl rfl (by decide +kernel) ⟨Nat.le_of_ble_eq_true rfl, Nat.le_of_ble_eq_true rfl⟩ rfl (by omega) hg0 rfl (Nat.le_of_ble_eq_true rfl) hcs dL_law_165 rfl (fun g2 hp1 => ?_)
  obtain ⟨hCW2, hf2⟩ := hp1
  have hMW2 := MW_fr hMW hf2
  refine w_aload_n dL_law_168 rfl 1 rfl ?_
  obtain ⟨hg1_fs, hg1⟩ := MW_0 hMW2
  refine w_calli (As := []) (rest := [.int (zI E)]) (n := 0) (hM1 160 g2 (Nat.le_refl _) hMW2) gL_law_X11_fault rfl rfl rfl (by decide +kernel) ⟨Nat.le_of_ble_eq_true rfl, Nat.le_of_ble_eq_true rfl⟩ rfl (by omega) hg1 rfl (Nat.le_of_ble_eq_true rfl) hcs dL_law_169 rfl (fun g3 hp2 => ?_)
  obtain ⟨hMW3, hf3⟩ := hp2
  have hCW3 := CW_fr hCW2 (fun q h => hf3 q (Or.inl h))
  refine w_eqS 752 dL_law_172 (by decide) ?_
  refine w_iinc 0 [(3, .int (zI (((i : Nat) : Int) + 5))), (2, .ref (s.heap.size + 141)), (1, .ref (s.heap.size + 0)), (0, .ref b)] dL_law_752 rfl (by decide) rfl ?_
  refine w_lv (lv' := [(3, .int (zI ((i + 5 : Nat) : Int))), (2, .ref (s.heap.size + 141)), (1, .ref (s.heap.size + 0)), (0, .ref b)]) (lc_i (by omega) (lc_s (lc_s (lc_s rfl)))) ?_
  refine w_goto 18 dL_law_755 (by decide) ?_
  exact ih (i + 5) n1 L1 S1 P1 g3 ⟨CW_M hCW3 (by omega), hMW3, hwf1, by omega⟩ (by omega)

set_option maxRecDepth 100000 in
theorem lawc_lay {p : Program} {l : Launch} {e : Env} {s : State} {m : MethodId} {below : List Frame} {meth : Method} {c : Code} {D : va_G} {cy : Nat → ClassId} {b L cells slots : Nat} {xs : Nat → Int32} {i n : Nat} {Lt : Int → Int} {S : St} {P : List St} {g : Nat → va_E} (hX : va_X b L xs s s.heap) (hbl : b < s.heap.size) (hbA : ¬ yA s.heap.size b) (hL : L ≤ 2560) (hcs : cells ≤ room_1.cells ∧ slots ≤ room_1.slots) (hi : ((i : Nat) : Int) + 5 ≤ L) (hCW : CW cy s.heap.size g n Lt S P (7 + 4 * ((i : Nat) : Int))) (hMW : MW cy s.heap.size g n Lt S P) (hwf : WFg n Lt S P) (ih : ∀ (i1 n1 : Nat) (L1 : Int → Int) (S1 : St) (P1 : List St) (g1 : Nat → va_E), (CW cy s.heap.size g1 n1 L1 S1 P1 (7 + 4 * ((i1 : Nat) : Int)) ∧ MW cy s.heap.size g1 n1 L1 S1 P1 ∧ WFg n1 L1 S1 P1 ∧ i1 ≤ 2600) → 2600 - i1 < 2600 - i → WW p l e room_1 s m #[Value.ref b] below meth c (lw_Z below #[Value.ref b] s) cL_law 4 ret RL wsL_law D cy s.heap.size 160 cells slots g1 18 [(3, .int (zI ((i1 : Nat) : Int))), (2, .ref (s.heap.size + 141)), (1, .ref (s.heap.size + 0)), (0, .ref b)] []) : WW p l e room_1 s m #[Value.ref b] below meth c (lw_Z below #[Value.ref b] s) cL_law 4 ret RL wsL_law D cy s.heap.size 160 cells slots g 177 [(3, .int (zI ((i : Nat) : Int))), (2, .ref (s.heap.size + 141)), (1, .ref (s.heap.size + 0)), (0, .ref b)] [] := by
  obtain ⟨E, n1, L1, S1, P1, hwf1, hC1, hM1⟩ := api_lay (l := l) (D := D) (cy := cy) (B := s.heap.size) hwf
  refine w_aload_n dL_law_177 rfl 2 rfl ?_
  obtain ⟨hg0_fs, hg0⟩ := CW_0 hCW
  refine w_calli (As := []) (rest := []) (n := 0) (hC1 160 g (7 + 4 * ((i : Nat) : Int)) (Nat.le_refl _) (by omega) hCW) gL_law_X10_lay rfl rfl rfl (by decide +kernel) ⟨Nat.le_of_ble_eq_true rfl, Nat.le_of_ble_eq_true rfl⟩ rfl (by omega) hg0 rfl (Nat.le_of_ble_eq_true rfl) hcs dL_law_178 rfl (fun g2 hp1 => ?_)
  obtain ⟨hCW2, hf2⟩ := hp1
  have hMW2 := MW_fr hMW hf2
  refine w_aload_n dL_law_181 rfl 1 rfl ?_
  obtain ⟨hg1_fs, hg1⟩ := MW_0 hMW2
  refine w_calli (As := []) (rest := [.int (zI E)]) (n := 0) (hM1 160 g2 (Nat.le_refl _) hMW2) gL_law_X11_lay rfl rfl rfl (by decide +kernel) ⟨Nat.le_of_ble_eq_true rfl, Nat.le_of_ble_eq_true rfl⟩ rfl (by omega) hg1 rfl (Nat.le_of_ble_eq_true rfl) hcs dL_law_182 rfl (fun g3 hp2 => ?_)
  obtain ⟨hMW3, hf3⟩ := hp2
  have hCW3 := CW_fr hCW2 (fun q h => hf3 q (Or.inl h))
  refine w_eqS 752 dL_law_185 (by decide) ?_
  refine w_iinc 0 [(3, .int (zI (((i : Nat) : Int) + 5))), (2, .ref (s.heap.size + 141)), (1, .ref (s.heap.size + 0)), (0, .ref b)] dL_law_752 rfl (by decide) rfl ?_
  refine w_lv (lv' := [(3, .int (zI ((i + 5 : Nat) : Int))), (2, .ref (s.heap.size + 141)), (1, .ref (s.heap.size + 0)), (0, .ref b)]) (lc_i (by omega) (lc_s (lc_s (lc_s rfl)))) ?_
  refine w_goto 18 dL_law_755 (by decide) ?_
  exact ih (i + 5) n1 L1 S1 P1 g3 ⟨CW_M hCW3 (by omega), hMW3, hwf1, by omega⟩ (by omega)

set_option maxRecDepth 100000 in
theorem lawc_set {p : Program} {l : Launch} {e : Env} {s : State} {m : MethodId} {below : List Frame} {meth : Method} {c : Code} {D : va_G} {cy : Nat → ClassId} {b L cells slots : Nat} {xs : Nat → Int32} {i n : Nat} {Lt : Int → Int} {S : St} {P : List St} {g : Nat → va_E} (hX : va_X b L xs s s.heap) (hbl : b < s.heap.size) (hbA : ¬ yA s.heap.size b) (hL : L ≤ 2560) (hcs : cells ≤ room_1.cells ∧ slots ≤ room_1.slots) (hi : ((i : Nat) : Int) + 5 ≤ L) (hCW : CW cy s.heap.size g n Lt S P (7 + 4 * ((i : Nat) : Int))) (hMW : MW cy s.heap.size g n Lt S P) (hwf : WFg n Lt S P) (ih : ∀ (i1 n1 : Nat) (L1 : Int → Int) (S1 : St) (P1 : List St) (g1 : Nat → va_E), (CW cy s.heap.size g1 n1 L1 S1 P1 (7 + 4 * ((i1 : Nat) : Int)) ∧ MW cy s.heap.size g1 n1 L1 S1 P1 ∧ WFg n1 L1 S1 P1 ∧ i1 ≤ 2600) → 2600 - i1 < 2600 - i → WW p l e room_1 s m #[Value.ref b] below meth c (lw_Z below #[Value.ref b] s) cL_law 4 ret RL wsL_law D cy s.heap.size 160 cells slots g1 18 [(3, .int (zI ((i1 : Nat) : Int))), (2, .ref (s.heap.size + 141)), (1, .ref (s.heap.size + 0)), (0, .ref b)] []) : WW p l e room_1 s m #[Value.ref b] below meth c (lw_Z below #[Value.ref b] s) cL_law 4 ret RL wsL_law D cy s.heap.size 160 cells slots g 190 [(3, .int (zI ((i : Nat) : Int))), (2, .ref (s.heap.size + 141)), (1, .ref (s.heap.size + 0)), (0, .ref b)] [] := by
  obtain ⟨E, n1, L1, S1, P1, hwf1, hC1, hM1⟩ := api_set (l := l) (D := D) (cy := cy) (B := s.heap.size) hwf (xz_rg (((i : Nat) : Int) + 1)) (xz_rg (((i : Nat) : Int) + 2)) (xz_rg (((i : Nat) : Int) + 3)) (xz_rg (((i : Nat) : Int) + 4))
  refine w_aload_n dL_law_190 rfl 2 rfl ?_
  refine w_aload_n dL_law_191 rfl 3 rfl ?_
  refine w_iload_n dL_law_192 rfl 0 rfl ?_
  refine w_iconst dL_law_193 ?_
  refine w_iadd dL_law_194 ?_
  refine w_sld hX hbl hbA (by omega) dL_law_195 ?_
  refine w_aload_n dL_law_196 rfl 3 rfl ?_
  refine w_iload_n dL_law_197 rfl 0 rfl ?_
  refine w_iconst dL_law_198 ?_
  refine w_iadd dL_law_199 ?_
  refine w_sld hX hbl hbA (by omega) dL_law_200 ?_
  refine w_aload_n dL_law_201 rfl 3 rfl ?_
  refine w_iload_n dL_law_202 rfl 0 rfl ?_
  refine w_iconst dL_law_203 ?_
  refine w_iadd dL_law_204 ?_
  refine w_sld hX hbl hbA (by omega) dL_law_205 ?_
  refine w_aload_n dL_law_206 rfl 3 rfl ?_
  refine w_iload_n dL_law_207 rfl 0 rfl ?_
  refine w_iconst dL_law_208 ?_
  refine w_iadd dL_law_209 ?_
  refine w_sld hX hbl hbA (by omega) dL_law_210 ?_
  obtain ⟨hg0_fs, hg0⟩ := CW_0 hCW
  refine w_calli (As := [.int (zI (xz xs (((i : Nat) : Int) + 1))), .int (zI (xz xs (((i : Nat) : Int) + 2))), .int (zI (xz xs (((i : Nat) : Int) + 3))), .int (zI (xz xs (((i : Nat) : Int) + 4)))]) (rest := []) (n := 4) (hC1 160 g (7 + 4 * ((i : Nat) : Int)) (Nat.le_refl _) (by omega) hCW) gL_law_X10_set rfl rfl rfl (by decide +kernel) ⟨Nat.le_of_ble_eq_true rfl, Nat.le_of_ble_eq_true rfl⟩ rfl (by omega) hg0 rfl (Nat.le_of_ble_eq_true rfl) hcs dL_law_211 rfl (fun g2 hp1 => ?_)
  obtain ⟨hCW2, hf2⟩ := hp1
  have hMW2 := MW_fr hMW hf2
  refine w_aload_n dL_law_214 rfl 1 rfl ?_
  refine w_aload_n dL_law_215 rfl 3 rfl ?_
  refine w_iload_n dL_law_216 rfl 0 rfl ?_
  refine w_iconst dL_law_217 ?_
  refine w_iadd dL_law_218 ?_
  refine w_sld hX hbl hbA (by omega) dL_law_219 ?_
  refine w_aload_n dL_law_220 rfl 3 rfl ?_
  refine w_iload_n dL_law_221 rfl 0 rfl ?_
  refine w_iconst dL_law_222 ?_
  refine w_iadd dL_law_223 ?_
  refine w_sld hX hbl hbA (by omega) dL_law_224 ?_
  refine w_aload_n dL_law_225 rfl 3 rfl ?_
  refine w_iload_n dL_law_226 rfl 0 rfl ?_
  refine w_iconst dL_law_227 ?_
  refine w_iadd dL_law_228 ?_
  refine w_sld hX hbl hbA (by omega) dL_law_229 ?_
  refine w_aload_n dL_law_230 rfl 3 rfl ?_
  refine w_iload_n dL_law_231 rfl 0 rfl ?_
  refine w_iconst dL_law_232 ?_
  refine w_iadd dL_law_233 ?_
  refine w_sld hX hbl hbA (by omega) dL_law_234 ?_
  obtain ⟨hg1_fs, hg1⟩ := MW_0 hMW2
  refine w_calli (As := [.int (zI (xz xs (((i : Nat) : Int) + 1))), .int (zI (xz xs (((i : Nat) : Int) + 2))), .int (zI (xz xs (((i : Nat) : Int) + 3))), .int (zI (xz xs (((i : Nat) : Int) + 4)))]) (rest := [.int (zI E)]) (n := 4) (hM1 160 g2 (Nat.le_refl _) hMW2) gL_law_X11_set rfl rfl rfl (by decide +kernel) ⟨Nat.le_of_ble_eq_true rfl, Nat.le_of_ble_eq_true rfl⟩ rfl (by omega) hg1 rfl (Nat.le_of_ble_eq_true rfl) hcs dL_law_235 rfl (fun g3 hp2 => ?_)
  obtain ⟨hMW3, hf3⟩ := hp2
  have hCW3 := CW_fr hCW2 (fun q h => hf3 q (Or.inl h))
  refine w_eqS 752 dL_law_238 (by decide) ?_
  refine w_iinc 0 [(3, .int (zI (((i : Nat) : Int) + 5))), (2, .ref (s.heap.size + 141)), (1, .ref (s.heap.size + 0)), (0, .ref b)] dL_law_752 rfl (by decide) rfl ?_
  refine w_lv (lv' := [(3, .int (zI ((i + 5 : Nat) : Int))), (2, .ref (s.heap.size + 141)), (1, .ref (s.heap.size + 0)), (0, .ref b)]) (lc_i (by omega) (lc_s (lc_s (lc_s rfl)))) ?_
  refine w_goto 18 dL_law_755 (by decide) ?_
  exact ih (i + 5) n1 L1 S1 P1 g3 ⟨CW_M hCW3 (by omega), hMW3, hwf1, by omega⟩ (by omega)

set_option maxRecDepth 100000 in
theorem lawc_move {p : Program} {l : Launch} {e : Env} {s : State} {m : MethodId} {below : List Frame} {meth : Method} {c : Code} {D : va_G} {cy : Nat → ClassId} {b L cells slots : Nat} {xs : Nat → Int32} {i n : Nat} {Lt : Int → Int} {S : St} {P : List St} {g : Nat → va_E} (hX : va_X b L xs s s.heap) (hbl : b < s.heap.size) (hbA : ¬ yA s.heap.size b) (hL : L ≤ 2560) (hcs : cells ≤ room_1.cells ∧ slots ≤ room_1.slots) (hi : ((i : Nat) : Int) + 5 ≤ L) (hCW : CW cy s.heap.size g n Lt S P (7 + 4 * ((i : Nat) : Int))) (hMW : MW cy s.heap.size g n Lt S P) (hwf : WFg n Lt S P) (ih : ∀ (i1 n1 : Nat) (L1 : Int → Int) (S1 : St) (P1 : List St) (g1 : Nat → va_E), (CW cy s.heap.size g1 n1 L1 S1 P1 (7 + 4 * ((i1 : Nat) : Int)) ∧ MW cy s.heap.size g1 n1 L1 S1 P1 ∧ WFg n1 L1 S1 P1 ∧ i1 ≤ 2600) → 2600 - i1 < 2600 - i → WW p l e room_1 s m #[Value.ref b] below meth c (lw_Z below #[Value.ref b] s) cL_law 4 ret RL wsL_law D cy s.heap.size 160 cells slots g1 18 [(3, .int (zI ((i1 : Nat) : Int))), (2, .ref (s.heap.size + 141)), (1, .ref (s.heap.size + 0)), (0, .ref b)] []) : WW p l e room_1 s m #[Value.ref b] below meth c (lw_Z below #[Value.ref b] s) cL_law 4 ret RL wsL_law D cy s.heap.size 160 cells slots g 243 [(3, .int (zI ((i : Nat) : Int))), (2, .ref (s.heap.size + 141)), (1, .ref (s.heap.size + 0)), (0, .ref b)] [] := by
  obtain ⟨E, n1, L1, S1, P1, hwf1, hC1, hM1⟩ := api_move (l := l) (D := D) (cy := cy) (B := s.heap.size) hwf (xz_rg (((i : Nat) : Int) + 1)) (xz_rg (((i : Nat) : Int) + 2)) (xz_rg (((i : Nat) : Int) + 3))
  refine w_aload_n dL_law_243 rfl 2 rfl ?_
  refine w_aload_n dL_law_244 rfl 3 rfl ?_
  refine w_iload_n dL_law_245 rfl 0 rfl ?_
  refine w_iconst dL_law_246 ?_
  refine w_iadd dL_law_247 ?_
  refine w_sld hX hbl hbA (by omega) dL_law_248 ?_
  refine w_aload_n dL_law_249 rfl 3 rfl ?_
  refine w_iload_n dL_law_250 rfl 0 rfl ?_
  refine w_iconst dL_law_251 ?_
  refine w_iadd dL_law_252 ?_
  refine w_sld hX hbl hbA (by omega) dL_law_253 ?_
  refine w_aload_n dL_law_254 rfl 3 rfl ?_
  refine w_iload_n dL_law_255 rfl 0 rfl ?_
  refine w_iconst dL_law_256 ?_
  refine w_iadd dL_law_257 ?_
  refine w_sld hX hbl hbA (by omega) dL_law_258 ?_
  obtain ⟨hg0_fs, hg0⟩ := CW_0 hCW
  refine w_calli (As := [.int (zI (xz xs (((i : Nat) : Int) + 1))), .int (zI (xz xs (((i : Nat) : Int) + 2))), .int (zI (xz xs (((i : Nat) : Int) + 3)))]) (rest := []) (n := 3) (hC1 160 g (7 + 4 * ((i : Nat) : Int)) (Nat.le_refl _) (by omega) hCW) gL_law_X10_move rfl rfl rfl (by decide +kernel) ⟨Nat.le_of_ble_eq_true rfl, Nat.le_of_ble_eq_true rfl⟩ rfl (by omega) hg0 rfl (Nat.le_of_ble_eq_true rfl) hcs dL_law_259 rfl (fun g2 hp1 => ?_)
  obtain ⟨hCW2, hf2⟩ := hp1
  have hMW2 := MW_fr hMW hf2
  refine w_aload_n dL_law_262 rfl 1 rfl ?_
  refine w_aload_n dL_law_263 rfl 3 rfl ?_
  refine w_iload_n dL_law_264 rfl 0 rfl ?_
  refine w_iconst dL_law_265 ?_
  refine w_iadd dL_law_266 ?_
  refine w_sld hX hbl hbA (by omega) dL_law_267 ?_
  refine w_aload_n dL_law_268 rfl 3 rfl ?_
  refine w_iload_n dL_law_269 rfl 0 rfl ?_
  refine w_iconst dL_law_270 ?_
  refine w_iadd dL_law_271 ?_
  refine w_sld hX hbl hbA (by omega) dL_law_272 ?_
  refine w_aload_n dL_law_273 rfl 3 rfl ?_
  refine w_iload_n dL_law_274 rfl 0 rfl ?_
  refine w_iconst dL_law_275 ?_
  refine w_iadd dL_law_276 ?_
  refine w_sld hX hbl hbA (by omega) dL_law_277 ?_
  obtain ⟨hg1_fs, hg1⟩ := MW_0 hMW2
  refine w_calli (As := [.int (zI (xz xs (((i : Nat) : Int) + 1))), .int (zI (xz xs (((i : Nat) : Int) + 2))), .int (zI (xz xs (((i : Nat) : Int) + 3)))]) (rest := [.int (zI E)]) (n := 3) (hM1 160 g2 (Nat.le_refl _) hMW2) gL_law_X11_move rfl rfl rfl (by decide +kernel) ⟨Nat.le_of_ble_eq_true rfl, Nat.le_of_ble_eq_true rfl⟩ rfl (by omega) hg1 rfl (Nat.le_of_ble_eq_true rfl) hcs dL_law_278 rfl (fun g3 hp2 => ?_)
  obtain ⟨hMW3, hf3⟩ := hp2
  have hCW3 := CW_fr hCW2 (fun q h => hf3 q (Or.inl h))
  refine w_eqS 752 dL_law_281 (by decide) ?_
  refine w_iinc 0 [(3, .int (zI (((i : Nat) : Int) + 5))), (2, .ref (s.heap.size + 141)), (1, .ref (s.heap.size + 0)), (0, .ref b)] dL_law_752 rfl (by decide) rfl ?_
  refine w_lv (lv' := [(3, .int (zI ((i + 5 : Nat) : Int))), (2, .ref (s.heap.size + 141)), (1, .ref (s.heap.size + 0)), (0, .ref b)]) (lc_i (by omega) (lc_s (lc_s (lc_s rfl)))) ?_
  refine w_goto 18 dL_law_755 (by decide) ?_
  exact ih (i + 5) n1 L1 S1 P1 g3 ⟨CW_M hCW3 (by omega), hMW3, hwf1, by omega⟩ (by omega)

set_option maxRecDepth 100000 in
theorem lawc_turn {p : Program} {l : Launch} {e : Env} {s : State} {m : MethodId} {below : List Frame} {meth : Method} {c : Code} {D : va_G} {cy : Nat → ClassId} {b L cells slots : Nat} {xs : Nat → Int32} {i n : Nat} {Lt : Int → Int} {S : St} {P : List St} {g : Nat → va_E} (hX : va_X b L xs s s.heap) (hbl : b < s.heap.size) (hbA : ¬ yA s.heap.size b) (hL : L ≤ 2560) (hcs : cells ≤ room_1.cells ∧ slots ≤ room_1.slots) (hi : ((i : Nat) : Int) + 5 ≤ L) (hCW : CW cy s.heap.size g n Lt S P (7 + 4 * ((i : Nat) : Int))) (hMW : MW cy s.heap.size g n Lt S P) (hwf : WFg n Lt S P) (ih : ∀ (i1 n1 : Nat) (L1 : Int → Int) (S1 : St) (P1 : List St) (g1 : Nat → va_E), (CW cy s.heap.size g1 n1 L1 S1 P1 (7 + 4 * ((i1 : Nat) : Int)) ∧ MW cy s.heap.size g1 n1 L1 S1 P1 ∧ WFg n1 L1 S1 P1 ∧ i1 ≤ 2600) → 2600 - i1 < 2600 - i → WW p l e room_1 s m #[Value.ref b] below meth c (lw_Z below #[Value.ref b] s) cL_law 4 ret RL wsL_law D cy s.heap.size 160 cells slots g1 18 [(3, .int (zI ((i1 : Nat) : Int))), (2, .ref (s.heap.size + 141)), (1, .ref (s.heap.size + 0)), (0, .ref b)] []) : WW p l e room_1 s m #[Value.ref b] below meth c (lw_Z below #[Value.ref b] s) cL_law 4 ret RL wsL_law D cy s.heap.size 160 cells slots g 286 [(3, .int (zI ((i : Nat) : Int))), (2, .ref (s.heap.size + 141)), (1, .ref (s.heap.size + 0)), (0, .ref b)] [] := by
  obtain ⟨E, n1, L1, S1, P1, hwf1, hC1, hM1⟩ := api_turn (l := l) (D := D) (cy := cy) (B := s.heap.size) hwf (xz_rg (((i : Nat) : Int) + 1))
  refine w_aload_n dL_law_286 rfl 2 rfl ?_
  refine w_aload_n dL_law_287 rfl 3 rfl ?_
  refine w_iload_n dL_law_288 rfl 0 rfl ?_
  refine w_iconst dL_law_289 ?_
  refine w_iadd dL_law_290 ?_
  refine w_sld hX hbl hbA (by omega) dL_law_291 ?_
  obtain ⟨hg0_fs, hg0⟩ := CW_0 hCW
  refine w_calli (As := [.int (zI (xz xs (((i : Nat) : Int) + 1)))]) (rest := []) (n := 1) (hC1 160 g (7 + 4 * ((i : Nat) : Int)) (Nat.le_refl _) (by omega) hCW) gL_law_X10_turn rfl rfl rfl (by decide +kernel) ⟨Nat.le_of_ble_eq_true rfl, Nat.le_of_ble_eq_true rfl⟩ rfl (by omega) hg0 rfl (Nat.le_of_ble_eq_true rfl) hcs dL_law_292 rfl (fun g2 hp1 => ?_)
  obtain ⟨hCW2, hf2⟩ := hp1
  have hMW2 := MW_fr hMW hf2
  refine w_aload_n dL_law_295 rfl 1 rfl ?_
  refine w_aload_n dL_law_296 rfl 3 rfl ?_
  refine w_iload_n dL_law_297 rfl 0 rfl ?_
  refine w_iconst dL_law_298 ?_
  refine w_iadd dL_law_299 ?_
  refine w_sld hX hbl hbA (by omega) dL_law_300 ?_
  obtain ⟨hg1_fs, hg1⟩ := MW_0 hMW2
  refine w_calli (As := [.int (zI (xz xs (((i : Nat) : Int) + 1)))]) (rest := [.int (zI E)]) (n := 1) (hM1 160 g2 (Nat.le_refl _) hMW2) gL_law_X11_turn rfl rfl rfl (by decide +kernel) ⟨Nat.le_of_ble_eq_true rfl, Nat.le_of_ble_eq_true rfl⟩ rfl (by omega) hg1 rfl (Nat.le_of_ble_eq_true rfl) hcs dL_law_301 rfl (fun g3 hp2 => ?_)
  obtain ⟨hMW3, hf3⟩ := hp2
  have hCW3 := CW_fr hCW2 (fun q h => hf3 q (Or.inl h))
  refine w_eqS 752 dL_law_304 (by decide) ?_
  refine w_iinc 0 [(3, .int (zI (((i : Nat) : Int) + 5))), (2, .ref (s.heap.size + 141)), (1, .ref (s.heap.size + 0)), (0, .ref b)] dL_law_752 rfl (by decide) rfl ?_
  refine w_lv (lv' := [(3, .int (zI ((i + 5 : Nat) : Int))), (2, .ref (s.heap.size + 141)), (1, .ref (s.heap.size + 0)), (0, .ref b)]) (lc_i (by omega) (lc_s (lc_s (lc_s rfl)))) ?_
  refine w_goto 18 dL_law_755 (by decide) ?_
  exact ih (i + 5) n1 L1 S1 P1 g3 ⟨CW_M hCW3 (by omega), hMW3, hwf1, by omega⟩ (by omega)

set_option maxRecDepth 100000 in
theorem lawc_undo {p : Program} {l : Launch} {e : Env} {s : State} {m : MethodId} {below : List Frame} {meth : Method} {c : Code} {D : va_G} {cy : Nat → ClassId} {b L cells slots : Nat} {xs : Nat → Int32} {i n : Nat} {Lt : Int → Int} {S : St} {P : List St} {g : Nat → va_E} (hX : va_X b L xs s s.heap) (hbl : b < s.heap.size) (hbA : ¬ yA s.heap.size b) (hL : L ≤ 2560) (hcs : cells ≤ room_1.cells ∧ slots ≤ room_1.slots) (hi : ((i : Nat) : Int) + 5 ≤ L) (hCW : CW cy s.heap.size g n Lt S P (7 + 4 * ((i : Nat) : Int))) (hMW : MW cy s.heap.size g n Lt S P) (hwf : WFg n Lt S P) (ih : ∀ (i1 n1 : Nat) (L1 : Int → Int) (S1 : St) (P1 : List St) (g1 : Nat → va_E), (CW cy s.heap.size g1 n1 L1 S1 P1 (7 + 4 * ((i1 : Nat) : Int)) ∧ MW cy s.heap.size g1 n1 L1 S1 P1 ∧ WFg n1 L1 S1 P1 ∧ i1 ≤ 2600) → 2600 - i1 < 2600 - i → WW p l e room_1 s m #[Value.ref b] below meth c (lw_Z below #[Value.ref b] s) cL_law 4 ret RL wsL_law D cy s.heap.size 160 cells slots g1 18 [(3, .int (zI ((i1 : Nat) : Int))), (2, .ref (s.heap.size + 141)), (1, .ref (s.heap.size + 0)), (0, .ref b)] []) : WW p l e room_1 s m #[Value.ref b] below meth c (lw_Z below #[Value.ref b] s) cL_law 4 ret RL wsL_law D cy s.heap.size 160 cells slots g 309 [(3, .int (zI ((i : Nat) : Int))), (2, .ref (s.heap.size + 141)), (1, .ref (s.heap.size + 0)), (0, .ref b)] [] := by
  obtain ⟨E, n1, L1, S1, P1, hwf1, hC1, hM1⟩ := api_undo (l := l) (D := D) (cy := cy) (B := s.heap.size) hwf
  refine w_aload_n dL_law_309 rfl 2 rfl ?_
  obtain ⟨hg0_fs, hg0⟩ := CW_0 hCW
  refine w_calli (As := []) (rest := []) (n := 0) (hC1 160 g (7 + 4 * ((i : Nat) : Int)) (Nat.le_refl _) (by omega) hCW) gL_law_X10_undo rfl rfl rfl (by decide +kernel) ⟨Nat.le_of_ble_eq_true rfl, Nat.le_of_ble_eq_true rfl⟩ rfl (by omega) hg0 rfl (Nat.le_of_ble_eq_true rfl) hcs dL_law_310 rfl (fun g2 hp1 => ?_)
  obtain ⟨hCW2, hf2⟩ := hp1
  have hMW2 := MW_fr hMW hf2
  refine w_aload_n dL_law_313 rfl 1 rfl ?_
  obtain ⟨hg1_fs, hg1⟩ := MW_0 hMW2
  refine w_calli (As := []) (rest := [.int (zI E)]) (n := 0) (hM1 160 g2 (Nat.le_refl _) hMW2) gL_law_X11_undo rfl rfl rfl (by decide +kernel) ⟨Nat.le_of_ble_eq_true rfl, Nat.le_of_ble_eq_true rfl⟩ rfl (by omega) hg1 rfl (Nat.le_of_ble_eq_true rfl) hcs dL_law_314 rfl (fun g3 hp2 => ?_)
  obtain ⟨hMW3, hf3⟩ := hp2
  have hCW3 := CW_fr hCW2 (fun q h => hf3 q (Or.inl h))
  refine w_eqS 752 dL_law_317 (by decide) ?_
  refine w_iinc 0 [(3, .int (zI (((i : Nat) : Int) + 5))), (2, .ref (s.heap.size + 141)), (1, .ref (s.heap.size + 0)), (0, .ref b)] dL_law_752 rfl (by decide) rfl ?_
  refine w_lv (lv' := [(3, .int (zI ((i + 5 : Nat) : Int))), (2, .ref (s.heap.size + 141)), (1, .ref (s.heap.size + 0)), (0, .ref b)]) (lc_i (by omega) (lc_s (lc_s (lc_s rfl)))) ?_
  refine w_goto 18 dL_law_755 (by decide) ?_
  exact ih (i + 5) n1 L1 S1 P1 g3 ⟨CW_M hCW3 (by omega), hMW3, hwf1, by omega⟩ (by omega)

set_option maxRecDepth 100000 in
theorem lawc_column {p : Program} {l : Launch} {e : Env} {s : State} {m : MethodId} {below : List Frame} {meth : Method} {c : Code} {D : va_G} {cy : Nat → ClassId} {b L cells slots : Nat} {xs : Nat → Int32} {i n : Nat} {Lt : Int → Int} {S : St} {P : List St} {g : Nat → va_E} (hX : va_X b L xs s s.heap) (hbl : b < s.heap.size) (hbA : ¬ yA s.heap.size b) (hL : L ≤ 2560) (hcs : cells ≤ room_1.cells ∧ slots ≤ room_1.slots) (hi : ((i : Nat) : Int) + 5 ≤ L) (hCW : CW cy s.heap.size g n Lt S P (7 + 4 * ((i : Nat) : Int))) (hMW : MW cy s.heap.size g n Lt S P) (hwf : WFg n Lt S P) (ih : ∀ (i1 n1 : Nat) (L1 : Int → Int) (S1 : St) (P1 : List St) (g1 : Nat → va_E), (CW cy s.heap.size g1 n1 L1 S1 P1 (7 + 4 * ((i1 : Nat) : Int)) ∧ MW cy s.heap.size g1 n1 L1 S1 P1 ∧ WFg n1 L1 S1 P1 ∧ i1 ≤ 2600) → 2600 - i1 < 2600 - i → WW p l e room_1 s m #[Value.ref b] below meth c (lw_Z below #[Value.ref b] s) cL_law 4 ret RL wsL_law D cy s.heap.size 160 cells slots g1 18 [(3, .int (zI ((i1 : Nat) : Int))), (2, .ref (s.heap.size + 141)), (1, .ref (s.heap.size + 0)), (0, .ref b)] []) : WW p l e room_1 s m #[Value.ref b] below meth c (lw_Z below #[Value.ref b] s) cL_law 4 ret RL wsL_law D cy s.heap.size 160 cells slots g 322 [(3, .int (zI ((i : Nat) : Int))), (2, .ref (s.heap.size + 141)), (1, .ref (s.heap.size + 0)), (0, .ref b)] [] := by
  obtain ⟨E, n1, L1, S1, P1, hwf1, hC1, hM1⟩ := api_column (l := l) (D := D) (cy := cy) (B := s.heap.size) hwf (xz_rg (((i : Nat) : Int) + 1)) (xz_rg (((i : Nat) : Int) + 2)) (xz_rg (((i : Nat) : Int) + 3))
  refine w_aload_n dL_law_322 rfl 2 rfl ?_
  refine w_aload_n dL_law_323 rfl 3 rfl ?_
  refine w_iload_n dL_law_324 rfl 0 rfl ?_
  refine w_iconst dL_law_325 ?_
  refine w_iadd dL_law_326 ?_
  refine w_sld hX hbl hbA (by omega) dL_law_327 ?_
  refine w_aload_n dL_law_328 rfl 3 rfl ?_
  refine w_iload_n dL_law_329 rfl 0 rfl ?_
  refine w_iconst dL_law_330 ?_
  refine w_iadd dL_law_331 ?_
  refine w_sld hX hbl hbA (by omega) dL_law_332 ?_
  refine w_aload_n dL_law_333 rfl 3 rfl ?_
  refine w_iload_n dL_law_334 rfl 0 rfl ?_
  refine w_iconst dL_law_335 ?_
  refine w_iadd dL_law_336 ?_
  refine w_sld hX hbl hbA (by omega) dL_law_337 ?_
  obtain ⟨hg0_fs, hg0⟩ := CW_0 hCW
  refine w_calli (As := [.int (zI (xz xs (((i : Nat) : Int) + 1))), .int (zI (xz xs (((i : Nat) : Int) + 2))), .int (zI (xz xs (((i : Nat) : Int) + 3)))]) (rest := []) (n := 3) (hC1 160 g (7 + 4 * ((i : Nat) : Int)) (Nat.le_refl _) (by omega) hCW) gL_law_X10_column rfl rfl rfl (by decide +kernel) ⟨Nat.le_of_ble_eq_true rfl, Nat.le_of_ble_eq_true rfl⟩ rfl (by omega) hg0 rfl (Nat.le_of_ble_eq_true rfl) hcs dL_law_338 rfl (fun g2 hp1 => ?_)
  obtain ⟨hCW2, hf2⟩ := hp1
  have hMW2 := MW_fr hMW hf2
  refine w_aload_n dL_law_341 rfl 1 rfl ?_
  refine w_aload_n dL_law_342 rfl 3 rfl ?_
  refine w_iload_n dL_law_343 rfl 0 rfl ?_
  refine w_iconst dL_law_344 ?_
  refine w_iadd dL_law_345 ?_
  refine w_sld hX hbl hbA (by omega) dL_law_346 ?_
  refine w_aload_n dL_law_347 rfl 3 rfl ?_
  refine w_iload_n dL_law_348 rfl 0 rfl ?_
  refine w_iconst dL_law_349 ?_
  refine w_iadd dL_law_350 ?_
  refine w_sld hX hbl hbA (by omega) dL_law_351 ?_
  refine w_aload_n dL_law_352 rfl 3 rfl ?_
  refine w_iload_n dL_law_353 rfl 0 rfl ?_
  refine w_iconst dL_law_354 ?_
  refine w_iadd dL_law_355 ?_
  refine w_sld hX hbl hbA (by omega) dL_law_356 ?_
  obtain ⟨hg1_fs, hg1⟩ := MW_0 hMW2
  refine w_calli (As := [.int (zI (xz xs (((i : Nat) : Int) + 1))), .int (zI (xz xs (((i : Nat) : Int) + 2))), .int (zI (xz xs (((i : Nat) : Int) + 3)))]) (rest := [.int (zI E)]) (n := 3) (hM1 160 g2 (Nat.le_refl _) hMW2) gL_law_X11_column rfl rfl rfl (by decide +kernel) ⟨Nat.le_of_ble_eq_true rfl, Nat.le_of_ble_eq_true rfl⟩ rfl (by omega) hg1 rfl (Nat.le_of_ble_eq_true rfl) hcs dL_law_357 rfl (fun g3 hp2 => ?_)
  obtain ⟨hMW3, hf3⟩ := hp2
  have hCW3 := CW_fr hCW2 (fun q h => hf3 q (Or.inl h))
  refine w_eqS 752 dL_law_360 (by decide) ?_
  refine w_iinc 0 [(3, .int (zI (((i : Nat) : Int) + 5))), (2, .ref (s.heap.size + 141)), (1, .ref (s.heap.size + 0)), (0, .ref b)] dL_law_752 rfl (by decide) rfl ?_
  refine w_lv (lv' := [(3, .int (zI ((i + 5 : Nat) : Int))), (2, .ref (s.heap.size + 141)), (1, .ref (s.heap.size + 0)), (0, .ref b)]) (lc_i (by omega) (lc_s (lc_s (lc_s rfl)))) ?_
  refine w_goto 18 dL_law_755 (by decide) ?_
  exact ih (i + 5) n1 L1 S1 P1 g3 ⟨CW_M hCW3 (by omega), hMW3, hwf1, by omega⟩ (by omega)

set_option maxRecDepth 100000 in
theorem lawc_stratum {p : Program} {l : Launch} {e : Env} {s : State} {m : MethodId} {below : List Frame} {meth : Method} {c : Code} {D : va_G} {cy : Nat → ClassId} {b L cells slots : Nat} {xs : Nat → Int32} {i n : Nat} {Lt : Int → Int} {S : St} {P : List St} {g : Nat → va_E} (hX : va_X b L xs s s.heap) (hbl : b < s.heap.size) (hbA : ¬ yA s.heap.size b) (hL : L ≤ 2560) (hcs : cells ≤ room_1.cells ∧ slots ≤ room_1.slots) (hi : ((i : Nat) : Int) + 5 ≤ L) (hCW : CW cy s.heap.size g n Lt S P (7 + 4 * ((i : Nat) : Int))) (hMW : MW cy s.heap.size g n Lt S P) (hwf : WFg n Lt S P) (ih : ∀ (i1 n1 : Nat) (L1 : Int → Int) (S1 : St) (P1 : List St) (g1 : Nat → va_E), (CW cy s.heap.size g1 n1 L1 S1 P1 (7 + 4 * ((i1 : Nat) : Int)) ∧ MW cy s.heap.size g1 n1 L1 S1 P1 ∧ WFg n1 L1 S1 P1 ∧ i1 ≤ 2600) → 2600 - i1 < 2600 - i → WW p l e room_1 s m #[Value.ref b] below meth c (lw_Z below #[Value.ref b] s) cL_law 4 ret RL wsL_law D cy s.heap.size 160 cells slots g1 18 [(3, .int (zI ((i1 : Nat) : Int))), (2, .ref (s.heap.size + 141)), (1, .ref (s.heap.size + 0)), (0, .ref b)] []) : WW p l e room_1 s m #[Value.ref b] below meth c (lw_Z below #[Value.ref b] s) cL_law 4 ret RL wsL_law D cy s.heap.size 160 cells slots g 365 [(3, .int (zI ((i : Nat) : Int))), (2, .ref (s.heap.size + 141)), (1, .ref (s.heap.size + 0)), (0, .ref b)] [] := by
  obtain ⟨E, n1, L1, S1, P1, hwf1, hC1, hM1⟩ := api_stratum (l := l) (D := D) (cy := cy) (B := s.heap.size) hwf (xz_rg (((i : Nat) : Int) + 1)) (xz_rg (((i : Nat) : Int) + 2))
  refine w_aload_n dL_law_365 rfl 2 rfl ?_
  refine w_aload_n dL_law_366 rfl 3 rfl ?_
  refine w_iload_n dL_law_367 rfl 0 rfl ?_
  refine w_iconst dL_law_368 ?_
  refine w_iadd dL_law_369 ?_
  refine w_sld hX hbl hbA (by omega) dL_law_370 ?_
  refine w_aload_n dL_law_371 rfl 3 rfl ?_
  refine w_iload_n dL_law_372 rfl 0 rfl ?_
  refine w_iconst dL_law_373 ?_
  refine w_iadd dL_law_374 ?_
  refine w_sld hX hbl hbA (by omega) dL_law_375 ?_
  obtain ⟨hg0_fs, hg0⟩ := CW_0 hCW
  refine w_calli (As := [.int (zI (xz xs (((i : Nat) : Int) + 1))), .int (zI (xz xs (((i : Nat) : Int) + 2)))]) (rest := []) (n := 2) (hC1 160 g (7 + 4 * ((i : Nat) : Int)) (Nat.le_refl _) (by omega) hCW) gL_law_X10_stratum rfl rfl rfl (by decide +kernel) ⟨Nat.le_of_ble_eq_true rfl, Nat.le_of_ble_eq_true rfl⟩ rfl (by omega) hg0 rfl (Nat.le_of_ble_eq_true rfl) hcs dL_law_376 rfl (fun g2 hp1 => ?_)
  obtain ⟨hCW2, hf2⟩ := hp1
  have hMW2 := MW_fr hMW hf2
  refine w_aload_n dL_law_379 rfl 1 rfl ?_
  refine w_aload_n dL_law_380 rfl 3 rfl ?_
  refine w_iload_n dL_law_381 rfl 0 rfl ?_
  refine w_iconst dL_law_382 ?_
  refine w_iadd dL_law_383 ?_
  refine w_sld hX hbl hbA (by omega) dL_law_384 ?_
  refine w_aload_n dL_law_385 rfl 3 rfl ?_
  refine w_iload_n dL_law_386 rfl 0 rfl ?_
  refine w_iconst dL_law_387 ?_
  refine w_iadd dL_law_388 ?_
  refine w_sld hX hbl hbA (by omega) dL_law_389 ?_
  obtain ⟨hg1_fs, hg1⟩ := MW_0 hMW2
  refine w_calli (As := [.int (zI (xz xs (((i : Nat) : Int) + 1))), .int (zI (xz xs (((i : Nat) : Int) + 2)))]) (rest := [.int (zI E)]) (n := 2) (hM1 160 g2 (Nat.le_refl _) hMW2) gL_law_X11_stratum rfl rfl rfl (by decide +kernel) ⟨Nat.le_of_ble_eq_true rfl, Nat.le_of_ble_eq_true rfl⟩ rfl (by omega) hg1 rfl (Nat.le_of_ble_eq_true rfl) hcs dL_law_390 rfl (fun g3 hp2 => ?_)
  obtain ⟨hMW3, hf3⟩ := hp2
  have hCW3 := CW_fr hCW2 (fun q h => hf3 q (Or.inl h))
  refine w_eqS 752 dL_law_393 (by decide) ?_
  refine w_iinc 0 [(3, .int (zI (((i : Nat) : Int) + 5))), (2, .ref (s.heap.size + 141)), (1, .ref (s.heap.size + 0)), (0, .ref b)] dL_law_752 rfl (by decide) rfl ?_
  refine w_lv (lv' := [(3, .int (zI ((i + 5 : Nat) : Int))), (2, .ref (s.heap.size + 141)), (1, .ref (s.heap.size + 0)), (0, .ref b)]) (lc_i (by omega) (lc_s (lc_s (lc_s rfl)))) ?_
  refine w_goto 18 dL_law_755 (by decide) ?_
  exact ih (i + 5) n1 L1 S1 P1 g3 ⟨CW_M hCW3 (by omega), hMW3, hwf1, by omega⟩ (by omega)

set_option maxRecDepth 100000 in
theorem lawc_ways {p : Program} {l : Launch} {e : Env} {s : State} {m : MethodId} {below : List Frame} {meth : Method} {c : Code} {D : va_G} {cy : Nat → ClassId} {b L cells slots : Nat} {xs : Nat → Int32} {i n : Nat} {Lt : Int → Int} {S : St} {P : List St} {g : Nat → va_E} (hX : va_X b L xs s s.heap) (hbl : b < s.heap.size) (hbA : ¬ yA s.heap.size b) (hL : L ≤ 2560) (hcs : cells ≤ room_1.cells ∧ slots ≤ room_1.slots) (hi : ((i : Nat) : Int) + 5 ≤ L) (hCW : CW cy s.heap.size g n Lt S P (7 + 4 * ((i : Nat) : Int))) (hMW : MW cy s.heap.size g n Lt S P) (hwf : WFg n Lt S P) (ih : ∀ (i1 n1 : Nat) (L1 : Int → Int) (S1 : St) (P1 : List St) (g1 : Nat → va_E), (CW cy s.heap.size g1 n1 L1 S1 P1 (7 + 4 * ((i1 : Nat) : Int)) ∧ MW cy s.heap.size g1 n1 L1 S1 P1 ∧ WFg n1 L1 S1 P1 ∧ i1 ≤ 2600) → 2600 - i1 < 2600 - i → WW p l e room_1 s m #[Value.ref b] below meth c (lw_Z below #[Value.ref b] s) cL_law 4 ret RL wsL_law D cy s.heap.size 160 cells slots g1 18 [(3, .int (zI ((i1 : Nat) : Int))), (2, .ref (s.heap.size + 141)), (1, .ref (s.heap.size + 0)), (0, .ref b)] []) : WW p l e room_1 s m #[Value.ref b] below meth c (lw_Z below #[Value.ref b] s) cL_law 4 ret RL wsL_law D cy s.heap.size 160 cells slots g 398 [(3, .int (zI ((i : Nat) : Int))), (2, .ref (s.heap.size + 141)), (1, .ref (s.heap.size + 0)), (0, .ref b)] [] := by
  obtain ⟨E, n1, L1, S1, P1, hwf1, hC1, hM1⟩ := api_ways (l := l) (D := D) (cy := cy) (B := s.heap.size) hwf (xz_rg (((i : Nat) : Int) + 1)) (xz_rg (((i : Nat) : Int) + 2))
  refine w_aload_n dL_law_398 rfl 2 rfl ?_
  refine w_aload_n dL_law_399 rfl 3 rfl ?_
  refine w_iload_n dL_law_400 rfl 0 rfl ?_
  refine w_iconst dL_law_401 ?_
  refine w_iadd dL_law_402 ?_
  refine w_sld hX hbl hbA (by omega) dL_law_403 ?_
  refine w_aload_n dL_law_404 rfl 3 rfl ?_
  refine w_iload_n dL_law_405 rfl 0 rfl ?_
  refine w_iconst dL_law_406 ?_
  refine w_iadd dL_law_407 ?_
  refine w_sld hX hbl hbA (by omega) dL_law_408 ?_
  obtain ⟨hg0_fs, hg0⟩ := CW_0 hCW
  refine w_calll (As := [.int (zI (xz xs (((i : Nat) : Int) + 1))), .int (zI (xz xs (((i : Nat) : Int) + 2)))]) (rest := []) (n := 2) (hC1 160 g (7 + 4 * ((i : Nat) : Int)) (Nat.le_refl _) (by omega) hCW) gL_law_X10_ways rfl rfl rfl (by decide +kernel) ⟨Nat.le_of_ble_eq_true rfl, Nat.le_of_ble_eq_true rfl⟩ rfl (by omega) hg0 rfl (Nat.le_of_ble_eq_true rfl) hcs dL_law_409 rfl (fun g2 hp1 => ?_)
  obtain ⟨hCW2, hf2⟩ := hp1
  have hMW2 := MW_fr hMW hf2
  refine w_aload_n dL_law_412 rfl 1 rfl ?_
  refine w_aload_n dL_law_413 rfl 3 rfl ?_
  refine w_iload_n dL_law_414 rfl 0 rfl ?_
  refine w_iconst dL_law_415 ?_
  refine w_iadd dL_law_416 ?_
  refine w_sld hX hbl hbA (by omega) dL_law_417 ?_
  refine w_aload_n dL_law_418 rfl 3 rfl ?_
  refine w_iload_n dL_law_419 rfl 0 rfl ?_
  refine w_iconst dL_law_420 ?_
  refine w_iadd dL_law_421 ?_
  refine w_sld hX hbl hbA (by omega) dL_law_422 ?_
  obtain ⟨hg1_fs, hg1⟩ := MW_0 hMW2
  refine w_calll (As := [.int (zI (xz xs (((i : Nat) : Int) + 1))), .int (zI (xz xs (((i : Nat) : Int) + 2)))]) (rest := [.long (zJ E)]) (n := 2) (hM1 160 g2 (Nat.le_refl _) hMW2) gL_law_X11_ways rfl rfl rfl (by decide +kernel) ⟨Nat.le_of_ble_eq_true rfl, Nat.le_of_ble_eq_true rfl⟩ rfl (by omega) hg1 rfl (Nat.le_of_ble_eq_true rfl) hcs dL_law_423 rfl (fun g3 hp2 => ?_)
  obtain ⟨hMW3, hf3⟩ := hp2
  have hCW3 := CW_fr hCW2 (fun q h => hf3 q (Or.inl h))
  refine w_leqS 752 dL_law_426 dL_law_427 (by decide) ?_
  refine w_iinc 0 [(3, .int (zI (((i : Nat) : Int) + 5))), (2, .ref (s.heap.size + 141)), (1, .ref (s.heap.size + 0)), (0, .ref b)] dL_law_752 rfl (by decide) rfl ?_
  refine w_lv (lv' := [(3, .int (zI ((i + 5 : Nat) : Int))), (2, .ref (s.heap.size + 141)), (1, .ref (s.heap.size + 0)), (0, .ref b)]) (lc_i (by omega) (lc_s (lc_s (lc_s rfl)))) ?_
  refine w_goto 18 dL_law_755 (by decide) ?_
  exact ih (i + 5) n1 L1 S1 P1 g3 ⟨CW_M hCW3 (by omega), hMW3, hwf1, by omega⟩ (by omega)

set_option maxRecDepth 100000 in
theorem lawc_chance {p : Program} {l : Launch} {e : Env} {s : State} {m : MethodId} {below : List Frame} {meth : Method} {c : Code} {D : va_G} {cy : Nat → ClassId} {b L cells slots : Nat} {xs : Nat → Int32} {i n : Nat} {Lt : Int → Int} {S : St} {P : List St} {g : Nat → va_E} (hX : va_X b L xs s s.heap) (hbl : b < s.heap.size) (hbA : ¬ yA s.heap.size b) (hL : L ≤ 2560) (hcs : cells ≤ room_1.cells ∧ slots ≤ room_1.slots) (hi : ((i : Nat) : Int) + 5 ≤ L) (hCW : CW cy s.heap.size g n Lt S P (7 + 4 * ((i : Nat) : Int))) (hMW : MW cy s.heap.size g n Lt S P) (hwf : WFg n Lt S P) (ih : ∀ (i1 n1 : Nat) (L1 : Int → Int) (S1 : St) (P1 : List St) (g1 : Nat → va_E), (CW cy s.heap.size g1 n1 L1 S1 P1 (7 + 4 * ((i1 : Nat) : Int)) ∧ MW cy s.heap.size g1 n1 L1 S1 P1 ∧ WFg n1 L1 S1 P1 ∧ i1 ≤ 2600) → 2600 - i1 < 2600 - i → WW p l e room_1 s m #[Value.ref b] below meth c (lw_Z below #[Value.ref b] s) cL_law 4 ret RL wsL_law D cy s.heap.size 160 cells slots g1 18 [(3, .int (zI ((i1 : Nat) : Int))), (2, .ref (s.heap.size + 141)), (1, .ref (s.heap.size + 0)), (0, .ref b)] []) : WW p l e room_1 s m #[Value.ref b] below meth c (lw_Z below #[Value.ref b] s) cL_law 4 ret RL wsL_law D cy s.heap.size 160 cells slots g 432 [(3, .int (zI ((i : Nat) : Int))), (2, .ref (s.heap.size + 141)), (1, .ref (s.heap.size + 0)), (0, .ref b)] [] := by
  obtain ⟨E, n1, L1, S1, P1, hwf1, hC1, hM1⟩ := api_chance (l := l) (D := D) (cy := cy) (B := s.heap.size) hwf (xz_rg (((i : Nat) : Int) + 1)) (xz_rg (((i : Nat) : Int) + 2)) (xz_rg (((i : Nat) : Int) + 3))
  refine w_aload_n dL_law_432 rfl 2 rfl ?_
  refine w_aload_n dL_law_433 rfl 3 rfl ?_
  refine w_iload_n dL_law_434 rfl 0 rfl ?_
  refine w_iconst dL_law_435 ?_
  refine w_iadd dL_law_436 ?_
  refine w_sld hX hbl hbA (by omega) dL_law_437 ?_
  refine w_aload_n dL_law_438 rfl 3 rfl ?_
  refine w_iload_n dL_law_439 rfl 0 rfl ?_
  refine w_iconst dL_law_440 ?_
  refine w_iadd dL_law_441 ?_
  refine w_sld hX hbl hbA (by omega) dL_law_442 ?_
  refine w_aload_n dL_law_443 rfl 3 rfl ?_
  refine w_iload_n dL_law_444 rfl 0 rfl ?_
  refine w_iconst dL_law_445 ?_
  refine w_iadd dL_law_446 ?_
  refine w_sld hX hbl hbA (by omega) dL_law_447 ?_
  obtain ⟨hg0_fs, hg0⟩ := CW_0 hCW
  refine w_calll (As := [.int (zI (xz xs (((i : Nat) : Int) + 1))), .int (zI (xz xs (((i : Nat) : Int) + 2))), .int (zI (xz xs (((i : Nat) : Int) + 3)))]) (rest := []) (n := 3) (hC1 160 g (7 + 4 * ((i : Nat) : Int)) (Nat.le_refl _) (by omega) hCW) gL_law_X10_chance rfl rfl rfl (by decide +kernel) ⟨Nat.le_of_ble_eq_true rfl, Nat.le_of_ble_eq_true rfl⟩ rfl (by omega) hg0 rfl (Nat.le_of_ble_eq_true rfl) hcs dL_law_448 rfl (fun g2 hp1 => ?_)
  obtain ⟨hCW2, hf2⟩ := hp1
  have hMW2 := MW_fr hMW hf2
  refine w_aload_n dL_law_451 rfl 1 rfl ?_
  refine w_aload_n dL_law_452 rfl 3 rfl ?_
  refine w_iload_n dL_law_453 rfl 0 rfl ?_
  refine w_iconst dL_law_454 ?_
  refine w_iadd dL_law_455 ?_
  refine w_sld hX hbl hbA (by omega) dL_law_456 ?_
  refine w_aload_n dL_law_457 rfl 3 rfl ?_
  refine w_iload_n dL_law_458 rfl 0 rfl ?_
  refine w_iconst dL_law_459 ?_
  refine w_iadd dL_law_460 ?_
  refine w_sld hX hbl hbA (by omega) dL_law_461 ?_
  refine w_aload_n dL_law_462 rfl 3 rfl ?_
  refine w_iload_n dL_law_463 rfl 0 rfl ?_
  refine w_iconst dL_law_464 ?_
  refine w_iadd dL_law_465 ?_
  refine w_sld hX hbl hbA (by omega) dL_law_466 ?_
  obtain ⟨hg1_fs, hg1⟩ := MW_0 hMW2
  refine w_calll (As := [.int (zI (xz xs (((i : Nat) : Int) + 1))), .int (zI (xz xs (((i : Nat) : Int) + 2))), .int (zI (xz xs (((i : Nat) : Int) + 3)))]) (rest := [.long (zJ E)]) (n := 3) (hM1 160 g2 (Nat.le_refl _) hMW2) gL_law_X11_chance rfl rfl rfl (by decide +kernel) ⟨Nat.le_of_ble_eq_true rfl, Nat.le_of_ble_eq_true rfl⟩ rfl (by omega) hg1 rfl (Nat.le_of_ble_eq_true rfl) hcs dL_law_467 rfl (fun g3 hp2 => ?_)
  obtain ⟨hMW3, hf3⟩ := hp2
  have hCW3 := CW_fr hCW2 (fun q h => hf3 q (Or.inl h))
  refine w_leqS 752 dL_law_470 dL_law_471 (by decide) ?_
  refine w_iinc 0 [(3, .int (zI (((i : Nat) : Int) + 5))), (2, .ref (s.heap.size + 141)), (1, .ref (s.heap.size + 0)), (0, .ref b)] dL_law_752 rfl (by decide) rfl ?_
  refine w_lv (lv' := [(3, .int (zI ((i + 5 : Nat) : Int))), (2, .ref (s.heap.size + 141)), (1, .ref (s.heap.size + 0)), (0, .ref b)]) (lc_i (by omega) (lc_s (lc_s (lc_s rfl)))) ?_
  refine w_goto 18 dL_law_755 (by decide) ?_
  exact ih (i + 5) n1 L1 S1 P1 g3 ⟨CW_M hCW3 (by omega), hMW3, hwf1, by omega⟩ (by omega)

set_option maxRecDepth 100000 in
theorem lawc_joined {p : Program} {l : Launch} {e : Env} {s : State} {m : MethodId} {below : List Frame} {meth : Method} {c : Code} {D : va_G} {cy : Nat → ClassId} {b L cells slots : Nat} {xs : Nat → Int32} {i n : Nat} {Lt : Int → Int} {S : St} {P : List St} {g : Nat → va_E} (hX : va_X b L xs s s.heap) (hbl : b < s.heap.size) (hbA : ¬ yA s.heap.size b) (hL : L ≤ 2560) (hcs : cells ≤ room_1.cells ∧ slots ≤ room_1.slots) (hi : ((i : Nat) : Int) + 5 ≤ L) (hCW : CW cy s.heap.size g n Lt S P (7 + 4 * ((i : Nat) : Int))) (hMW : MW cy s.heap.size g n Lt S P) (hwf : WFg n Lt S P) (ih : ∀ (i1 n1 : Nat) (L1 : Int → Int) (S1 : St) (P1 : List St) (g1 : Nat → va_E), (CW cy s.heap.size g1 n1 L1 S1 P1 (7 + 4 * ((i1 : Nat) : Int)) ∧ MW cy s.heap.size g1 n1 L1 S1 P1 ∧ WFg n1 L1 S1 P1 ∧ i1 ≤ 2600) → 2600 - i1 < 2600 - i → WW p l e room_1 s m #[Value.ref b] below meth c (lw_Z below #[Value.ref b] s) cL_law 4 ret RL wsL_law D cy s.heap.size 160 cells slots g1 18 [(3, .int (zI ((i1 : Nat) : Int))), (2, .ref (s.heap.size + 141)), (1, .ref (s.heap.size + 0)), (0, .ref b)] []) : WW p l e room_1 s m #[Value.ref b] below meth c (lw_Z below #[Value.ref b] s) cL_law 4 ret RL wsL_law D cy s.heap.size 160 cells slots g 476 [(3, .int (zI ((i : Nat) : Int))), (2, .ref (s.heap.size + 141)), (1, .ref (s.heap.size + 0)), (0, .ref b)] [] := by
  obtain ⟨E, n1, L1, S1, P1, hwf1, hC1, hM1⟩ := api_joined (l := l) (D := D) (cy := cy) (B := s.heap.size) hwf (xz_rg (((i : Nat) : Int) + 1)) (xz_rg (((i : Nat) : Int) + 2))
  refine w_aload_n dL_law_476 rfl 2 rfl ?_
  refine w_aload_n dL_law_477 rfl 3 rfl ?_
  refine w_iload_n dL_law_478 rfl 0 rfl ?_
  refine w_iconst dL_law_479 ?_
  refine w_iadd dL_law_480 ?_
  refine w_sld hX hbl hbA (by omega) dL_law_481 ?_
  refine w_aload_n dL_law_482 rfl 3 rfl ?_
  refine w_iload_n dL_law_483 rfl 0 rfl ?_
  refine w_iconst dL_law_484 ?_
  refine w_iadd dL_law_485 ?_
  refine w_sld hX hbl hbA (by omega) dL_law_486 ?_
  obtain ⟨hg0_fs, hg0⟩ := CW_0 hCW
  refine w_calll (As := [.int (zI (xz xs (((i : Nat) : Int) + 1))), .int (zI (xz xs (((i : Nat) : Int) + 2)))]) (rest := []) (n := 2) (hC1 160 g (7 + 4 * ((i : Nat) : Int)) (Nat.le_refl _) (by omega) hCW) gL_law_X10_joined rfl rfl rfl (by decide +kernel) ⟨Nat.le_of_ble_eq_true rfl, Nat.le_of_ble_eq_true rfl⟩ rfl (by omega) hg0 rfl (Nat.le_of_ble_eq_true rfl) hcs dL_law_487 rfl (fun g2 hp1 => ?_)
  obtain ⟨hCW2, hf2⟩ := hp1
  have hMW2 := MW_fr hMW hf2
  refine w_aload_n dL_law_490 rfl 1 rfl ?_
  refine w_aload_n dL_law_491 rfl 3 rfl ?_
  refine w_iload_n dL_law_492 rfl 0 rfl ?_
  refine w_iconst dL_law_493 ?_
  refine w_iadd dL_law_494 ?_
  refine w_sld hX hbl hbA (by omega) dL_law_495 ?_
  refine w_aload_n dL_law_496 rfl 3 rfl ?_
  refine w_iload_n dL_law_497 rfl 0 rfl ?_
  refine w_iconst dL_law_498 ?_
  refine w_iadd dL_law_499 ?_
  refine w_sld hX hbl hbA (by omega) dL_law_500 ?_
  obtain ⟨hg1_fs, hg1⟩ := MW_0 hMW2
  refine w_calll (As := [.int (zI (xz xs (((i : Nat) : Int) + 1))), .int (zI (xz xs (((i : Nat) : Int) + 2)))]) (rest := [.long (zJ E)]) (n := 2) (hM1 160 g2 (Nat.le_refl _) hMW2) gL_law_X11_joined rfl rfl rfl (by decide +kernel) ⟨Nat.le_of_ble_eq_true rfl, Nat.le_of_ble_eq_true rfl⟩ rfl (by omega) hg1 rfl (Nat.le_of_ble_eq_true rfl) hcs dL_law_501 rfl (fun g3 hp2 => ?_)
  obtain ⟨hMW3, hf3⟩ := hp2
  have hCW3 := CW_fr hCW2 (fun q h => hf3 q (Or.inl h))
  refine w_leqS 752 dL_law_504 dL_law_505 (by decide) ?_
  refine w_iinc 0 [(3, .int (zI (((i : Nat) : Int) + 5))), (2, .ref (s.heap.size + 141)), (1, .ref (s.heap.size + 0)), (0, .ref b)] dL_law_752 rfl (by decide) rfl ?_
  refine w_lv (lv' := [(3, .int (zI ((i + 5 : Nat) : Int))), (2, .ref (s.heap.size + 141)), (1, .ref (s.heap.size + 0)), (0, .ref b)]) (lc_i (by omega) (lc_s (lc_s (lc_s rfl)))) ?_
  refine w_goto 18 dL_law_755 (by decide) ?_
  exact ih (i + 5) n1 L1 S1 P1 g3 ⟨CW_M hCW3 (by omega), hMW3, hwf1, by omega⟩ (by omega)

set_option maxRecDepth 100000 in
theorem lawc_strange {p : Program} {l : Launch} {e : Env} {s : State} {m : MethodId} {below : List Frame} {meth : Method} {c : Code} {D : va_G} {cy : Nat → ClassId} {b L cells slots : Nat} {xs : Nat → Int32} {i n : Nat} {Lt : Int → Int} {S : St} {P : List St} {g : Nat → va_E} (hX : va_X b L xs s s.heap) (hbl : b < s.heap.size) (hbA : ¬ yA s.heap.size b) (hL : L ≤ 2560) (hcs : cells ≤ room_1.cells ∧ slots ≤ room_1.slots) (hi : ((i : Nat) : Int) + 5 ≤ L) (hCW : CW cy s.heap.size g n Lt S P (7 + 4 * ((i : Nat) : Int))) (hMW : MW cy s.heap.size g n Lt S P) (hwf : WFg n Lt S P) (ih : ∀ (i1 n1 : Nat) (L1 : Int → Int) (S1 : St) (P1 : List St) (g1 : Nat → va_E), (CW cy s.heap.size g1 n1 L1 S1 P1 (7 + 4 * ((i1 : Nat) : Int)) ∧ MW cy s.heap.size g1 n1 L1 S1 P1 ∧ WFg n1 L1 S1 P1 ∧ i1 ≤ 2600) → 2600 - i1 < 2600 - i → WW p l e room_1 s m #[Value.ref b] below meth c (lw_Z below #[Value.ref b] s) cL_law 4 ret RL wsL_law D cy s.heap.size 160 cells slots g1 18 [(3, .int (zI ((i1 : Nat) : Int))), (2, .ref (s.heap.size + 141)), (1, .ref (s.heap.size + 0)), (0, .ref b)] []) : WW p l e room_1 s m #[Value.ref b] below meth c (lw_Z below #[Value.ref b] s) cL_law 4 ret RL wsL_law D cy s.heap.size 160 cells slots g 510 [(3, .int (zI ((i : Nat) : Int))), (2, .ref (s.heap.size + 141)), (1, .ref (s.heap.size + 0)), (0, .ref b)] [] := by
  obtain ⟨E, n1, L1, S1, P1, hwf1, hC1, hM1⟩ := api_strange (l := l) (D := D) (cy := cy) (B := s.heap.size) hwf (xz_rg (((i : Nat) : Int) + 1)) (xz_rg (((i : Nat) : Int) + 2))
  refine w_aload_n dL_law_510 rfl 2 rfl ?_
  refine w_aload_n dL_law_511 rfl 3 rfl ?_
  refine w_iload_n dL_law_512 rfl 0 rfl ?_
  refine w_iconst dL_law_513 ?_
  refine w_iadd dL_law_514 ?_
  refine w_sld hX hbl hbA (by omega) dL_law_515 ?_
  refine w_aload_n dL_law_516 rfl 3 rfl ?_
  refine w_iload_n dL_law_517 rfl 0 rfl ?_
  refine w_iconst dL_law_518 ?_
  refine w_iadd dL_law_519 ?_
  refine w_sld hX hbl hbA (by omega) dL_law_520 ?_
  obtain ⟨hg0_fs, hg0⟩ := CW_0 hCW
  refine w_calli (As := [.int (zI (xz xs (((i : Nat) : Int) + 1))), .int (zI (xz xs (((i : Nat) : Int) + 2)))]) (rest := []) (n := 2) (hC1 160 g (7 + 4 * ((i : Nat) : Int)) (Nat.le_refl _) (by omega) hCW) gL_law_X10_strange rfl rfl rfl (by decide +kernel) ⟨Nat.le_of_ble_eq_true rfl, Nat.le_of_ble_eq_true rfl⟩ rfl (by omega) hg0 rfl (Nat.le_of_ble_eq_true rfl) hcs dL_law_521 rfl (fun g2 hp1 => ?_)
  obtain ⟨hCW2, hf2⟩ := hp1
  have hMW2 := MW_fr hMW hf2
  refine w_aload_n dL_law_524 rfl 1 rfl ?_
  refine w_aload_n dL_law_525 rfl 3 rfl ?_
  refine w_iload_n dL_law_526 rfl 0 rfl ?_
  refine w_iconst dL_law_527 ?_
  refine w_iadd dL_law_528 ?_
  refine w_sld hX hbl hbA (by omega) dL_law_529 ?_
  refine w_aload_n dL_law_530 rfl 3 rfl ?_
  refine w_iload_n dL_law_531 rfl 0 rfl ?_
  refine w_iconst dL_law_532 ?_
  refine w_iadd dL_law_533 ?_
  refine w_sld hX hbl hbA (by omega) dL_law_534 ?_
  obtain ⟨hg1_fs, hg1⟩ := MW_0 hMW2
  refine w_calli (As := [.int (zI (xz xs (((i : Nat) : Int) + 1))), .int (zI (xz xs (((i : Nat) : Int) + 2)))]) (rest := [.int (zI E)]) (n := 2) (hM1 160 g2 (Nat.le_refl _) hMW2) gL_law_X11_strange rfl rfl rfl (by decide +kernel) ⟨Nat.le_of_ble_eq_true rfl, Nat.le_of_ble_eq_true rfl⟩ rfl (by omega) hg1 rfl (Nat.le_of_ble_eq_true rfl) hcs dL_law_535 rfl (fun g3 hp2 => ?_)
  obtain ⟨hMW3, hf3⟩ := hp2
  have hCW3 := CW_fr hCW2 (fun q h => hf3 q (Or.inl h))
  refine w_eqS 752 dL_law_538 (by decide) ?_
  refine w_iinc 0 [(3, .int (zI (((i : Nat) : Int) + 5))), (2, .ref (s.heap.size + 141)), (1, .ref (s.heap.size + 0)), (0, .ref b)] dL_law_752 rfl (by decide) rfl ?_
  refine w_lv (lv' := [(3, .int (zI ((i + 5 : Nat) : Int))), (2, .ref (s.heap.size + 141)), (1, .ref (s.heap.size + 0)), (0, .ref b)]) (lc_i (by omega) (lc_s (lc_s (lc_s rfl)))) ?_
  refine w_goto 18 dL_law_755 (by decide) ?_
  exact ih (i + 5) n1 L1 S1 P1 g3 ⟨CW_M hCW3 (by omega), hMW3, hwf1, by omega⟩ (by omega)

set_option maxRecDepth 100000 in
theorem lawc_node {p : Program} {l : Launch} {e : Env} {s : State} {m : MethodId} {below : List Frame} {meth : Method} {c : Code} {D : va_G} {cy : Nat → ClassId} {b L cells slots : Nat} {xs : Nat → Int32} {i n : Nat} {Lt : Int → Int} {S : St} {P : List St} {g : Nat → va_E} (hX : va_X b L xs s s.heap) (hbl : b < s.heap.size) (hbA : ¬ yA s.heap.size b) (hL : L ≤ 2560) (hcs : cells ≤ room_1.cells ∧ slots ≤ room_1.slots) (hi : ((i : Nat) : Int) + 5 ≤ L) (hCW : CW cy s.heap.size g n Lt S P (7 + 4 * ((i : Nat) : Int))) (hMW : MW cy s.heap.size g n Lt S P) (hwf : WFg n Lt S P) (ih : ∀ (i1 n1 : Nat) (L1 : Int → Int) (S1 : St) (P1 : List St) (g1 : Nat → va_E), (CW cy s.heap.size g1 n1 L1 S1 P1 (7 + 4 * ((i1 : Nat) : Int)) ∧ MW cy s.heap.size g1 n1 L1 S1 P1 ∧ WFg n1 L1 S1 P1 ∧ i1 ≤ 2600) → 2600 - i1 < 2600 - i → WW p l e room_1 s m #[Value.ref b] below meth c (lw_Z below #[Value.ref b] s) cL_law 4 ret RL wsL_law D cy s.heap.size 160 cells slots g1 18 [(3, .int (zI ((i1 : Nat) : Int))), (2, .ref (s.heap.size + 141)), (1, .ref (s.heap.size + 0)), (0, .ref b)] []) : WW p l e room_1 s m #[Value.ref b] below meth c (lw_Z below #[Value.ref b] s) cL_law 4 ret RL wsL_law D cy s.heap.size 160 cells slots g 543 [(3, .int (zI ((i : Nat) : Int))), (2, .ref (s.heap.size + 141)), (1, .ref (s.heap.size + 0)), (0, .ref b)] [] := by
  obtain ⟨E, n1, L1, S1, P1, hwf1, hC1, hM1⟩ := api_node (l := l) (D := D) (cy := cy) (B := s.heap.size) hwf (xz_rg (((i : Nat) : Int) + 1)) (xz_rg (((i : Nat) : Int) + 2)) (xz_rg (((i : Nat) : Int) + 3)) (xz_rg (((i : Nat) : Int) + 4))
  refine w_aload_n dL_law_543 rfl 2 rfl ?_
  refine w_aload_n dL_law_544 rfl 3 rfl ?_
  refine w_iload_n dL_law_545 rfl 0 rfl ?_
  refine w_iconst dL_law_546 ?_
  refine w_iadd dL_law_547 ?_
  refine w_sld hX hbl hbA (by omega) dL_law_548 ?_
  refine w_aload_n dL_law_549 rfl 3 rfl ?_
  refine w_iload_n dL_law_550 rfl 0 rfl ?_
  refine w_iconst dL_law_551 ?_
  refine w_iadd dL_law_552 ?_
  refine w_sld hX hbl hbA (by omega) dL_law_553 ?_
  refine w_aload_n dL_law_554 rfl 3 rfl ?_
  refine w_iload_n dL_law_555 rfl 0 rfl ?_
  refine w_iconst dL_law_556 ?_
  refine w_iadd dL_law_557 ?_
  refine w_sld hX hbl hbA (by omega) dL_law_558 ?_
  refine w_aload_n dL_law_559 rfl 3 rfl ?_
  refine w_iload_n dL_law_560 rfl 0 rfl ?_
  refine w_iconst dL_law_561 ?_
  refine w_iadd dL_law_562 ?_
  refine w_sld hX hbl hbA (by omega) dL_law_563 ?_
  obtain ⟨hg0_fs, hg0⟩ := CW_0 hCW
  refine w_calll (As := [.int (zI (xz xs (((i : Nat) : Int) + 1))), .int (zI (xz xs (((i : Nat) : Int) + 2))), .int (zI (xz xs (((i : Nat) : Int) + 3))), .int (zI (xz xs (((i : Nat) : Int) + 4)))]) (rest := []) (n := 4) (hC1 160 g (7 + 4 * ((i : Nat) : Int)) (Nat.le_refl _) (by omega) hCW) gL_law_X10_node rfl rfl rfl (by decide +kernel) ⟨Nat.le_of_ble_eq_true rfl, Nat.le_of_ble_eq_true rfl⟩ rfl (by omega) hg0 rfl (Nat.le_of_ble_eq_true rfl) hcs dL_law_564 rfl (fun g2 hp1 => ?_)
  obtain ⟨hCW2, hf2⟩ := hp1
  have hMW2 := MW_fr hMW hf2
  refine w_aload_n dL_law_567 rfl 1 rfl ?_
  refine w_aload_n dL_law_568 rfl 3 rfl ?_
  refine w_iload_n dL_law_569 rfl 0 rfl ?_
  refine w_iconst dL_law_570 ?_
  refine w_iadd dL_law_571 ?_
  refine w_sld hX hbl hbA (by omega) dL_law_572 ?_
  refine w_aload_n dL_law_573 rfl 3 rfl ?_
  refine w_iload_n dL_law_574 rfl 0 rfl ?_
  refine w_iconst dL_law_575 ?_
  refine w_iadd dL_law_576 ?_
  refine w_sld hX hbl hbA (by omega) dL_law_577 ?_
  refine w_aload_n dL_law_578 rfl 3 rfl ?_
  refine w_iload_n dL_law_579 rfl 0 rfl ?_
  refine w_iconst dL_law_580 ?_
  refine w_iadd dL_law_581 ?_
  refine w_sld hX hbl hbA (by omega) dL_law_582 ?_
  refine w_aload_n dL_law_583 rfl 3 rfl ?_
  refine w_iload_n dL_law_584 rfl 0 rfl ?_
  refine w_iconst dL_law_585 ?_
  refine w_iadd dL_law_586 ?_
  refine w_sld hX hbl hbA (by omega) dL_law_587 ?_
  obtain ⟨hg1_fs, hg1⟩ := MW_0 hMW2
  refine w_calll (As := [.int (zI (xz xs (((i : Nat) : Int) + 1))), .int (zI (xz xs (((i : Nat) : Int) + 2))), .int (zI (xz xs (((i : Nat) : Int) + 3))), .int (zI (xz xs (((i : Nat) : Int) + 4)))]) (rest := [.long (zJ E)]) (n := 4) (hM1 160 g2 (Nat.le_refl _) hMW2) gL_law_X11_node rfl rfl rfl (by decide +kernel) ⟨Nat.le_of_ble_eq_true rfl, Nat.le_of_ble_eq_true rfl⟩ rfl (by omega) hg1 rfl (Nat.le_of_ble_eq_true rfl) hcs dL_law_588 rfl (fun g3 hp2 => ?_)
  obtain ⟨hMW3, hf3⟩ := hp2
  have hCW3 := CW_fr hCW2 (fun q h => hf3 q (Or.inl h))
  refine w_leqS 752 dL_law_591 dL_law_592 (by decide) ?_
  refine w_iinc 0 [(3, .int (zI (((i : Nat) : Int) + 5))), (2, .ref (s.heap.size + 141)), (1, .ref (s.heap.size + 0)), (0, .ref b)] dL_law_752 rfl (by decide) rfl ?_
  refine w_lv (lv' := [(3, .int (zI ((i + 5 : Nat) : Int))), (2, .ref (s.heap.size + 141)), (1, .ref (s.heap.size + 0)), (0, .ref b)]) (lc_i (by omega) (lc_s (lc_s (lc_s rfl)))) ?_
  refine w_goto 18 dL_law_755 (by decide) ?_
  exact ih (i + 5) n1 L1 S1 P1 g3 ⟨CW_M hCW3 (by omega), hMW3, hwf1, by omega⟩ (by omega)

set_option maxRecDepth 100000 in
theorem lawc_looks {p : Program} {l : Launch} {e : Env} {s : State} {m : MethodId} {below : List Frame} {meth : Method} {c : Code} {D : va_G} {cy : Nat → ClassId} {b L cells slots : Nat} {xs : Nat → Int32} {i n : Nat} {Lt : Int → Int} {S : St} {P : List St} {g : Nat → va_E} (hX : va_X b L xs s s.heap) (hbl : b < s.heap.size) (hbA : ¬ yA s.heap.size b) (hL : L ≤ 2560) (hcs : cells ≤ room_1.cells ∧ slots ≤ room_1.slots) (hi : ((i : Nat) : Int) + 5 ≤ L) (hCW : CW cy s.heap.size g n Lt S P (7 + 4 * ((i : Nat) : Int))) (hMW : MW cy s.heap.size g n Lt S P) (hwf : WFg n Lt S P) (ih : ∀ (i1 n1 : Nat) (L1 : Int → Int) (S1 : St) (P1 : List St) (g1 : Nat → va_E), (CW cy s.heap.size g1 n1 L1 S1 P1 (7 + 4 * ((i1 : Nat) : Int)) ∧ MW cy s.heap.size g1 n1 L1 S1 P1 ∧ WFg n1 L1 S1 P1 ∧ i1 ≤ 2600) → 2600 - i1 < 2600 - i → WW p l e room_1 s m #[Value.ref b] below meth c (lw_Z below #[Value.ref b] s) cL_law 4 ret RL wsL_law D cy s.heap.size 160 cells slots g1 18 [(3, .int (zI ((i1 : Nat) : Int))), (2, .ref (s.heap.size + 141)), (1, .ref (s.heap.size + 0)), (0, .ref b)] []) : WW p l e room_1 s m #[Value.ref b] below meth c (lw_Z below #[Value.ref b] s) cL_law 4 ret RL wsL_law D cy s.heap.size 160 cells slots g 597 [(3, .int (zI ((i : Nat) : Int))), (2, .ref (s.heap.size + 141)), (1, .ref (s.heap.size + 0)), (0, .ref b)] [] := by
  obtain ⟨E, n1, L1, S1, P1, hwf1, hC1, hM1⟩ := api_looks (l := l) (D := D) (cy := cy) (B := s.heap.size) hwf (xz_rg (((i : Nat) : Int) + 1)) (xz_rg (((i : Nat) : Int) + 2))
  refine w_aload_n dL_law_597 rfl 2 rfl ?_
  refine w_aload_n dL_law_598 rfl 3 rfl ?_
  refine w_iload_n dL_law_599 rfl 0 rfl ?_
  refine w_iconst dL_law_600 ?_
  refine w_iadd dL_law_601 ?_
  refine w_sld hX hbl hbA (by omega) dL_law_602 ?_
  refine w_aload_n dL_law_603 rfl 3 rfl ?_
  refine w_iload_n dL_law_604 rfl 0 rfl ?_
  refine w_iconst dL_law_605 ?_
  refine w_iadd dL_law_606 ?_
  refine w_sld hX hbl hbA (by omega) dL_law_607 ?_
  obtain ⟨hg0_fs, hg0⟩ := CW_0 hCW
  refine w_calli (As := [.int (zI (xz xs (((i : Nat) : Int) + 1))), .int (zI (xz xs (((i : Nat) : Int) + 2)))]) (rest := []) (n := 2) (hC1 160 g (7 + 4 * ((i : Nat) : Int)) (Nat.le_refl _) (by omega) hCW) gL_law_X10_looks rfl rfl rfl (by decide +kernel) ⟨Nat.le_of_ble_eq_true rfl, Nat.le_of_ble_eq_true rfl⟩ rfl (by omega) hg0 rfl (Nat.le_of_ble_eq_true rfl) hcs dL_law_608 rfl (fun g2 hp1 => ?_)
  obtain ⟨hCW2, hf2⟩ := hp1
  have hMW2 := MW_fr hMW hf2
  refine w_aload_n dL_law_611 rfl 1 rfl ?_
  refine w_aload_n dL_law_612 rfl 3 rfl ?_
  refine w_iload_n dL_law_613 rfl 0 rfl ?_
  refine w_iconst dL_law_614 ?_
  refine w_iadd dL_law_615 ?_
  refine w_sld hX hbl hbA (by omega) dL_law_616 ?_
  refine w_aload_n dL_law_617 rfl 3 rfl ?_
  refine w_iload_n dL_law_618 rfl 0 rfl ?_
  refine w_iconst dL_law_619 ?_
  refine w_iadd dL_law_620 ?_
  refine w_sld hX hbl hbA (by omega) dL_law_621 ?_
  obtain ⟨hg1_fs, hg1⟩ := MW_0 hMW2
  refine w_calli (As := [.int (zI (xz xs (((i : Nat) : Int) + 1))), .int (zI (xz xs (((i : Nat) : Int) + 2)))]) (rest := [.int (zI E)]) (n := 2) (hM1 160 g2 (Nat.le_refl _) hMW2) gL_law_X11_looks rfl rfl rfl (by decide +kernel) ⟨Nat.le_of_ble_eq_true rfl, Nat.le_of_ble_eq_true rfl⟩ rfl (by omega) hg1 rfl (Nat.le_of_ble_eq_true rfl) hcs dL_law_622 rfl (fun g3 hp2 => ?_)
  obtain ⟨hMW3, hf3⟩ := hp2
  have hCW3 := CW_fr hCW2 (fun q h => hf3 q (Or.inl h))
  refine w_eqS 752 dL_law_625 (by decide) ?_
  refine w_iinc 0 [(3, .int (zI (((i : Nat) : Int) + 5))), (2, .ref (s.heap.size + 141)), (1, .ref (s.heap.size + 0)), (0, .ref b)] dL_law_752 rfl (by decide) rfl ?_
  refine w_lv (lv' := [(3, .int (zI ((i + 5 : Nat) : Int))), (2, .ref (s.heap.size + 141)), (1, .ref (s.heap.size + 0)), (0, .ref b)]) (lc_i (by omega) (lc_s (lc_s (lc_s rfl)))) ?_
  refine w_goto 18 dL_law_755 (by decide) ?_
  exact ih (i + 5) n1 L1 S1 P1 g3 ⟨CW_M hCW3 (by omega), hMW3, hwf1, by omega⟩ (by omega)

set_option maxRecDepth 100000 in
theorem lawc_table {p : Program} {l : Launch} {e : Env} {s : State} {m : MethodId} {below : List Frame} {meth : Method} {c : Code} {D : va_G} {cy : Nat → ClassId} {b L cells slots : Nat} {xs : Nat → Int32} {i n : Nat} {Lt : Int → Int} {S : St} {P : List St} {g : Nat → va_E} (hX : va_X b L xs s s.heap) (hbl : b < s.heap.size) (hbA : ¬ yA s.heap.size b) (hL : L ≤ 2560) (hcs : cells ≤ room_1.cells ∧ slots ≤ room_1.slots) (hi : ((i : Nat) : Int) + 5 ≤ L) (hCW : CW cy s.heap.size g n Lt S P (7 + 4 * ((i : Nat) : Int))) (hMW : MW cy s.heap.size g n Lt S P) (hwf : WFg n Lt S P) (ih : ∀ (i1 n1 : Nat) (L1 : Int → Int) (S1 : St) (P1 : List St) (g1 : Nat → va_E), (CW cy s.heap.size g1 n1 L1 S1 P1 (7 + 4 * ((i1 : Nat) : Int)) ∧ MW cy s.heap.size g1 n1 L1 S1 P1 ∧ WFg n1 L1 S1 P1 ∧ i1 ≤ 2600) → 2600 - i1 < 2600 - i → WW p l e room_1 s m #[Value.ref b] below meth c (lw_Z below #[Value.ref b] s) cL_law 4 ret RL wsL_law D cy s.heap.size 160 cells slots g1 18 [(3, .int (zI ((i1 : Nat) : Int))), (2, .ref (s.heap.size + 141)), (1, .ref (s.heap.size + 0)), (0, .ref b)] []) : WW p l e room_1 s m #[Value.ref b] below meth c (lw_Z below #[Value.ref b] s) cL_law 4 ret RL wsL_law D cy s.heap.size 160 cells slots g 630 [(3, .int (zI ((i : Nat) : Int))), (2, .ref (s.heap.size + 141)), (1, .ref (s.heap.size + 0)), (0, .ref b)] [] := by
  obtain ⟨E, n1, L1, S1, P1, hwf1, hC1, hM1⟩ := api_table (l := l) (D := D) (cy := cy) (B := s.heap.size) hwf (xz_rg (((i : Nat) : Int) + 1)) (xz_rg (((i : Nat) : Int) + 2)) (xz_rg (((i : Nat) : Int) + 3))
  refine w_aload_n dL_law_630 rfl 2 rfl ?_
  refine w_aload_n dL_law_631 rfl 3 rfl ?_
  refine w_iload_n dL_law_632 rfl 0 rfl ?_
  refine w_iconst dL_law_633 ?_
  refine w_iadd dL_law_634 ?_
  refine w_sld hX hbl hbA (by omega) dL_law_635 ?_
  refine w_aload_n dL_law_636 rfl 3 rfl ?_
  refine w_iload_n dL_law_637 rfl 0 rfl ?_
  refine w_iconst dL_law_638 ?_
  refine w_iadd dL_law_639 ?_
  refine w_sld hX hbl hbA (by omega) dL_law_640 ?_
  refine w_aload_n dL_law_641 rfl 3 rfl ?_
  refine w_iload_n dL_law_642 rfl 0 rfl ?_
  refine w_iconst dL_law_643 ?_
  refine w_iadd dL_law_644 ?_
  refine w_sld hX hbl hbA (by omega) dL_law_645 ?_
  obtain ⟨hg0_fs, hg0⟩ := CW_0 hCW
  refine w_calli (As := [.int (zI (xz xs (((i : Nat) : Int) + 1))), .int (zI (xz xs (((i : Nat) : Int) + 2))), .int (zI (xz xs (((i : Nat) : Int) + 3)))]) (rest := []) (n := 3) (hC1 160 g (7 + 4 * ((i : Nat) : Int)) (Nat.le_refl _) (by omega) hCW) gL_law_X10_table rfl rfl rfl (by decide +kernel) ⟨Nat.le_of_ble_eq_true rfl, Nat.le_of_ble_eq_true rfl⟩ rfl (by omega) hg0 rfl (Nat.le_of_ble_eq_true rfl) hcs dL_law_646 rfl (fun g2 hp1 => ?_)
  obtain ⟨hCW2, hf2⟩ := hp1
  have hMW2 := MW_fr hMW hf2
  refine w_aload_n dL_law_649 rfl 1 rfl ?_
  refine w_aload_n dL_law_650 rfl 3 rfl ?_
  refine w_iload_n dL_law_651 rfl 0 rfl ?_
  refine w_iconst dL_law_652 ?_
  refine w_iadd dL_law_653 ?_
  refine w_sld hX hbl hbA (by omega) dL_law_654 ?_
  refine w_aload_n dL_law_655 rfl 3 rfl ?_
  refine w_iload_n dL_law_656 rfl 0 rfl ?_
  refine w_iconst dL_law_657 ?_
  refine w_iadd dL_law_658 ?_
  refine w_sld hX hbl hbA (by omega) dL_law_659 ?_
  refine w_aload_n dL_law_660 rfl 3 rfl ?_
  refine w_iload_n dL_law_661 rfl 0 rfl ?_
  refine w_iconst dL_law_662 ?_
  refine w_iadd dL_law_663 ?_
  refine w_sld hX hbl hbA (by omega) dL_law_664 ?_
  obtain ⟨hg1_fs, hg1⟩ := MW_0 hMW2
  refine w_calli (As := [.int (zI (xz xs (((i : Nat) : Int) + 1))), .int (zI (xz xs (((i : Nat) : Int) + 2))), .int (zI (xz xs (((i : Nat) : Int) + 3)))]) (rest := [.int (zI E)]) (n := 3) (hM1 160 g2 (Nat.le_refl _) hMW2) gL_law_X11_table rfl rfl rfl (by decide +kernel) ⟨Nat.le_of_ble_eq_true rfl, Nat.le_of_ble_eq_true rfl⟩ rfl (by omega) hg1 rfl (Nat.le_of_ble_eq_true rfl) hcs dL_law_665 rfl (fun g3 hp2 => ?_)
  obtain ⟨hMW3, hf3⟩ := hp2
  have hCW3 := CW_fr hCW2 (fun q h => hf3 q (Or.inl h))
  refine w_eqS 752 dL_law_668 (by decide) ?_
  refine w_iinc 0 [(3, .int (zI (((i : Nat) : Int) + 5))), (2, .ref (s.heap.size + 141)), (1, .ref (s.heap.size + 0)), (0, .ref b)] dL_law_752 rfl (by decide) rfl ?_
  refine w_lv (lv' := [(3, .int (zI ((i + 5 : Nat) : Int))), (2, .ref (s.heap.size + 141)), (1, .ref (s.heap.size + 0)), (0, .ref b)]) (lc_i (by omega) (lc_s (lc_s (lc_s rfl)))) ?_
  refine w_goto 18 dL_law_755 (by decide) ?_
  exact ih (i + 5) n1 L1 S1 P1 g3 ⟨CW_M hCW3 (by omega), hMW3, hwf1, by omega⟩ (by omega)

set_option maxRecDepth 100000 in
theorem lawc_rank {p : Program} {l : Launch} {e : Env} {s : State} {m : MethodId} {below : List Frame} {meth : Method} {c : Code} {D : va_G} {cy : Nat → ClassId} {b L cells slots : Nat} {xs : Nat → Int32} {i n : Nat} {Lt : Int → Int} {S : St} {P : List St} {g : Nat → va_E} (hX : va_X b L xs s s.heap) (hbl : b < s.heap.size) (hbA : ¬ yA s.heap.size b) (hL : L ≤ 2560) (hcs : cells ≤ room_1.cells ∧ slots ≤ room_1.slots) (hi : ((i : Nat) : Int) + 5 ≤ L) (hCW : CW cy s.heap.size g n Lt S P (7 + 4 * ((i : Nat) : Int))) (hMW : MW cy s.heap.size g n Lt S P) (hwf : WFg n Lt S P) (ih : ∀ (i1 n1 : Nat) (L1 : Int → Int) (S1 : St) (P1 : List St) (g1 : Nat → va_E), (CW cy s.heap.size g1 n1 L1 S1 P1 (7 + 4 * ((i1 : Nat) : Int)) ∧ MW cy s.heap.size g1 n1 L1 S1 P1 ∧ WFg n1 L1 S1 P1 ∧ i1 ≤ 2600) → 2600 - i1 < 2600 - i → WW p l e room_1 s m #[Value.ref b] below meth c (lw_Z below #[Value.ref b] s) cL_law 4 ret RL wsL_law D cy s.heap.size 160 cells slots g1 18 [(3, .int (zI ((i1 : Nat) : Int))), (2, .ref (s.heap.size + 141)), (1, .ref (s.heap.size + 0)), (0, .ref b)] []) : WW p l e room_1 s m #[Value.ref b] below meth c (lw_Z below #[Value.ref b] s) cL_law 4 ret RL wsL_law D cy s.heap.size 160 cells slots g 673 [(3, .int (zI ((i : Nat) : Int))), (2, .ref (s.heap.size + 141)), (1, .ref (s.heap.size + 0)), (0, .ref b)] [] := by
  obtain ⟨E, n1, L1, S1, P1, hwf1, hC1, hM1⟩ := api_rank (l := l) (D := D) (cy := cy) (B := s.heap.size) hwf (xz_rg (((i : Nat) : Int) + 1))
  refine w_aload_n dL_law_673 rfl 2 rfl ?_
  refine w_aload_n dL_law_674 rfl 3 rfl ?_
  refine w_iload_n dL_law_675 rfl 0 rfl ?_
  refine w_iconst dL_law_676 ?_
  refine w_iadd dL_law_677 ?_
  refine w_sld hX hbl hbA (by omega) dL_law_678 ?_
  obtain ⟨hg0_fs, hg0⟩ := CW_0 hCW
  refine w_calli (As := [.int (zI (xz xs (((i : Nat) : Int) + 1)))]) (rest := []) (n := 1) (hC1 160 g (7 + 4 * ((i : Nat) : Int)) (Nat.le_refl _) (by omega) hCW) gL_law_X10_rank rfl rfl rfl (by decide +kernel) ⟨Nat.le_of_ble_eq_true rfl, Nat.le_of_ble_eq_true rfl⟩ rfl (by omega) hg0 rfl (Nat.le_of_ble_eq_true rfl) hcs dL_law_679 rfl (fun g2 hp1 => ?_)
  obtain ⟨hCW2, hf2⟩ := hp1
  have hMW2 := MW_fr hMW hf2
  refine w_aload_n dL_law_682 rfl 1 rfl ?_
  refine w_aload_n dL_law_683 rfl 3 rfl ?_
  refine w_iload_n dL_law_684 rfl 0 rfl ?_
  refine w_iconst dL_law_685 ?_
  refine w_iadd dL_law_686 ?_
  refine w_sld hX hbl hbA (by omega) dL_law_687 ?_
  obtain ⟨hg1_fs, hg1⟩ := MW_0 hMW2
  refine w_calli (As := [.int (zI (xz xs (((i : Nat) : Int) + 1)))]) (rest := [.int (zI E)]) (n := 1) (hM1 160 g2 (Nat.le_refl _) hMW2) gL_law_X11_rank rfl rfl rfl (by decide +kernel) ⟨Nat.le_of_ble_eq_true rfl, Nat.le_of_ble_eq_true rfl⟩ rfl (by omega) hg1 rfl (Nat.le_of_ble_eq_true rfl) hcs dL_law_688 rfl (fun g3 hp2 => ?_)
  obtain ⟨hMW3, hf3⟩ := hp2
  have hCW3 := CW_fr hCW2 (fun q h => hf3 q (Or.inl h))
  refine w_eqS 752 dL_law_691 (by decide) ?_
  refine w_iinc 0 [(3, .int (zI (((i : Nat) : Int) + 5))), (2, .ref (s.heap.size + 141)), (1, .ref (s.heap.size + 0)), (0, .ref b)] dL_law_752 rfl (by decide) rfl ?_
  refine w_lv (lv' := [(3, .int (zI ((i + 5 : Nat) : Int))), (2, .ref (s.heap.size + 141)), (1, .ref (s.heap.size + 0)), (0, .ref b)]) (lc_i (by omega) (lc_s (lc_s (lc_s rfl)))) ?_
  refine w_goto 18 dL_law_755 (by decide) ?_
  exact ih (i + 5) n1 L1 S1 P1 g3 ⟨CW_M hCW3 (by omega), hMW3, hwf1, by omega⟩ (by omega)

set_option maxRecDepth 100000 in
theorem lawc_likeliest {p : Program} {l : Launch} {e : Env} {s : State} {m : MethodId} {below : List Frame} {meth : Method} {c : Code} {D : va_G} {cy : Nat → ClassId} {b L cells slots : Nat} {xs : Nat → Int32} {i n : Nat} {Lt : Int → Int} {S : St} {P : List St} {g : Nat → va_E} (hX : va_X b L xs s s.heap) (hbl : b < s.heap.size) (hbA : ¬ yA s.heap.size b) (hL : L ≤ 2560) (hcs : cells ≤ room_1.cells ∧ slots ≤ room_1.slots) (hi : ((i : Nat) : Int) + 5 ≤ L) (hCW : CW cy s.heap.size g n Lt S P (7 + 4 * ((i : Nat) : Int))) (hMW : MW cy s.heap.size g n Lt S P) (hwf : WFg n Lt S P) (ih : ∀ (i1 n1 : Nat) (L1 : Int → Int) (S1 : St) (P1 : List St) (g1 : Nat → va_E), (CW cy s.heap.size g1 n1 L1 S1 P1 (7 + 4 * ((i1 : Nat) : Int)) ∧ MW cy s.heap.size g1 n1 L1 S1 P1 ∧ WFg n1 L1 S1 P1 ∧ i1 ≤ 2600) → 2600 - i1 < 2600 - i → WW p l e room_1 s m #[Value.ref b] below meth c (lw_Z below #[Value.ref b] s) cL_law 4 ret RL wsL_law D cy s.heap.size 160 cells slots g1 18 [(3, .int (zI ((i1 : Nat) : Int))), (2, .ref (s.heap.size + 141)), (1, .ref (s.heap.size + 0)), (0, .ref b)] []) : WW p l e room_1 s m #[Value.ref b] below meth c (lw_Z below #[Value.ref b] s) cL_law 4 ret RL wsL_law D cy s.heap.size 160 cells slots g 696 [(3, .int (zI ((i : Nat) : Int))), (2, .ref (s.heap.size + 141)), (1, .ref (s.heap.size + 0)), (0, .ref b)] [] := by
  obtain ⟨E, n1, L1, S1, P1, hwf1, hC1, hM1⟩ := api_likeliest (l := l) (D := D) (cy := cy) (B := s.heap.size) hwf (xz_rg (((i : Nat) : Int) + 1)) (xz_rg (((i : Nat) : Int) + 2))
  refine w_aload_n dL_law_696 rfl 2 rfl ?_
  refine w_aload_n dL_law_697 rfl 3 rfl ?_
  refine w_iload_n dL_law_698 rfl 0 rfl ?_
  refine w_iconst dL_law_699 ?_
  refine w_iadd dL_law_700 ?_
  refine w_sld hX hbl hbA (by omega) dL_law_701 ?_
  refine w_aload_n dL_law_702 rfl 3 rfl ?_
  refine w_iload_n dL_law_703 rfl 0 rfl ?_
  refine w_iconst dL_law_704 ?_
  refine w_iadd dL_law_705 ?_
  refine w_sld hX hbl hbA (by omega) dL_law_706 ?_
  obtain ⟨hg0_fs, hg0⟩ := CW_0 hCW
  refine w_calli (As := [.int (zI (xz xs (((i : Nat) : Int) + 1))), .int (zI (xz xs (((i : Nat) : Int) + 2)))]) (rest := []) (n := 2) (hC1 160 g (7 + 4 * ((i : Nat) : Int)) (Nat.le_refl _) (by omega) hCW) gL_law_X10_likeliest rfl rfl rfl (by decide +kernel) ⟨Nat.le_of_ble_eq_true rfl, Nat.le_of_ble_eq_true rfl⟩ rfl (by omega) hg0 rfl (Nat.le_of_ble_eq_true rfl) hcs dL_law_707 rfl (fun g2 hp1 => ?_)
  obtain ⟨hCW2, hf2⟩ := hp1
  have hMW2 := MW_fr hMW hf2
  refine w_aload_n dL_law_710 rfl 1 rfl ?_
  refine w_aload_n dL_law_711 rfl 3 rfl ?_
  refine w_iload_n dL_law_712 rfl 0 rfl ?_
  refine w_iconst dL_law_713 ?_
  refine w_iadd dL_law_714 ?_
  refine w_sld hX hbl hbA (by omega) dL_law_715 ?_
  refine w_aload_n dL_law_716 rfl 3 rfl ?_
  refine w_iload_n dL_law_717 rfl 0 rfl ?_
  refine w_iconst dL_law_718 ?_
  refine w_iadd dL_law_719 ?_
  refine w_sld hX hbl hbA (by omega) dL_law_720 ?_
  obtain ⟨hg1_fs, hg1⟩ := MW_0 hMW2
  refine w_calli (As := [.int (zI (xz xs (((i : Nat) : Int) + 1))), .int (zI (xz xs (((i : Nat) : Int) + 2)))]) (rest := [.int (zI E)]) (n := 2) (hM1 160 g2 (Nat.le_refl _) hMW2) gL_law_X11_likeliest rfl rfl rfl (by decide +kernel) ⟨Nat.le_of_ble_eq_true rfl, Nat.le_of_ble_eq_true rfl⟩ rfl (by omega) hg1 rfl (Nat.le_of_ble_eq_true rfl) hcs dL_law_721 rfl (fun g3 hp2 => ?_)
  obtain ⟨hMW3, hf3⟩ := hp2
  have hCW3 := CW_fr hCW2 (fun q h => hf3 q (Or.inl h))
  refine w_eqS 752 dL_law_724 (by decide) ?_
  refine w_iinc 0 [(3, .int (zI (((i : Nat) : Int) + 5))), (2, .ref (s.heap.size + 141)), (1, .ref (s.heap.size + 0)), (0, .ref b)] dL_law_752 rfl (by decide) rfl ?_
  refine w_lv (lv' := [(3, .int (zI ((i + 5 : Nat) : Int))), (2, .ref (s.heap.size + 141)), (1, .ref (s.heap.size + 0)), (0, .ref b)]) (lc_i (by omega) (lc_s (lc_s (lc_s rfl)))) ?_
  refine w_goto 18 dL_law_755 (by decide) ?_
  exact ih (i + 5) n1 L1 S1 P1 g3 ⟨CW_M hCW3 (by omega), hMW3, hwf1, by omega⟩ (by omega)

set_option maxRecDepth 100000 in
theorem lawc_count {p : Program} {l : Launch} {e : Env} {s : State} {m : MethodId} {below : List Frame} {meth : Method} {c : Code} {D : va_G} {cy : Nat → ClassId} {b L cells slots : Nat} {xs : Nat → Int32} {i n : Nat} {Lt : Int → Int} {S : St} {P : List St} {g : Nat → va_E} (hX : va_X b L xs s s.heap) (hbl : b < s.heap.size) (hbA : ¬ yA s.heap.size b) (hL : L ≤ 2560) (hcs : cells ≤ room_1.cells ∧ slots ≤ room_1.slots) (hi : ((i : Nat) : Int) + 5 ≤ L) (hCW : CW cy s.heap.size g n Lt S P (7 + 4 * ((i : Nat) : Int))) (hMW : MW cy s.heap.size g n Lt S P) (hwf : WFg n Lt S P) (ih : ∀ (i1 n1 : Nat) (L1 : Int → Int) (S1 : St) (P1 : List St) (g1 : Nat → va_E), (CW cy s.heap.size g1 n1 L1 S1 P1 (7 + 4 * ((i1 : Nat) : Int)) ∧ MW cy s.heap.size g1 n1 L1 S1 P1 ∧ WFg n1 L1 S1 P1 ∧ i1 ≤ 2600) → 2600 - i1 < 2600 - i → WW p l e room_1 s m #[Value.ref b] below meth c (lw_Z below #[Value.ref b] s) cL_law 4 ret RL wsL_law D cy s.heap.size 160 cells slots g1 18 [(3, .int (zI ((i1 : Nat) : Int))), (2, .ref (s.heap.size + 141)), (1, .ref (s.heap.size + 0)), (0, .ref b)] []) : WW p l e room_1 s m #[Value.ref b] below meth c (lw_Z below #[Value.ref b] s) cL_law 4 ret RL wsL_law D cy s.heap.size 160 cells slots g 729 [(3, .int (zI ((i : Nat) : Int))), (2, .ref (s.heap.size + 141)), (1, .ref (s.heap.size + 0)), (0, .ref b)] [] := by
  obtain ⟨E, n1, L1, S1, P1, hwf1, hC1, hM1⟩ := api_count (l := l) (D := D) (cy := cy) (B := s.heap.size) hwf (xz_rg (((i : Nat) : Int) + 1))
  refine w_aload_n dL_law_729 rfl 2 rfl ?_
  refine w_aload_n dL_law_730 rfl 3 rfl ?_
  refine w_iload_n dL_law_731 rfl 0 rfl ?_
  refine w_iconst dL_law_732 ?_
  refine w_iadd dL_law_733 ?_
  refine w_sld hX hbl hbA (by omega) dL_law_734 ?_
  obtain ⟨hg0_fs, hg0⟩ := CW_0 hCW
  refine w_calli (As := [.int (zI (xz xs (((i : Nat) : Int) + 1)))]) (rest := []) (n := 1) (hC1 160 g (7 + 4 * ((i : Nat) : Int)) (Nat.le_refl _) (by omega) hCW) gL_law_X10_count rfl rfl rfl (by decide +kernel) ⟨Nat.le_of_ble_eq_true rfl, Nat.le_of_ble_eq_true rfl⟩ rfl (by omega) hg0 rfl (Nat.le_of_ble_eq_true rfl) hcs dL_law_735 rfl (fun g2 hp1 => ?_)
  obtain ⟨hCW2, hf2⟩ := hp1
  have hMW2 := MW_fr hMW hf2
  refine w_aload_n dL_law_738 rfl 1 rfl ?_
  refine w_aload_n dL_law_739 rfl 3 rfl ?_
  refine w_iload_n dL_law_740 rfl 0 rfl ?_
  refine w_iconst dL_law_741 ?_
  refine w_iadd dL_law_742 ?_
  refine w_sld hX hbl hbA (by omega) dL_law_743 ?_
  obtain ⟨hg1_fs, hg1⟩ := MW_0 hMW2
  refine w_calli (As := [.int (zI (xz xs (((i : Nat) : Int) + 1)))]) (rest := [.int (zI E)]) (n := 1) (hM1 160 g2 (Nat.le_refl _) hMW2) gL_law_X11_count rfl rfl rfl (by decide +kernel) ⟨Nat.le_of_ble_eq_true rfl, Nat.le_of_ble_eq_true rfl⟩ rfl (by omega) hg1 rfl (Nat.le_of_ble_eq_true rfl) hcs dL_law_744 rfl (fun g3 hp2 => ?_)
  obtain ⟨hMW3, hf3⟩ := hp2
  have hCW3 := CW_fr hCW2 (fun q h => hf3 q (Or.inl h))
  refine w_eqS 752 dL_law_747 (by decide) ?_
  refine w_iinc 0 [(3, .int (zI (((i : Nat) : Int) + 5))), (2, .ref (s.heap.size + 141)), (1, .ref (s.heap.size + 0)), (0, .ref b)] dL_law_752 rfl (by decide) rfl ?_
  refine w_lv (lv' := [(3, .int (zI ((i + 5 : Nat) : Int))), (2, .ref (s.heap.size + 141)), (1, .ref (s.heap.size + 0)), (0, .ref b)]) (lc_i (by omega) (lc_s (lc_s (lc_s rfl)))) ?_
  refine w_goto 18 dL_law_755 (by decide) ?_
  exact ih (i + 5) n1 L1 S1 P1 g3 ⟨CW_M hCW3 (by omega), hMW3, hwf1, by omega⟩ (by omega)
