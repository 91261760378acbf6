/-! ===== Stratum ===== -/
theorem sm_congr {f g : Int → Int} : ∀ {k : Nat}, (∀ i : Int, 0 ≤ i → i < k → f i = g i) → sm f k = sm g k
  | 0, _ => rfl
  | k + 1, h => by
    show sm f k + f (k : Int) = sm g k + g (k : Int)
    rw [sm_congr (fun i h1 h2 => h i h1 (by omega)), h (k : Int) (by omega) (by omega)]
def swF (cs : List (Nat × Nat)) (r : Nat) : Int → Int := fun y => sW cs r 0 1 y
def stF (cs : List (Nat × Nat)) (r : Nat) : Int → Int := fun y => sT cs r 0 y
theorem bw_congr {W F : Int → Int} {law seen : Int} (h : ∀ y : Int, 0 ≤ y → y ≤ 540 → W y = F y) : sm (bw W law seen) 541 = sm (bw F law seen) 541 := sm_congr (fun i h1 h2 => by
  unfold bw
  rw [h i h1 (by omega)])
theorem NF_NV {T V : Int → Int} {n R : Nat} {G : Nat → Int → Int} {kd j a : Nat} {kq jq aq : Int} (h : NF T V n R G) (hk8 : kd < 8) (hj : j ≤ 5) (ha : a ≤ 60) (hq : kq = ((kd : Nat) : Int)) (hjq : jq = ((j : Nat) : Int)) (haq : aq = ((a : Nat) : Int)) : atA G kq jq aq = NV T V n R kd j a := by
  subst hjq
  subst haq
  rw [atA_in hq (by omega) rfl, h kd j a hk8 hj ha]
noncomputable def rkf (T V X : Int → Int) (n R : Nat) (i : Nat) : Nat → Int := fun x => NV T V n R 4 (i + 1) ((sm X i).toNat + x)
noncomputable def rp (T V X : Int → Int) (n R : Nat) : Int → Int := fun i => srN (rkf T V X n R i.toNat) 0 (X i).toNat
theorem sm_X {X : Int → Int} {n : Nat} (h : ∀ j : Int, 0 ≤ j → j < n → 0 ≤ X j ∧ X j ≤ 12) : ∀ {k : Nat}, k ≤ n → 0 ≤ sm X k ∧ sm X k ≤ 12 * k
  | 0, _ => by
    show 0 ≤ (0 : Int) ∧ (0 : Int) ≤ _
    omega
  | k + 1, hk => by
    have h1 := sm_X h (k := k) (by omega)
    have h2 := h (k : Int) (by omega) (by omega)
    show 0 ≤ sm X k + X (k : Int) ∧ sm X k + X (k : Int) ≤ _
    omega
set_option maxHeartbeats 4000000 in
set_option maxRecDepth 100000 in
theorem c_X7_freshRare {l : Launch} {D : va_G} {cy : Nat → ClassId} {B N : Nat} {g : Nat → va_E} {b : Nat} {tf : Int → Int} {nver : Int} {G : Nat → Int → Int} {sets n R : Nat} {cver : Int} {T X V : Int → Int} {Wy : Nat → Int → Int} {sw rw rt lc rver : Int} (hq : vStr cy B g b ) (hw : vRare cy B g (b + 22) (b + 1) (b + 11) sw rw rt lc rver) (hn : vNet cy B g (b + 11) (b + 1) tf ((R : Nat) : Int) nver G) (hc : vCol cy B g (b + 1) sets n cver T X V Wy) (hB : b + 26 ≤ N) (hok : okT T V n) (hR : R ≤ 60) (hNF : NF T V n R G) (hRt : R ≤ tsum (clL T V 0 n)) (htf : ∀ j : Nat, j ≤ 5 → tf ((j : Nat) : Int) = ((tsum (clL T V j (n - j)) : Nat) : Int)) (hWy : ∀ j : Nat, j < n → ∀ x : Nat, x ≤ 12 → Wy j ((x : Nat) : Int) = ((ch (T ((j : Nat) : Int)).toNat x : Nat) : Int)) (hn1 : 1 ≤ n) (hsw : 0 ≤ (pr (wx Wy X) n) ∧ (pr (wx Wy X) n) ≤ 1152921504606846976) (hX : ∀ j : Int, 0 ≤ j → j < n → 0 ≤ X j ∧ X j ≤ 12) (hv : (0 ≤ rver ∧ rver ≤ cver) ∧ cver < 2147483648) (h0 : rver = cver → (sw = (pr (wx Wy X) n) ∧ rw = (rk 0 (pr (wx Wy X) n) (clL T V 0 n) R 1) ∧ rt = (rk 1 (pr (wx Wy X) n) (clL T V 0 n) R 1) ∧ lc = (rk 2 (pr (wx Wy X) n) (clL T V 0 n) R 1))) : CTq l yX7_freshRare wsX7_freshRare (rmo 12 308) D cy B N g [.ref (B + b)] (some (B + (b + 22))) (fun g' => vRare cy B g' (b + 22) (b + 1) (b + 11) (pr (wx Wy X) n) (rk 0 (pr (wx Wy X) n) (clL T V 0 n) R 1) (rk 1 (pr (wx Wy X) n) (clL T V 0 n) R 1) (rk 2 (pr (wx Wy X) n) (clL T V 0 n) R 1) cver ∧ (∀ q, (q < (b + 22) ∨ (b + 22) + 1 ≤ q) → g' q = g q)) := by
  refine WW_of (cc := cX7_freshRare) (maxL := 1) (ret := (some (.object "MarginTables$RareWalk"))) (own := RX7) (by decide) rfl rfl (Nat.le_of_ble_eq_true rfl) rfl ?_
  intro pp ee ss mm bl me co hmn
  have hfr_0 : ∀ q, (q < (b + 22) ∨ (b + 22) + 1 ≤ q) → g q = g q := fun _ _ => rfl
  refine w_aload_n dX7_freshRare_0 rfl 0 rfl ?_
  refine w_get (i := 2) (T := TX7) (NF := 4) b (by first | omega | with_reducible rfl) hq rfl (fun _ h => (List.mem_cons_of_mem _ (List.mem_append_left _ (List.mem_append_left _ (List.mem_append_left _ (List.mem_append_right _ h)))))) (by decide) (List.mem_of_getElem? (i := 1) rfl) rfl dX7_freshRare_1 ?_
  refine w_callv (As := []) (rest := []) (n := 0) (c_X4_refresh hw hn hc (by first | omega | with_reducible rfl) (by first | omega | with_reducible rfl) (by first | omega | with_reducible rfl) (by first | omega | with_reducible rfl) (by first | omega | with_reducible rfl) hok (by first | omega | with_reducible rfl) hNF htf hWy (by first | omega | with_reducible rfl) (by first | omega | with_reducible rfl) hRt hX (by first | omega | with_reducible rfl) h0) gX7_freshRare_X4_refresh rfl rfl rfl (by decide +kernel) ⟨Nat.le_of_ble_eq_true rfl, Nat.le_of_ble_eq_true rfl⟩ rfl (by first | omega | with_reducible rfl) hw rfl (Nat.le_of_ble_eq_true rfl) ⟨Nat.zero_le _, Nat.zero_le _⟩ dX7_freshRare_4 rfl (fun g_1 hp_2 => ?_)
  obtain ⟨hw_3, hf_4⟩ := hp_2
  have hq_5 : vStr cy B g_1 b  := vStr_fr hq (fun q h1 h2 => hf_4 q (by omega))
  have hn_6 : vNet cy B g_1 (b + 11) (b + 1) tf ((R : Nat) : Int) nver G := vNet_fr hn (fun q h1 h2 => hf_4 q (by omega))
  have hc_7 : vCol cy B g_1 (b + 1) sets n cver T X V Wy := vCol_fr hc (fun q h1 h2 => hf_4 q (by omega))
  have hfr_8 : ∀ q, (q < (b + 22) ∨ (b + 22) + 1 ≤ q) → g_1 q = g q := fun q hq => (hf_4 q (by omega)).trans (hfr_0 q hq)
  refine w_aload_n dX7_freshRare_7 rfl 0 rfl ?_
  refine w_get (i := 2) (T := TX7) (NF := 4) b (by first | omega | with_reducible rfl) hq_5 rfl (fun _ h => (List.mem_cons_of_mem _ (List.mem_append_left _ (List.mem_append_left _ (List.mem_append_left _ (List.mem_append_right _ h)))))) (by decide) (List.mem_of_getElem? (i := 1) rfl) rfl dX7_freshRare_8 ?_
  exact w_aret (E' := some (B + (b + 22))) dX7_freshRare_11 rfl (by first | with_reducible rfl | omega | (split <;> omega)) ⟨hw_3, hfr_8⟩
set_option maxHeartbeats 4000000 in
set_option maxRecDepth 100000 in
theorem c_X7_freshSums {l : Launch} {D : va_G} {cy : Nat → ClassId} {B N : Nat} {g : Nat → va_E} {b : Nat} {tf : Int → Int} {nver : Int} {G : Nat → Int → Int} {sets n R : Nat} {cver : Int} {T X V : Int → Int} {Wy : Nat → Int → Int} {W Tb : Int → Int} {le gr sver : Int} (hq : vStr cy B g b ) (hs : vSum cy B g (b + 23) (b + 1) (b + 11) W Tb le gr sver) (hn : vNet cy B g (b + 11) (b + 1) tf ((R : Nat) : Int) nver G) (hc : vCol cy B g (b + 1) sets n cver T X V Wy) (hB : b + 26 ≤ N) (hok : okT T V n) (hR : R ≤ 60) (hNF : NF T V n R G) (hRt : R ≤ tsum (clL T V 0 n)) (htf : ∀ j : Nat, j ≤ 5 → tf ((j : Nat) : Int) = ((tsum (clL T V j (n - j)) : Nat) : Int)) (hWy : ∀ j : Nat, j < n → ∀ x : Nat, x ≤ 12 → Wy j ((x : Nat) : Int) = ((ch (T ((j : Nat) : Int)).toNat x : Nat) : Int)) (hn1 : 1 ≤ n) (hv : (0 ≤ sver ∧ sver ≤ cver) ∧ cver < 2147483648) (h0 : sver = cver → (le = (les (clL T V 0 n) R) ∧ gr = (grs (clL T V 0 n) R) ∧ (∀ y : Int, 0 ≤ y → y ≤ 540 → W y = sW (clL T V 0 n) R 0 1 y) ∧ (∀ y : Int, 0 ≤ y → y ≤ 540 → Tb y = sT (clL T V 0 n) R 0 y))) : CTq l yX7_freshSums wsX7_freshSums (rmo 12 322) D cy B N g [.ref (B + b)] (some (B + (b + 23))) (fun g' => ∃ W2 : Int → Int, ∃ T2 : Int → Int, vSum cy B g' (b + 23) (b + 1) (b + 11) W2 T2 (les (clL T V 0 n) R) (grs (clL T V 0 n) R) cver ∧ (∀ y : Int, 0 ≤ y → y ≤ 540 → W2 y = sW (clL T V 0 n) R 0 1 y) ∧ (∀ y : Int, 0 ≤ y → y ≤ 540 → T2 y = sT (clL T V 0 n) R 0 y) ∧ (∀ q, (q < (b + 23) ∨ (b + 23) + 3 ≤ q) → g' q = g q)) := by
  refine WW_of (cc := cX7_freshSums) (maxL := 1) (ret := (some (.object "MarginTables$SumWalk"))) (own := RX7) (by decide) rfl rfl (Nat.le_of_ble_eq_true rfl) rfl ?_
  intro pp ee ss mm bl me co hmn
  have hfr_0 : ∀ q, (q < (b + 23) ∨ (b + 23) + 3 ≤ q) → g q = g q := fun _ _ => rfl
  refine w_aload_n dX7_freshSums_0 rfl 0 rfl ?_
  refine w_get (i := 3) (T := TX7) (NF := 4) b (by first | omega | with_reducible rfl) hq rfl (fun _ h => (List.mem_cons_of_mem _ (List.mem_append_left _ (List.mem_append_left _ (List.mem_append_left _ (List.mem_append_right _ h)))))) (by decide) (List.mem_of_getElem? (i := 1) rfl) rfl dX7_freshSums_1 ?_
  refine w_callv (As := []) (rest := []) (n := 0) (c_X8_refresh hs hn hc (by first | omega | with_reducible rfl) (by first | omega | with_reducible rfl) (by first | omega | with_reducible rfl) (by first | omega | with_reducible rfl) (by first | omega | with_reducible rfl) hok (by first | omega | with_reducible rfl) hNF htf hWy (by first | omega | with_reducible rfl) hRt (by first | omega | with_reducible rfl) h0) gX7_freshSums_X8_refresh rfl rfl rfl (by decide +kernel) ⟨Nat.le_of_ble_eq_true rfl, Nat.le_of_ble_eq_true rfl⟩ rfl (by first | omega | with_reducible rfl) hs.1 rfl (Nat.le_of_ble_eq_true rfl) ⟨Nat.zero_le _, Nat.zero_le _⟩ dX7_freshSums_4 rfl (fun g_1 hp_2 => ?_)
  obtain ⟨W2_3, T2_4, hs_5, hW2_4, hT2_4, hf_6⟩ := hp_2
  have hq_7 : vStr cy B g_1 b  := vStr_fr hq (fun q h1 h2 => hf_6 q (by omega))
  have hn_8 : vNet cy B g_1 (b + 11) (b + 1) tf ((R : Nat) : Int) nver G := vNet_fr hn (fun q h1 h2 => hf_6 q (by omega))
  have hc_9 : vCol cy B g_1 (b + 1) sets n cver T X V Wy := vCol_fr hc (fun q h1 h2 => hf_6 q (by omega))
  have hfr_10 : ∀ q, (q < (b + 23) ∨ (b + 23) + 3 ≤ q) → g_1 q = g q := fun q hq => (hf_6 q (by omega)).trans (hfr_0 q hq)
  refine w_aload_n dX7_freshSums_7 rfl 0 rfl ?_
  refine w_get (i := 3) (T := TX7) (NF := 4) b (by first | omega | with_reducible rfl) hq_7 rfl (fun _ h => (List.mem_cons_of_mem _ (List.mem_append_left _ (List.mem_append_left _ (List.mem_append_left _ (List.mem_append_right _ h)))))) (by decide) (List.mem_of_getElem? (i := 1) rfl) rfl dX7_freshSums_8 ?_
  exact w_aret (E' := some (B + (b + 23))) dX7_freshSums_11 rfl (by first | with_reducible rfl | omega | (split <;> omega)) ⟨W2_3, T2_4, hs_5, hW2_4, hT2_4, hfr_10⟩
set_option maxHeartbeats 4000000 in
set_option maxRecDepth 100000 in
theorem c_X7_allWays {l : Launch} {D : va_G} {cy : Nat → ClassId} {B N : Nat} {g : Nat → va_E} {b : Nat} {tf : Int → Int} {nver : Int} {G : Nat → Int → Int} {sets n R : Nat} {cver : Int} {T X V : Int → Int} {Wy : Nat → Int → Int} (hq : vStr cy B g b ) (hn : vNet cy B g (b + 11) (b + 1) tf ((R : Nat) : Int) nver G) (hB : b + 26 ≤ N) (hok : okT T V n) (hR : R ≤ 60) (hNF : NF T V n R G) (hRt : R ≤ tsum (clL T V 0 n)) : CTl l yX7_allWays wsX7_allWays (rmo 1 23) D cy B N g [.ref (B + b)] (bh (clL T V 0 n) R) (fun g' => g' = g) := by
  refine WW_of (cc := cX7_allWays) (maxL := 1) (ret := (some .long)) (own := RX7) (by decide) rfl rfl (Nat.le_of_ble_eq_true rfl) rfl ?_
  intro pp ee ss mm bl me co hmn
  refine w_aload_n dX7_allWays_0 rfl 0 rfl ?_
  refine w_get (i := 1) (T := TX7) (NF := 4) b (by first | omega | with_reducible rfl) hq rfl (fun _ h => (List.mem_cons_of_mem _ (List.mem_append_left _ (List.mem_append_right _ h)))) (by decide) (List.mem_of_getElem? (i := 1) rfl) rfl dX7_allWays_1 ?_
  refine w_iconst dX7_allWays_4 ?_
  refine w_iconst dX7_allWays_5 ?_
  refine w_iconst dX7_allWays_6 ?_
  refine w_calll (As := [.int (zI 1), .int (zI 0), .int (zI 0)]) (rest := []) (n := 3) (c_X2_at hn (by first | omega | with_reducible rfl) (by first | omega | with_reducible rfl) (by first | omega | with_reducible rfl) (by first | omega | with_reducible rfl)) gX7_allWays_X2_at rfl rfl rfl (by decide +kernel) ⟨Nat.le_of_ble_eq_true rfl, Nat.le_of_ble_eq_true rfl⟩ rfl (by first | omega | with_reducible rfl) hn.1 rfl (Nat.le_of_ble_eq_true rfl) ⟨Nat.zero_le _, Nat.zero_le _⟩ dX7_allWays_7 rfl (fun g_1 hp_2 => ?_)
  subst g_1
  refine w_as (st' := [.long (zJ (bh (clL T V 0 n) R))]) (sc_l (NF_at (kd := 1) (j := 0) (a := 0) (m := n) hNF ⟨by omega, by omega, by omega, by simpa using hRt⟩ (by omega) hok.1 hR (by omega) (by omega) rfl) rfl) ?_
  exact w_lret dX7_allWays_10 rfl (by first | with_reducible rfl | omega | (split <;> omega)) rfl
set_option maxHeartbeats 4000000 in
set_option maxRecDepth 100000 in
theorem c_X7_tableCount {l : Launch} {D : va_G} {cy : Nat → ClassId} {B N : Nat} {g : Nat → va_E} {b : Nat} {tf : Int → Int} {nver : Int} {G : Nat → Int → Int} {sets n R : Nat} {cver : Int} {T X V : Int → Int} {Wy : Nat → Int → Int} (hq : vStr cy B g b ) (hn : vNet cy B g (b + 11) (b + 1) tf ((R : Nat) : Int) nver G) (hB : b + 26 ≤ N) (hok : okT T V n) (hR : R ≤ 60) (hNF : NF T V n R G) (hRt : R ≤ tsum (clL T V 0 n)) : CTi l yX7_tableCount wsX7_tableCount (rmo 1 23) D cy B N g [.ref (B + b)] (tc (clL T V 0 n) R) (fun g' => g' = g) := by
  refine WW_of (cc := cX7_tableCount) (maxL := 1) (ret := (some .int)) (own := RX7) (by decide) rfl rfl (Nat.le_of_ble_eq_true rfl) rfl ?_
  intro pp ee ss mm bl me co hmn
  refine w_aload_n dX7_tableCount_0 rfl 0 rfl ?_
  refine w_get (i := 1) (T := TX7) (NF := 4) b (by first | omega | with_reducible rfl) hq rfl (fun _ h => (List.mem_cons_of_mem _ (List.mem_append_left _ (List.mem_append_right _ h)))) (by decide) (List.mem_of_getElem? (i := 1) rfl) rfl dX7_tableCount_1 ?_
  refine w_iconst dX7_tableCount_4 ?_
  refine w_iconst dX7_tableCount_5 ?_
  refine w_iconst dX7_tableCount_6 ?_
  refine w_calll (As := [.int (zI 4), .int (zI 0), .int (zI 0)]) (rest := []) (n := 3) (c_X2_at hn (by first | omega | with_reducible rfl) (by first | omega | with_reducible rfl) (by first | omega | with_reducible rfl) (by first | omega | with_reducible rfl)) gX7_tableCount_X2_at rfl rfl rfl (by decide +kernel) ⟨Nat.le_of_ble_eq_true rfl, Nat.le_of_ble_eq_true rfl⟩ rfl (by first | omega | with_reducible rfl) hn.1 rfl (Nat.le_of_ble_eq_true rfl) ⟨Nat.zero_le _, Nat.zero_le _⟩ dX7_tableCount_7 rfl (fun g_1 hp_2 => ?_)
  subst g_1
  have htc := tc_rg (r := R) hok (show 0 + n ≤ n by omega)
  refine w_as (st' := [.long (zJ (tc (clL T V 0 n) R))]) (sc_l (NF_at (kd := 4) (j := 0) (a := 0) (m := n) hNF ⟨by omega, by omega, by omega, by simpa using hRt⟩ (by omega) hok.1 hR (by omega) (by omega) rfl) rfl) ?_
  refine w_l2i dX7_tableCount_10 (by first | omega | with_reducible rfl) ?_
  exact w_iret dX7_tableCount_11 rfl (by first | with_reducible rfl | omega | (split <;> omega)) rfl
set_option maxHeartbeats 4000000 in
set_option maxRecDepth 100000 in
theorem c_X7_strangeWays_r {l : Launch} {D : va_G} {cy : Nat → ClassId} {B N : Nat} {g : Nat → va_E} {b : Nat} {tf : Int → Int} {nver : Int} {G : Nat → Int → Int} {sets n R : Nat} {cver : Int} {T X V : Int → Int} {Wy : Nat → Int → Int} {sw rw rt lc rver : Int} {law : Int} (hq : vStr cy B g b ) (hw : vRare cy B g (b + 22) (b + 1) (b + 11) sw rw rt lc rver) (hn : vNet cy B g (b + 11) (b + 1) tf ((R : Nat) : Int) nver G) (hc : vCol cy B g (b + 1) sets n cver T X V Wy) (hB : b + 26 ≤ N) (hok : okT T V n) (hR : R ≤ 60) (hNF : NF T V n R G) (hRt : R ≤ tsum (clL T V 0 n)) (htf : ∀ j : Nat, j ≤ 5 → tf ((j : Nat) : Int) = ((tsum (clL T V j (n - j)) : Nat) : Int)) (hWy : ∀ j : Nat, j < n → ∀ x : Nat, x ≤ 12 → Wy j ((x : Nat) : Int) = ((ch (T ((j : Nat) : Int)).toNat x : Nat) : Int)) (hn1 : 1 ≤ n) (hsw : 0 ≤ (pr (wx Wy X) n) ∧ (pr (wx Wy X) n) ≤ 1152921504606846976) (hX : ∀ j : Int, 0 ≤ j → j < n → 0 ≤ X j ∧ X j ≤ 12) (hv : (0 ≤ rver ∧ rver ≤ cver) ∧ cver < 2147483648) (h0 : rver = cver → (sw = (pr (wx Wy X) n) ∧ rw = (rk 0 (pr (wx Wy X) n) (clL T V 0 n) R 1) ∧ rt = (rk 1 (pr (wx Wy X) n) (clL T V 0 n) R 1) ∧ lc = (rk 2 (pr (wx Wy X) n) (clL T V 0 n) R 1))) (hl0 : law = 0) : CTl l yX7_strangeWays wsX7_strangeWays (rmo 13 342) D cy B N g [.ref (B + b), .int (zI law)] (rk 0 (pr (wx Wy X) n) (clL T V 0 n) R 1) (fun g' => vRare cy B g' (b + 22) (b + 1) (b + 11) (pr (wx Wy X) n) (rk 0 (pr (wx Wy X) n) (clL T V 0 n) R 1) (rk 1 (pr (wx Wy X) n) (clL T V 0 n) R 1) (rk 2 (pr (wx Wy X) n) (clL T V 0 n) R 1) cver ∧ (∀ q, (q < (b + 22) ∨ (b + 22) + 1 ≤ q) → g' q = g q)) := by
  refine WW_of (cc := cX7_strangeWays) (maxL := 2) (ret := (some .long)) (own := RX7) (by decide) rfl rfl (Nat.le_of_ble_eq_true rfl) rfl ?_
  intro pp ee ss mm bl me co hmn
  have hfr_0 : ∀ q, (q < (b + 22) ∨ (b + 22) + 1 ≤ q) → g q = g q := fun _ _ => rfl
  refine w_iload_n dX7_strangeWays_0 rfl 1 rfl ?_
  refine w_if_ne 14 dX7_strangeWays_1 (by decide) (by first | omega | with_reducible rfl) (fun c_1 => ?_) (fun c_1 => ?_)
  · exfalso; omega
  · refine w_aload_n dX7_strangeWays_4 rfl 0 rfl ?_
    refine w_callq (As := []) (rest := []) (n := 0) (c_X7_freshRare hq hw hn hc (by first | omega | with_reducible rfl) hok (by first | omega | with_reducible rfl) hNF hRt htf hWy (by first | omega | with_reducible rfl) (by first | omega | with_reducible rfl) hX (by first | omega | with_reducible rfl) h0) gX7_strangeWays_X7_freshRare rfl rfl rfl (by decide +kernel) ⟨Nat.le_of_ble_eq_true rfl, Nat.le_of_ble_eq_true rfl⟩ rfl (by first | omega | with_reducible rfl) hq rfl (Nat.le_of_ble_eq_true rfl) ⟨Nat.zero_le _, Nat.zero_le _⟩ dX7_strangeWays_5 rfl (fun g_1 hp_2 => ?_)
    obtain ⟨hw_3, hf_4⟩ := hp_2
    have hq_5 : vStr cy B g_1 b  := vStr_fr hq (fun q h1 h2 => hf_4 q (by omega))
    have hn_6 : vNet cy B g_1 (b + 11) (b + 1) tf ((R : Nat) : Int) nver G := vNet_fr hn (fun q h1 h2 => hf_4 q (by omega))
    have hc_7 : vCol cy B g_1 (b + 1) sets n cver T X V Wy := vCol_fr hc (fun q h1 h2 => hf_4 q (by omega))
    have hfr_8 : ∀ q, (q < (b + 22) ∨ (b + 22) + 1 ≤ q) → g_1 q = g q := fun q hq => (hf_4 q (by omega)).trans (hfr_0 q hq)
    refine w_calll (As := []) (rest := []) (n := 0) (c_X4_rareWays hw_3 (by first | omega | with_reducible rfl)) gX7_strangeWays_X4_rareWays rfl rfl rfl (by decide +kernel) ⟨Nat.le_of_ble_eq_true rfl, Nat.le_of_ble_eq_true rfl⟩ rfl (by first | omega | with_reducible rfl) hw_3 rfl (Nat.le_of_ble_eq_true rfl) ⟨Nat.zero_le _, Nat.zero_le _⟩ dX7_strangeWays_8 rfl (fun g_9 hp_10 => ?_)
    subst g_9
    refine w_goto 29 dX7_strangeWays_11 (by decide) ?_
    exact w_lret dX7_strangeWays_29 rfl (by first | with_reducible rfl | omega | (split <;> omega)) ⟨hw_3, hfr_8⟩
set_option maxHeartbeats 4000000 in
set_option maxRecDepth 100000 in
theorem c_X7_strangeWays_s {l : Launch} {D : va_G} {cy : Nat → ClassId} {B N : Nat} {g : Nat → va_E} {b : Nat} {tf : Int → Int} {nver : Int} {G : Nat → Int → Int} {sets n R : Nat} {cver : Int} {T X V : Int → Int} {Wy : Nat → Int → Int} {W Tb : Int → Int} {le gr sver : Int} {law : Int} (hq : vStr cy B g b ) (hs : vSum cy B g (b + 23) (b + 1) (b + 11) W Tb le gr sver) (hn : vNet cy B g (b + 11) (b + 1) tf ((R : Nat) : Int) nver G) (hc : vCol cy B g (b + 1) sets n cver T X V Wy) (hB : b + 26 ≤ N) (hok : okT T V n) (hR : R ≤ 60) (hNF : NF T V n R G) (hRt : R ≤ tsum (clL T V 0 n)) (htf : ∀ j : Nat, j ≤ 5 → tf ((j : Nat) : Int) = ((tsum (clL T V j (n - j)) : Nat) : Int)) (hWy : ∀ j : Nat, j < n → ∀ x : Nat, x ≤ 12 → Wy j ((x : Nat) : Int) = ((ch (T ((j : Nat) : Int)).toNat x : Nat) : Int)) (hn1 : 1 ≤ n) (hv : (0 ≤ sver ∧ sver ≤ cver) ∧ cver < 2147483648) (h0 : sver = cver → (le = (les (clL T V 0 n) R) ∧ gr = (grs (clL T V 0 n) R) ∧ (∀ y : Int, 0 ≤ y → y ≤ 540 → W y = sW (clL T V 0 n) R 0 1 y) ∧ (∀ y : Int, 0 ≤ y → y ≤ 540 → Tb y = sT (clL T V 0 n) R 0 y))) (hl1 : (-2147483648 ≤ law ∧ law < 2147483648) ∧ ¬ law = 0) (hss : 0 ≤ (sm (xv X V) n) ∧ (sm (xv X V) n) ≤ 540) : CTl l yX7_strangeWays wsX7_strangeWays (rmo 13 342) D cy B N g [.ref (B + b), .int (zI law)] (sm (bw (swF (clL T V 0 n) R) law (sm (xv X V) n)) 541) (fun g' => ∃ W2 : Int → Int, ∃ T2 : Int → Int, vSum cy B g' (b + 23) (b + 1) (b + 11) W2 T2 (les (clL T V 0 n) R) (grs (clL T V 0 n) R) cver ∧ (∀ y : Int, 0 ≤ y → y ≤ 540 → W2 y = sW (clL T V 0 n) R 0 1 y) ∧ (∀ y : Int, 0 ≤ y → y ≤ 540 → T2 y = sT (clL T V 0 n) R 0 y) ∧ (∀ q, (q < (b + 23) ∨ (b + 23) + 3 ≤ q) → g' q = g q)) := by
  refine WW_of (cc := cX7_strangeWays) (maxL := 2) (ret := (some .long)) (own := RX7) (by decide) rfl rfl (Nat.le_of_ble_eq_true rfl) rfl ?_
  intro pp ee ss mm bl me co hmn
  have hfr_0 : ∀ q, (q < (b + 23) ∨ (b + 23) + 3 ≤ q) → g q = g q := fun _ _ => rfl
  have hn5 : n ≤ 5 := hok.1
  refine w_iload_n dX7_strangeWays_0 rfl 1 rfl ?_
  refine w_if_ne 14 dX7_strangeWays_1 (by decide) (by first | omega | with_reducible rfl) (fun c_1 => ?_) (fun c_1 => ?_)
  · refine w_aload_n dX7_strangeWays_14 rfl 0 rfl ?_
    refine w_callq (As := []) (rest := []) (n := 0) (c_X7_freshSums hq hs hn hc (by first | omega | with_reducible rfl) hok (by first | omega | with_reducible rfl) hNF hRt htf hWy (by first | omega | with_reducible rfl) (by first | omega | with_reducible rfl) h0) gX7_strangeWays_X7_freshSums rfl rfl rfl (by decide +kernel) ⟨Nat.le_of_ble_eq_true rfl, Nat.le_of_ble_eq_true rfl⟩ rfl (by first | omega | with_reducible rfl) hq rfl (Nat.le_of_ble_eq_true rfl) ⟨Nat.zero_le _, Nat.zero_le _⟩ dX7_strangeWays_15 rfl (fun g_1 hp_2 => ?_)
    obtain ⟨W2_3, T2_4, hs_5, hW2_15, hT2_15, hf_6⟩ := hp_2
    have hq_7 : vStr cy B g_1 b  := vStr_fr hq (fun q h1 h2 => hf_6 q (by omega))
    have hn_8 : vNet cy B g_1 (b + 11) (b + 1) tf ((R : Nat) : Int) nver G := vNet_fr hn (fun q h1 h2 => hf_6 q (by omega))
    have hc_9 : vCol cy B g_1 (b + 1) sets n cver T X V Wy := vCol_fr hc (fun q h1 h2 => hf_6 q (by omega))
    have hfr_10 : ∀ q, (q < (b + 23) ∨ (b + 23) + 3 ≤ q) → g_1 q = g q := fun q hq => (hf_6 q (by omega)).trans (hfr_0 q hq)
    refine w_iload_n dX7_strangeWays_18 rfl 1 rfl ?_
    refine w_aload_n dX7_strangeWays_19 rfl 0 rfl ?_
    refine w_get (i := 0) (T := TX7) (NF := 4) b (by first | omega | with_reducible rfl) hq_7 rfl (fun _ h => (List.mem_cons_of_mem _ (List.mem_append_left _ (List.mem_append_left _ (List.mem_append_left _ (List.mem_append_left _ (List.mem_append_right _ h))))))) (by decide) (List.mem_of_getElem? (i := 1) rfl) rfl dX7_strangeWays_20 ?_
    refine w_calli (As := []) (rest := [.int (zI law), .ref (B + (b + 23))]) (n := 0) (c_X0_seenSum hc_9 (by first | omega | with_reducible rfl) (by first | omega | with_reducible rfl)) gX7_strangeWays_X0_seenSum rfl rfl rfl (by decide +kernel) ⟨Nat.le_of_ble_eq_true rfl, Nat.le_of_ble_eq_true rfl⟩ rfl (by first | omega | with_reducible rfl) hc_9.1 rfl (Nat.le_of_ble_eq_true rfl) ⟨Nat.zero_le _, Nat.zero_le _⟩ dX7_strangeWays_23 rfl (fun g_11 hp_12 => ?_)
    subst g_11
    refine w_calll (As := [.int (zI law), .int (zI (sm (xv X V) n))]) (rest := []) (n := 2) (c_X8_waysBy hs_5 (by first | omega | with_reducible rfl) (by first | omega | with_reducible rfl) (by first | omega | with_reducible rfl)) gX7_strangeWays_X8_waysBy rfl rfl rfl (by decide +kernel) ⟨Nat.le_of_ble_eq_true rfl, Nat.le_of_ble_eq_true rfl⟩ rfl (by first | omega | with_reducible rfl) hs_5.1 rfl (Nat.le_of_ble_eq_true rfl) ⟨Nat.zero_le _, Nat.zero_le _⟩ dX7_strangeWays_26 rfl (fun g_13 hp_14 => ?_)
    subst g_13
    exact w_lret dX7_strangeWays_29 rfl (by exact bw_congr hW2_15) ⟨W2_3, T2_4, hs_5, hW2_15, hT2_15, hfr_10⟩
  · exfalso; omega
set_option maxHeartbeats 4000000 in
set_option maxRecDepth 100000 in
theorem c_X7_strangeTables_r {l : Launch} {D : va_G} {cy : Nat → ClassId} {B N : Nat} {g : Nat → va_E} {b : Nat} {tf : Int → Int} {nver : Int} {G : Nat → Int → Int} {sets n R : Nat} {cver : Int} {T X V : Int → Int} {Wy : Nat → Int → Int} {sw rw rt lc rver : Int} {law : Int} (hq : vStr cy B g b ) (hw : vRare cy B g (b + 22) (b + 1) (b + 11) sw rw rt lc rver) (hn : vNet cy B g (b + 11) (b + 1) tf ((R : Nat) : Int) nver G) (hc : vCol cy B g (b + 1) sets n cver T X V Wy) (hB : b + 26 ≤ N) (hok : okT T V n) (hR : R ≤ 60) (hNF : NF T V n R G) (hRt : R ≤ tsum (clL T V 0 n)) (htf : ∀ j : Nat, j ≤ 5 → tf ((j : Nat) : Int) = ((tsum (clL T V j (n - j)) : Nat) : Int)) (hWy : ∀ j : Nat, j < n → ∀ x : Nat, x ≤ 12 → Wy j ((x : Nat) : Int) = ((ch (T ((j : Nat) : Int)).toNat x : Nat) : Int)) (hn1 : 1 ≤ n) (hsw : 0 ≤ (pr (wx Wy X) n) ∧ (pr (wx Wy X) n) ≤ 1152921504606846976) (hX : ∀ j : Int, 0 ≤ j → j < n → 0 ≤ X j ∧ X j ≤ 12) (hv : (0 ≤ rver ∧ rver ≤ cver) ∧ cver < 2147483648) (h0 : rver = cver → (sw = (pr (wx Wy X) n) ∧ rw = (rk 0 (pr (wx Wy X) n) (clL T V 0 n) R 1) ∧ rt = (rk 1 (pr (wx Wy X) n) (clL T V 0 n) R 1) ∧ lc = (rk 2 (pr (wx Wy X) n) (clL T V 0 n) R 1))) (hl0 : law = 0) : CTi l yX7_strangeTables wsX7_strangeTables (rmo 13 342) D cy B N g [.ref (B + b), .int (zI law)] (rk 1 (pr (wx Wy X) n) (clL T V 0 n) R 1) (fun g' => vRare cy B g' (b + 22) (b + 1) (b + 11) (pr (wx Wy X) n) (rk 0 (pr (wx Wy X) n) (clL T V 0 n) R 1) (rk 1 (pr (wx Wy X) n) (clL T V 0 n) R 1) (rk 2 (pr (wx Wy X) n) (clL T V 0 n) R 1) cver ∧ (∀ q, (q < (b + 22) ∨ (b + 22) + 1 ≤ q) → g' q = g q)) := by
  refine WW_of (cc := cX7_strangeTables) (maxL := 2) (ret := (some .int)) (own := RX7) (by decide) rfl rfl (Nat.le_of_ble_eq_true rfl) rfl ?_
  intro pp ee ss mm bl me co hmn
  have hfr_0 : ∀ q, (q < (b + 22) ∨ (b + 22) + 1 ≤ q) → g q = g q := fun _ _ => rfl
  refine w_iload_n dX7_strangeTables_0 rfl 1 rfl ?_
  refine w_if_ne 14 dX7_strangeTables_1 (by decide) (by first | omega | with_reducible rfl) (fun c_1 => ?_) (fun c_1 => ?_)
  · exfalso; omega
  · refine w_aload_n dX7_strangeTables_4 rfl 0 rfl ?_
    refine w_callq (As := []) (rest := []) (n := 0) (c_X7_freshRare hq hw hn hc (by first | omega | with_reducible rfl) hok (by first | omega | with_reducible rfl) hNF hRt htf hWy (by first | omega | with_reducible rfl) (by first | omega | with_reducible rfl) hX (by first | omega | with_reducible rfl) h0) gX7_strangeTables_X7_freshRare rfl rfl rfl (by decide +kernel) ⟨Nat.le_of_ble_eq_true rfl, Nat.le_of_ble_eq_true rfl⟩ rfl (by first | omega | with_reducible rfl) hq rfl (Nat.le_of_ble_eq_true rfl) ⟨Nat.zero_le _, Nat.zero_le _⟩ dX7_strangeTables_5 rfl (fun g_1 hp_2 => ?_)
    obtain ⟨hw_3, hf_4⟩ := hp_2
    have hq_5 : vStr cy B g_1 b  := vStr_fr hq (fun q h1 h2 => hf_4 q (by omega))
    have hn_6 : vNet cy B g_1 (b + 11) (b + 1) tf ((R : Nat) : Int) nver G := vNet_fr hn (fun q h1 h2 => hf_4 q (by omega))
    have hc_7 : vCol cy B g_1 (b + 1) sets n cver T X V Wy := vCol_fr hc (fun q h1 h2 => hf_4 q (by omega))
    have hfr_8 : ∀ q, (q < (b + 22) ∨ (b + 22) + 1 ≤ q) → g_1 q = g q := fun q hq => (hf_4 q (by omega)).trans (hfr_0 q hq)
    refine w_calli (As := []) (rest := []) (n := 0) (c_X4_rareTables hw_3 (by first | omega | with_reducible rfl)) gX7_strangeTables_X4_rareTables rfl rfl rfl (by decide +kernel) ⟨Nat.le_of_ble_eq_true rfl, Nat.le_of_ble_eq_true rfl⟩ rfl (by first | omega | with_reducible rfl) hw_3 rfl (Nat.le_of_ble_eq_true rfl) ⟨Nat.zero_le _, Nat.zero_le _⟩ dX7_strangeTables_8 rfl (fun g_9 hp_10 => ?_)
    subst g_9
    refine w_goto 29 dX7_strangeTables_11 (by decide) ?_
    exact w_iret dX7_strangeTables_29 rfl (by first | with_reducible rfl | omega | (split <;> omega)) ⟨hw_3, hfr_8⟩
set_option maxHeartbeats 4000000 in
set_option maxRecDepth 100000 in
theorem c_X7_strangeTables_s {l : Launch} {D : va_G} {cy : Nat → ClassId} {B N : Nat} {g : Nat → va_E} {b : Nat} {tf : Int → Int} {nver : Int} {G : Nat → Int → Int} {sets n R : Nat} {cver : Int} {T X V : Int → Int} {Wy : Nat → Int → Int} {W Tb : Int → Int} {le gr sver : Int} {law : Int} (hq : vStr cy B g b ) (hs : vSum cy B g (b + 23) (b + 1) (b + 11) W Tb le gr sver) (hn : vNet cy B g (b + 11) (b + 1) tf ((R : Nat) : Int) nver G) (hc : vCol cy B g (b + 1) sets n cver T X V Wy) (hB : b + 26 ≤ N) (hok : okT T V n) (hR : R ≤ 60) (hNF : NF T V n R G) (hRt : R ≤ tsum (clL T V 0 n)) (htf : ∀ j : Nat, j ≤ 5 → tf ((j : Nat) : Int) = ((tsum (clL T V j (n - j)) : Nat) : Int)) (hWy : ∀ j : Nat, j < n → ∀ x : Nat, x ≤ 12 → Wy j ((x : Nat) : Int) = ((ch (T ((j : Nat) : Int)).toNat x : Nat) : Int)) (hn1 : 1 ≤ n) (hv : (0 ≤ sver ∧ sver ≤ cver) ∧ cver < 2147483648) (h0 : sver = cver → (le = (les (clL T V 0 n) R) ∧ gr = (grs (clL T V 0 n) R) ∧ (∀ y : Int, 0 ≤ y → y ≤ 540 → W y = sW (clL T V 0 n) R 0 1 y) ∧ (∀ y : Int, 0 ≤ y → y ≤ 540 → Tb y = sT (clL T V 0 n) R 0 y))) (hl1 : (-2147483648 ≤ law ∧ law < 2147483648) ∧ ¬ law = 0) (hss : 0 ≤ (sm (xv X V) n) ∧ (sm (xv X V) n) ≤ 540) : CTi l yX7_strangeTables wsX7_strangeTables (rmo 13 342) D cy B N g [.ref (B + b), .int (zI law)] (sm (bw (stF (clL T V 0 n) R) law (sm (xv X V) n)) 541) (fun g' => ∃ W2 : Int → Int, ∃ T2 : Int → Int, vSum cy B g' (b + 23) (b + 1) (b + 11) W2 T2 (les (clL T V 0 n) R) (grs (clL T V 0 n) R) cver ∧ (∀ y : Int, 0 ≤ y → y ≤ 540 → W2 y = sW (clL T V 0 n) R 0 1 y) ∧ (∀ y : Int, 0 ≤ y → y ≤ 540 → T2 y = sT (clL T V 0 n) R 0 y) ∧ (∀ q, (q < (b + 23) ∨ (b + 23) + 3 ≤ q) → g' q = g q)) := by
  refine WW_of (cc := cX7_strangeTables) (maxL := 2) (ret := (some .int)) (own := RX7) (by decide) rfl rfl (Nat.le_of_ble_eq_true rfl) rfl ?_
  intro pp ee ss mm bl me co hmn
  have hfr_0 : ∀ q, (q < (b + 23) ∨ (b + 23) + 3 ≤ q) → g q = g q := fun _ _ => rfl
  have hn5 : n ≤ 5 := hok.1
  refine w_iload_n dX7_strangeTables_0 rfl 1 rfl ?_
  refine w_if_ne 14 dX7_strangeTables_1 (by decide) (by first | omega | with_reducible rfl) (fun c_1 => ?_) (fun c_1 => ?_)
  · refine w_aload_n dX7_strangeTables_14 rfl 0 rfl ?_
    refine w_callq (As := []) (rest := []) (n := 0) (c_X7_freshSums hq hs hn hc (by first | omega | with_reducible rfl) hok (by first | omega | with_reducible rfl) hNF hRt htf hWy (by first | omega | with_reducible rfl) (by first | omega | with_reducible rfl) h0) gX7_strangeTables_X7_freshSums rfl rfl rfl (by decide +kernel) ⟨Nat.le_of_ble_eq_true rfl, Nat.le_of_ble_eq_true rfl⟩ rfl (by first | omega | with_reducible rfl) hq rfl (Nat.le_of_ble_eq_true rfl) ⟨Nat.zero_le _, Nat.zero_le _⟩ dX7_strangeTables_15 rfl (fun g_1 hp_2 => ?_)
    obtain ⟨W2_3, T2_4, hs_5, hW2_15, hT2_15, hf_6⟩ := hp_2
    have hq_7 : vStr cy B g_1 b  := vStr_fr hq (fun q h1 h2 => hf_6 q (by omega))
    have hn_8 : vNet cy B g_1 (b + 11) (b + 1) tf ((R : Nat) : Int) nver G := vNet_fr hn (fun q h1 h2 => hf_6 q (by omega))
    have hc_9 : vCol cy B g_1 (b + 1) sets n cver T X V Wy := vCol_fr hc (fun q h1 h2 => hf_6 q (by omega))
    have hfr_10 : ∀ q, (q < (b + 23) ∨ (b + 23) + 3 ≤ q) → g_1 q = g q := fun q hq => (hf_6 q (by omega)).trans (hfr_0 q hq)
    refine w_iload_n dX7_strangeTables_18 rfl 1 rfl ?_
    refine w_aload_n dX7_strangeTables_19 rfl 0 rfl ?_
    refine w_get (i := 0) (T := TX7) (NF := 4) b (by first | omega | with_reducible rfl) hq_7 rfl (fun _ h => (List.mem_cons_of_mem _ (List.mem_append_left _ (List.mem_append_left _ (List.mem_append_left _ (List.mem_append_left _ (List.mem_append_right _ h))))))) (by decide) (List.mem_of_getElem? (i := 1) rfl) rfl dX7_strangeTables_20 ?_
    refine w_calli (As := []) (rest := [.int (zI law), .ref (B + (b + 23))]) (n := 0) (c_X0_seenSum hc_9 (by first | omega | with_reducible rfl) (by first | omega | with_reducible rfl)) gX7_strangeTables_X0_seenSum rfl rfl rfl (by decide +kernel) ⟨Nat.le_of_ble_eq_true rfl, Nat.le_of_ble_eq_true rfl⟩ rfl (by first | omega | with_reducible rfl) hc_9.1 rfl (Nat.le_of_ble_eq_true rfl) ⟨Nat.zero_le _, Nat.zero_le _⟩ dX7_strangeTables_23 rfl (fun g_11 hp_12 => ?_)
    subst g_11
    refine w_calli (As := [.int (zI law), .int (zI (sm (xv X V) n))]) (rest := []) (n := 2) (c_X8_tablesBy hs_5 (by first | omega | with_reducible rfl) (by first | omega | with_reducible rfl) (by first | omega | with_reducible rfl)) gX7_strangeTables_X8_tablesBy rfl rfl rfl (by decide +kernel) ⟨Nat.le_of_ble_eq_true rfl, Nat.le_of_ble_eq_true rfl⟩ rfl (by first | omega | with_reducible rfl) hs_5.1 rfl (Nat.le_of_ble_eq_true rfl) ⟨Nat.zero_le _, Nat.zero_le _⟩ dX7_strangeTables_26 rfl (fun g_13 hp_14 => ?_)
    subst g_13
    exact w_iret dX7_strangeTables_29 rfl (by exact bw_congr hT2_15) ⟨W2_3, T2_4, hs_5, hW2_15, hT2_15, hfr_10⟩
  · exfalso; omega
set_option maxHeartbeats 4000000 in
set_option maxRecDepth 100000 in
theorem c_X7_seenRank {l : Launch} {D : va_G} {cy : Nat → ClassId} {B N : Nat} {g : Nat → va_E} {b : Nat} {tf : Int → Int} {nver : Int} {G : Nat → Int → Int} {sets n R : Nat} {cver : Int} {T X V : Int → Int} {Wy : Nat → Int → Int} (hq : vStr cy B g b ) (hn : vNet cy B g (b + 11) (b + 1) tf ((R : Nat) : Int) nver G) (hc : vCol cy B g (b + 1) sets n cver T X V Wy) (hB : b + 26 ≤ N) (hok : okT T V n) (hR : R ≤ 60) (hNF : NF T V n R G) (hRt : R ≤ tsum (clL T V 0 n)) (hX : ∀ j : Int, 0 ≤ j → j < n → 0 ≤ X j ∧ X j ≤ 12) (hrk : 0 ≤ sm (rp T V X n R) n ∧ sm (rp T V X n R) n < 2147483648) : CTi l yX7_seenRank wsX7_seenRank (rmo 1 23) D cy B N g [.ref (B + b)] (sm (rp T V X n R) n) (fun g' => g' = g) := by
  refine WW_of (cc := cX7_seenRank) (maxL := 6) (ret := (some .int)) (own := RX7) (by decide) rfl rfl (Nat.le_of_ble_eq_true rfl) rfl ?_
  intro pp ee ss mm bl me co hmn
  have hn5 : n ≤ 5 := hok.1
  refine w_lconst0 dX7_seenRank_0 ?_
  refine w_lstore_n [(1, .long (zJ 0)), (0, .ref (B + b))] dX7_seenRank_1 rfl (by decide) rfl ?_
  refine w_iconst dX7_seenRank_2 ?_
  refine w_istore_n [(3, .int (zI 0)), (1, .long (zJ 0)), (0, .ref (B + b))] dX7_seenRank_3 rfl (by decide) rfl ?_
  refine w_iconst dX7_seenRank_4 ?_
  refine w_istore [(4, .int (zI 0)), (3, .int (zI 0)), (1, .long (zJ 0)), (0, .ref (B + b))] dX7_seenRank_5 (by decide) rfl ?_
  refine w_sub [(0, .ref (B + b)), (1, .long (zJ 0)), (3, .int (zI 0)), (4, .int (zI 0))] [3, 2, 1, 0] rfl ?_
  refine w_lv (lv' := [(0, .ref (B + b)), (1, .long (zJ (sm (rp T V X n R) 0))), (3, .int (zI (sm X 0))), (4, .int (zI ((0 : Nat) : Int)))]) (lc_s (lc_l rfl (lc_i rfl (lc_i (by first | omega | with_reducible rfl) rfl)))) ?_
  refine w_loop1 (fun (i : Nat) => i ≤ n) (fun (i : Nat) => n - i) (fun (i : Nat) => g) (fun (i : Nat) => [(0, .ref (B + b)), (1, .long (zJ (sm (rp T V X n R) i))), (3, .int (zI (sm X i))), (4, .int (zI ((i : Nat) : Int)))]) ?_ 0 (by first | omega | with_reducible rfl)
  rintro i hi ih_7
  refine w_iload dX7_seenRank_7 3 rfl ?_
  refine w_aload_n dX7_seenRank_9 rfl 0 rfl ?_
  refine w_get (i := 0) (T := TX7) (NF := 4) b (by first | omega | with_reducible rfl) hq rfl (fun _ h => (List.mem_cons_of_mem _ (List.mem_append_left _ (List.mem_append_left _ (List.mem_append_right _ h))))) (by decide) (List.mem_of_getElem? (i := 1) rfl) rfl dX7_seenRank_10 ?_
  refine w_calli (As := []) (rest := [.int (zI ((i : Nat) : Int))]) (n := 0) (c_X0_size hc (by first | omega | with_reducible rfl)) gX7_seenRank_X0_size rfl rfl rfl (by decide +kernel) ⟨Nat.le_of_ble_eq_true rfl, Nat.le_of_ble_eq_true rfl⟩ rfl (by first | omega | with_reducible rfl) hc.1 rfl (Nat.le_of_ble_eq_true rfl) ⟨Nat.zero_le _, Nat.zero_le _⟩ dX7_seenRank_13 rfl (fun g_1 hp_2 => ?_)
  subst g_1
  refine w_icmp_ge 79 dX7_seenRank_16 (by decide) (by first | omega | with_reducible rfl) (by first | omega | with_reducible rfl) (fun c_16 => ?_) (fun c_16 => ?_)
  · have hin : i = n := by omega
    have hrk1 : 0 ≤ sm (rp T V X n R) i ∧ sm (rp T V X n R) i < 2147483648 := by rw [hin]; exact hrk
    refine w_lload_n dX7_seenRank_79 rfl 1 rfl ?_
    refine w_l2i dX7_seenRank_80 (by first | omega | with_reducible rfl) ?_
    exact w_iret dX7_seenRank_81 rfl (by rw [hin]) rfl
  · have hXi := hX ((i : Nat) : Int) (by omega) (by omega)
    have hsX := sm_X hX (k := i) (by omega)
    refine w_iconst dX7_seenRank_19 ?_
    refine w_istore [(5, .int (zI 0)), (0, .ref (B + b)), (1, .long (zJ (sm (rp T V X n R) i))), (3, .int (zI (sm X i))), (4, .int (zI ((i : Nat) : Int)))] dX7_seenRank_20 (by decide) rfl ?_
    refine w_sub [(0, .ref (B + b)), (1, .long (zJ (sm (rp T V X n R) i))), (3, .int (zI (sm X i))), (4, .int (zI ((i : Nat) : Int))), (5, .int (zI 0))] [1, 2, 3, 4, 0] rfl ?_
    refine w_lv (lv' := [(0, .ref (B + b)), (1, .long (zJ (sm (rp T V X n R) i + srN (rkf T V X n R i) 0 0))), (3, .int (zI (sm X i))), (4, .int (zI ((i : Nat) : Int))), (5, .int (zI ((0 : Nat) : Int)))]) (lc_s (lc_l (by simp only [srN]; omega) (lc_s (lc_s (lc_i (by first | omega | with_reducible rfl) rfl))))) ?_
    refine w_loop1 (fun (k : Nat) => (k : Int) ≤ X ((i : Nat) : Int)) (fun (k : Nat) => (X ((i : Nat) : Int)).toNat - k) (fun (k : Nat) => g) (fun (k : Nat) => [(0, .ref (B + b)), (1, .long (zJ (sm (rp T V X n R) i + srN (rkf T V X n R i) 0 k))), (3, .int (zI (sm X i))), (4, .int (zI ((i : Nat) : Int))), (5, .int (zI ((k : Nat) : Int)))]) ?_ 0 hXi.1
    rintro k hk ih_22
    refine w_iload dX7_seenRank_22 4 rfl ?_
    refine w_aload_n dX7_seenRank_24 rfl 0 rfl ?_
    refine w_get (i := 0) (T := TX7) (NF := 4) b (by first | omega | with_reducible rfl) hq rfl (fun _ h => (List.mem_cons_of_mem _ (List.mem_append_left _ (List.mem_append_left _ (List.mem_append_right _ h))))) (by decide) (List.mem_of_getElem? (i := 1) rfl) rfl dX7_seenRank_25 ?_
    refine w_iload dX7_seenRank_28 3 rfl ?_
    refine w_calli (As := [.int (zI ((i : Nat) : Int))]) (rest := [.int (zI ((k : Nat) : Int))]) (n := 1) (c_X0_aboveOf hc (by first | omega | with_reducible rfl) (by first | omega | with_reducible rfl) (by first | omega | with_reducible rfl)) gX7_seenRank_X0_aboveOf rfl rfl rfl (by decide +kernel) ⟨Nat.le_of_ble_eq_true rfl, Nat.le_of_ble_eq_true rfl⟩ rfl (by first | omega | with_reducible rfl) hc.1 rfl (Nat.le_of_ble_eq_true rfl) ⟨Nat.zero_le _, Nat.zero_le _⟩ dX7_seenRank_30 rfl (fun g_3 hp_4 => ?_)
    subst g_3
    refine w_as (st' := [.int (zI (X ((i : Nat) : Int))), .int (zI ((k : Nat) : Int))]) (sc_i (inA_in (by omega)) rfl) ?_
    refine w_icmp_ge 61 dX7_seenRank_33 (by decide) (by first | omega | with_reducible rfl) (by first | omega | with_reducible rfl) (fun c_33 => ?_) (fun c_33 => ?_)
    · refine w_iload_n dX7_seenRank_61 rfl 2 rfl ?_
      refine w_aload_n dX7_seenRank_62 rfl 0 rfl ?_
      refine w_get (i := 0) (T := TX7) (NF := 4) b (by first | omega | with_reducible rfl) hq rfl (fun _ h => (List.mem_cons_of_mem _ (List.mem_append_left _ (List.mem_append_left _ (List.mem_append_right _ h))))) (by decide) (List.mem_of_getElem? (i := 1) rfl) rfl dX7_seenRank_63 ?_
      refine w_iload dX7_seenRank_66 3 rfl ?_
      refine w_calli (As := [.int (zI ((i : Nat) : Int))]) (rest := [.int (zI (sm X i))]) (n := 1) (c_X0_aboveOf hc (by first | omega | with_reducible rfl) (by first | omega | with_reducible rfl) (by first | omega | with_reducible rfl)) gX7_seenRank_X0_aboveOf rfl rfl rfl (by decide +kernel) ⟨Nat.le_of_ble_eq_true rfl, Nat.le_of_ble_eq_true rfl⟩ rfl (by first | omega | with_reducible rfl) hc.1 rfl (Nat.le_of_ble_eq_true rfl) ⟨Nat.zero_le _, Nat.zero_le _⟩ dX7_seenRank_68 rfl (fun g_5 hp_6 => ?_)
      subst g_5
      refine w_as (st' := [.int (zI (X ((i : Nat) : Int))), .int (zI (sm X i))]) (sc_i (inA_in (by omega)) rfl) ?_
      refine w_iadd dX7_seenRank_71 ?_
      refine w_istore_n [(3, .int (zI ((sm X i) + (X ((i : Nat) : Int))))), (0, .ref (B + b)), (1, .long (zJ (sm (rp T V X n R) i + srN (rkf T V X n R i) 0 k))), (4, .int (zI ((i : Nat) : Int))), (5, .int (zI ((k : Nat) : Int)))] dX7_seenRank_72 rfl (by decide) rfl ?_
      refine w_iinc 3 [(4, .int (zI (((i : Nat) : Int) + 1))), (3, .int (zI ((sm X i) + (X ((i : Nat) : Int))))), (0, .ref (B + b)), (1, .long (zJ (sm (rp T V X n R) i + srN (rkf T V X n R i) 0 k))), (5, .int (zI ((k : Nat) : Int)))] dX7_seenRank_73 rfl (by decide) rfl ?_
      refine w_goto 7 dX7_seenRank_76 (by decide) ?_
      refine w_sub [(0, .ref (B + b)), (1, .long (zJ (sm (rp T V X n R) i + srN (rkf T V X n R i) 0 k))), (3, .int (zI ((sm X i) + (X ((i : Nat) : Int))))), (4, .int (zI (((i : Nat) : Int) + 1)))] [2, 3, 1, 0] rfl ?_
      refine w_lv (lv' := [(0, .ref (B + b)), (1, .long (zJ (sm (rp T V X n R) (i + 1)))), (3, .int (zI (sm X (i + 1)))), (4, .int (zI (((i + 1) : Nat) : Int)))]) (lc_s (lc_l (by rw [show k = (X ((i : Nat) : Int)).toNat by omega]; rfl) (lc_i rfl (lc_i (by first | omega | with_reducible rfl) rfl)))) ?_
      exact ih_7 (i + 1) (by first | omega | with_reducible rfl) (by first | omega | with_reducible rfl)
    · refine w_lload_n dX7_seenRank_36 rfl 1 rfl ?_
      refine w_aload_n dX7_seenRank_37 rfl 0 rfl ?_
      refine w_get (i := 1) (T := TX7) (NF := 4) b (by first | omega | with_reducible rfl) hq rfl (fun _ h => (List.mem_cons_of_mem _ (List.mem_append_left _ (List.mem_append_left _ (List.mem_append_right _ h))))) (by decide) (List.mem_of_getElem? (i := 2) rfl) rfl dX7_seenRank_38 ?_
      refine w_iconst dX7_seenRank_41 ?_
      refine w_iload dX7_seenRank_42 3 rfl ?_
      refine w_iconst dX7_seenRank_44 ?_
      refine w_iadd dX7_seenRank_45 ?_
      refine w_iload_n dX7_seenRank_46 rfl 2 rfl ?_
      refine w_iload dX7_seenRank_47 4 rfl ?_
      refine w_iadd dX7_seenRank_49 ?_
      refine w_calll (As := [.int (zI 4), .int (zI (((i : Nat) : Int) + 1)), .int (zI ((sm X i) + ((k : Nat) : Int)))]) (rest := [.long (zJ (sm (rp T V X n R) i + srN (rkf T V X n R i) 0 k))]) (n := 3) (c_X2_at hn (by first | omega | with_reducible rfl) (by first | omega | with_reducible rfl) (by first | omega | with_reducible rfl) (by first | omega | with_reducible rfl)) gX7_seenRank_X2_at rfl rfl rfl (by decide +kernel) ⟨Nat.le_of_ble_eq_true rfl, Nat.le_of_ble_eq_true rfl⟩ rfl (by first | omega | with_reducible rfl) hn.1 rfl (Nat.le_of_ble_eq_true rfl) ⟨Nat.zero_le _, Nat.zero_le _⟩ dX7_seenRank_50 rfl (fun g_7 hp_8 => ?_)
      subst g_7
      refine w_as (st' := [.long (zJ (rkf T V X n R i k)), .long (zJ (sm (rp T V X n R) i + srN (rkf T V X n R i) 0 k))]) (sc_l (NF_NV (kd := 4) (j := i + 1) (a := (sm X i).toNat + k) hNF (by omega) (by omega) (by omega) rfl (by omega) (by omega)) rfl) ?_
      refine w_ladd dX7_seenRank_53 ?_
      refine w_lstore_n [(1, .long (zJ ((sm (rp T V X n R) i + srN (rkf T V X n R i) 0 k) + (rkf T V X n R i k)))), (0, .ref (B + b)), (3, .int (zI (sm X i))), (4, .int (zI ((i : Nat) : Int))), (5, .int (zI ((k : Nat) : Int)))] dX7_seenRank_54 rfl (by decide) rfl ?_
      refine w_iinc 4 [(5, .int (zI (((k : Nat) : Int) + 1))), (1, .long (zJ ((sm (rp T V X n R) i + srN (rkf T V X n R i) 0 k) + (rkf T V X n R i k)))), (0, .ref (B + b)), (3, .int (zI (sm X i))), (4, .int (zI ((i : Nat) : Int)))] dX7_seenRank_55 rfl (by decide) rfl ?_
      refine w_goto 22 dX7_seenRank_58 (by decide) ?_
      refine w_sub [(0, .ref (B + b)), (1, .long (zJ ((sm (rp T V X n R) i + srN (rkf T V X n R i) 0 k) + (rkf T V X n R i k)))), (3, .int (zI (sm X i))), (4, .int (zI ((i : Nat) : Int))), (5, .int (zI (((k : Nat) : Int) + 1)))] [2, 1, 3, 4, 0] rfl ?_
      refine w_lv (lv' := [(0, .ref (B + b)), (1, .long (zJ (sm (rp T V X n R) i + srN (rkf T V X n R i) 0 (k + 1)))), (3, .int (zI (sm X i))), (4, .int (zI ((i : Nat) : Int))), (5, .int (zI (((k + 1) : Nat) : Int)))]) (lc_s (lc_l (by rw [srN, Nat.zero_add, Int.add_assoc]) (lc_s (lc_s (lc_i (by first | omega | with_reducible rfl) rfl))))) ?_
      exact ih_22 (k + 1) (by first | omega | with_reducible rfl) (by first | omega | with_reducible rfl)
