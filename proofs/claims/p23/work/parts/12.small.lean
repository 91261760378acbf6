/-! ===== MarginTables$Text, MarginTables$Past ===== -/
theorem nar_c {v : Int} (h : 0 ≤ v ∧ v < 65536) : narrow .char (.int (zI v)) = .int (zI v) := by
  obtain ⟨n, rfl⟩ := Int.eq_ofNat_of_zero_le h.1
  rw [zI_ofNat]
  exact (pk_charN (by omega)).1
theorem uF_uF {α : Type} (G : Nat → α) (k : Nat) (v w : α) : uF (uF G k v) k w = uF G k w := by
  funext j
  unfold uF
  split <;> rfl
theorem uF_id {α : Type} (G : Nat → α) (k : Nat) : uF G k (G k) = G := by
  funext j
  unfold uF
  split
  · next h => rw [h]
  · rfl
set_option maxHeartbeats 4000000 in
set_option maxRecDepth 100000 in
theorem c_X9_size {l : Launch} {D : va_G} {cy : Nat → ClassId} {B N : Nat} {g : Nat → va_E} {b n : Nat} {L : Int → Int} (ht : vText cy B g b n L) (hT : b + 2 ≤ N) : CTi l yX9_size wsX9_size (rmo 0 0) D cy B N g [.ref (B + b)] ((n : Nat) : Int) (fun g' => g' = g) := by
  refine WW_of (cc := cX9_size) (maxL := 1) (ret := (some .int)) (own := RX9) (by decide) rfl rfl (Nat.le_of_ble_eq_true rfl) rfl ?_
  intro pp ee ss mm bl me co hmn
  refine w_aload_n dX9_size_0 rfl 0 rfl ?_
  refine w_get (i := 1) (T := TX9) (NF := 2) b (by first | omega | with_reducible rfl) ht.1 rfl (fun _ h => (List.mem_cons_of_mem _ (List.mem_append_right _ h))) (by decide) (List.mem_of_getElem? (i := 1) rfl) rfl dX9_size_1 ?_
  exact w_iret dX9_size_4 rfl (by first | with_reducible rfl | omega | (split <;> omega)) rfl
set_option maxHeartbeats 4000000 in
set_option maxRecDepth 100000 in
theorem c_X9_isFull {l : Launch} {D : va_G} {cy : Nat → ClassId} {B N : Nat} {g : Nat → va_E} {b n : Nat} {L : Int → Int} (ht : vText cy B g b n L) (hT : b + 2 ≤ N) (hn : n ≤ 200) : CTi l yX9_isFull wsX9_isFull (rmo 0 0) D cy B N g [.ref (B + b)] (if 200 ≤ n then 1 else 0) (fun g' => g' = g) := by
  refine WW_of (cc := cX9_isFull) (maxL := 1) (ret := (some .boolean)) (own := RX9) (by decide) rfl rfl (Nat.le_of_ble_eq_true rfl) rfl ?_
  intro pp ee ss mm bl me co hmn
  refine w_aload_n dX9_isFull_0 rfl 0 rfl ?_
  refine w_get (i := 1) (T := TX9) (NF := 2) b (by first | omega | with_reducible rfl) ht.1 rfl (fun _ h => (List.mem_cons_of_mem _ (List.mem_append_right _ h))) (by decide) (List.mem_of_getElem? (i := 1) rfl) rfl dX9_isFull_1 ?_
  refine w_aload_n dX9_isFull_4 rfl 0 rfl ?_
  refine w_get (i := 0) (T := TX9) (NF := 2) b (by first | omega | with_reducible rfl) ht.1 rfl (fun _ h => (List.mem_cons_of_mem _ (List.mem_append_right _ h))) (by decide) (List.mem_of_getElem? (i := 2) rfl) rfl dX9_isFull_5 ?_
  refine w_alen (b + 1) 0 (by first | omega | with_reducible rfl) ht.2 rfl dX9_isFull_8 ?_
  refine w_icmp_lt 16 dX9_isFull_9 (by decide) (by first | omega | with_reducible rfl) (by first | omega | with_reducible rfl) (fun c_9 => ?_) (fun c_9 => ?_)
  · refine w_iconst dX9_isFull_16 ?_
    exact w_zret dX9_isFull_17 rfl rfl (by first | (rw [if_neg (by omega)]) | (rw [if_pos (by omega)])) rfl
  · refine w_iconst dX9_isFull_12 ?_
    refine w_goto 17 dX9_isFull_13 (by decide) ?_
    exact w_zret dX9_isFull_17 rfl rfl (by first | (rw [if_neg (by omega)]) | (rw [if_pos (by omega)])) rfl
set_option maxHeartbeats 4000000 in
set_option maxRecDepth 100000 in
theorem c_X9_append {l : Launch} {D : va_G} {cy : Nat → ClassId} {B N : Nat} {g : Nat → va_E} {b n : Nat} {L : Int → Int} {x : Int} (ht : vText cy B g b n L) (hT : b + 2 ≤ N) (hn : n < 200) (hx : 0 ≤ x ∧ x < 65536) : CTv l yX9_append wsX9_append (rmo 0 0) D cy B N g [.ref (B + b), .int (zI x)] (fun g' => vText cy B g' b (n + 1) (uZ L ((n : Nat) : Int) x) ∧ (∀ q, (q < b ∨ b + 2 ≤ q) → g' q = g q)) := by
  refine WW_of (cc := cX9_append) (maxL := 2) (ret := none) (own := RX9) (by decide) rfl rfl (Nat.le_of_ble_eq_true rfl) rfl ?_
  intro pp ee ss mm bl me co hmn
  have hfr_0 : ∀ q, (q < b ∨ b + 2 ≤ q) → g q = g q := fun _ _ => rfl
  refine w_aload_n dX9_append_0 rfl 0 rfl ?_
  refine w_get (i := 1) (T := TX9) (NF := 2) b (by first | omega | with_reducible rfl) ht.1 rfl (fun _ h => (List.mem_cons_of_mem _ (List.mem_append_right _ h))) (by decide) (List.mem_of_getElem? (i := 1) rfl) rfl dX9_append_1 ?_
  refine w_if_lt 39 dX9_append_4 (by decide) (by first | omega | with_reducible rfl) (fun c_4 => ?_) (fun c_4 => ?_)
  · exfalso; omega
  · refine w_aload_n dX9_append_7 rfl 0 rfl ?_
    refine w_get (i := 1) (T := TX9) (NF := 2) b (by first | omega | with_reducible rfl) ht.1 rfl (fun _ h => (List.mem_cons_of_mem _ (List.mem_append_right _ h))) (by decide) (List.mem_of_getElem? (i := 1) rfl) rfl dX9_append_8 ?_
    refine w_aload_n dX9_append_11 rfl 0 rfl ?_
    refine w_get (i := 0) (T := TX9) (NF := 2) b (by first | omega | with_reducible rfl) ht.1 rfl (fun _ h => (List.mem_cons_of_mem _ (List.mem_append_right _ h))) (by decide) (List.mem_of_getElem? (i := 2) rfl) rfl dX9_append_12 ?_
    refine w_alen (b + 1) 0 (by first | omega | with_reducible rfl) ht.2 rfl dX9_append_15 ?_
    refine w_icmp_ge 39 dX9_append_16 (by decide) (by first | omega | with_reducible rfl) (by first | omega | with_reducible rfl) (fun c_16 => ?_) (fun c_16 => ?_)
    · exfalso; omega
    · refine w_aload_n dX9_append_19 rfl 0 rfl ?_
      refine w_get (i := 0) (T := TX9) (NF := 2) b (by first | omega | with_reducible rfl) ht.1 rfl (fun _ h => (List.mem_cons_of_mem _ (List.mem_append_right _ h))) (by decide) (List.mem_of_getElem? (i := 2) rfl) rfl dX9_append_20 ?_
      refine w_aload_n dX9_append_23 rfl 0 rfl ?_
      refine w_get (i := 1) (T := TX9) (NF := 2) b (by first | omega | with_reducible rfl) ht.1 rfl (fun _ h => (List.mem_cons_of_mem _ (List.mem_append_right _ h))) (by decide) (List.mem_of_getElem? (i := 1) rfl) rfl dX9_append_24 ?_
      refine w_iload_n dX9_append_27 rfl 1 rfl ?_
      refine w_cast (b + 1) (by first | omega | with_reducible rfl) ht.2 (by first | omega | with_reducible rfl) (by first | omega | with_reducible rfl) dX9_append_28 (fun g_1 he_2 hn_3 => ?_)
      have ht_4 : vText cy B g_1 b n (uZ L ((n : Nat) : Int) x) := ⟨((hn_3 _ (by omega)).trans ht.1), he_2⟩
      have hfr_5 : ∀ q, (q < b ∨ b + 2 ≤ q) → g_1 q = g q := fun q hq => (hn_3 q (by omega)).trans (hfr_0 q hq)
      refine w_aload_n dX9_append_29 rfl 0 rfl ?_
      refine w_dup dX9_append_30 rfl ?_
      refine w_get (i := 1) (T := TX9) (NF := 2) b (by first | omega | with_reducible rfl) ht_4.1 rfl (fun _ h => (List.mem_cons_of_mem _ (List.mem_append_right _ h))) (by decide) (List.mem_of_getElem? (i := 1) rfl) rfl dX9_append_31 ?_
      refine w_iconst dX9_append_34 ?_
      refine w_iadd dX9_append_35 ?_
      refine w_as (st' := [.int (zI (((n + 1) : Nat) : Int)), .ref (B + b)]) (sc_i (by first | omega | with_reducible rfl) rfl) ?_
      refine w_put (i := 1) (T := TX9) (NF := 2) b (by first | omega | with_reducible rfl) ht_4.1 rfl (fun _ h => (List.mem_cons_of_mem _ (List.mem_append_right _ h))) tyX9 tyX9_ok nmX9 (by decide) (List.mem_of_getElem? (i := 1) rfl) rfl rfl rfl (Nat.le_of_ble_eq_true rfl) dX9_append_36 (fun g_6 he_7 hn_8 => ?_)
      have ht_9 : vText cy B g_6 b (n + 1) (uZ L ((n : Nat) : Int) x) := ⟨he_7, ((hn_8 _ (by omega)).trans ht_4.2)⟩
      have hfr_10 : ∀ q, (q < b ∨ b + 2 ≤ q) → g_6 q = g q := fun q hq => (hn_8 q (by omega)).trans (hfr_5 q hq)
      exact w_vret dX9_append_39 rfl ⟨ht_9, hfr_10⟩
set_option maxHeartbeats 4000000 in
set_option maxRecDepth 100000 in
theorem c_X9_clear {l : Launch} {D : va_G} {cy : Nat → ClassId} {B N : Nat} {g : Nat → va_E} {b n : Nat} {L : Int → Int} (ht : vText cy B g b n L) (hT : b + 2 ≤ N) : CTv l yX9_clear wsX9_clear (rmo 0 0) D cy B N g [.ref (B + b)] (fun g' => vText cy B g' b 0 L ∧ (∀ q, (q < b ∨ b + 2 ≤ q) → g' q = g q)) := by
  refine WW_of (cc := cX9_clear) (maxL := 1) (ret := none) (own := RX9) (by decide) rfl rfl (Nat.le_of_ble_eq_true rfl) rfl ?_
  intro pp ee ss mm bl me co hmn
  have hfr_0 : ∀ q, (q < b ∨ b + 2 ≤ q) → g q = g q := fun _ _ => rfl
  refine w_aload_n dX9_clear_0 rfl 0 rfl ?_
  refine w_iconst dX9_clear_1 ?_
  refine w_as (st' := [.int (zI ((0 : Nat) : Int)), .ref (B + b)]) (sc_i rfl rfl) ?_
  refine w_put (i := 1) (T := TX9) (NF := 2) b (by first | omega | with_reducible rfl) ht.1 rfl (fun _ h => (List.mem_cons_of_mem _ (List.mem_append_right _ h))) tyX9 tyX9_ok nmX9 (by decide) (List.mem_of_getElem? (i := 1) rfl) rfl rfl rfl (Nat.le_of_ble_eq_true rfl) dX9_clear_2 (fun g_1 he_2 hn_3 => ?_)
  have ht_4 : vText cy B g_1 b 0 L := ⟨he_2, ((hn_3 _ (by omega)).trans ht.2)⟩
  have hfr_5 : ∀ q, (q < b ∨ b + 2 ≤ q) → g_1 q = g q := fun q hq => (hn_3 q (by omega)).trans (hfr_0 q hq)
  exact w_vret dX9_clear_5 rfl ⟨ht_4, hfr_5⟩
set_option maxHeartbeats 4000000 in
set_option maxRecDepth 100000 in
theorem c_X9_letterAt {l : Launch} {D : va_G} {cy : Nat → ClassId} {B N : Nat} {g : Nat → va_E} {b n : Nat} {L : Int → Int} {p : Int} (ht : vText cy B g b n L) (hT : b + 2 ≤ N) (hn : n ≤ 200) (h_p : -2147483648 ≤ p ∧ p < 2147483648) (hL : ∀ i : Int, 0 ≤ i → i < n → 0 ≤ L i ∧ L i < 65536) : CTi l yX9_letterAt wsX9_letterAt (rmo 0 0) D cy B N g [.ref (B + b), .int (zI p)] (inA n L p) (fun g' => g' = g) := by
  refine WW_of (cc := cX9_letterAt) (maxL := 2) (ret := (some .char)) (own := RX9) (by decide) rfl rfl (Nat.le_of_ble_eq_true rfl) rfl ?_
  intro pp ee ss mm bl me co hmn
  refine w_iload_n dX9_letterAt_0 rfl 1 rfl ?_
  refine w_if_lt 30 dX9_letterAt_1 (by decide) (by first | omega | with_reducible rfl) (fun c_1 => ?_) (fun c_1 => ?_)
  · refine w_iconst dX9_letterAt_30 ?_
    exact w_zret dX9_letterAt_31 rfl (nar_c (by first | omega | (have h9 := hL p (by omega) (by omega); omega))) (by first | (rw [inA_in (by omega)]) | (rw [inA_out (by omega)])) rfl
  · refine w_iload_n dX9_letterAt_4 rfl 1 rfl ?_
    refine w_aload_n dX9_letterAt_5 rfl 0 rfl ?_
    refine w_get (i := 1) (T := TX9) (NF := 2) b (by first | omega | with_reducible rfl) ht.1 rfl (fun _ h => (List.mem_cons_of_mem _ (List.mem_append_right _ h))) (by decide) (List.mem_of_getElem? (i := 1) rfl) rfl dX9_letterAt_6 ?_
    refine w_icmp_ge 30 dX9_letterAt_9 (by decide) (by first | omega | with_reducible rfl) (by first | omega | with_reducible rfl) (fun c_9 => ?_) (fun c_9 => ?_)
    · refine w_iconst dX9_letterAt_30 ?_
      exact w_zret dX9_letterAt_31 rfl (nar_c (by first | omega | (have h9 := hL p (by omega) (by omega); omega))) (by first | (rw [inA_in (by omega)]) | (rw [inA_out (by omega)])) rfl
    · refine w_iload_n dX9_letterAt_12 rfl 1 rfl ?_
      refine w_aload_n dX9_letterAt_13 rfl 0 rfl ?_
      refine w_get (i := 0) (T := TX9) (NF := 2) b (by first | omega | with_reducible rfl) ht.1 rfl (fun _ h => (List.mem_cons_of_mem _ (List.mem_append_right _ h))) (by decide) (List.mem_of_getElem? (i := 2) rfl) rfl dX9_letterAt_14 ?_
      refine w_alen (b + 1) 0 (by first | omega | with_reducible rfl) ht.2 rfl dX9_letterAt_17 ?_
      refine w_icmp_ge 30 dX9_letterAt_18 (by decide) (by first | omega | with_reducible rfl) (by first | omega | with_reducible rfl) (fun c_18 => ?_) (fun c_18 => ?_)
      · exfalso; omega
      · refine w_aload_n dX9_letterAt_21 rfl 0 rfl ?_
        refine w_get (i := 0) (T := TX9) (NF := 2) b (by first | omega | with_reducible rfl) ht.1 rfl (fun _ h => (List.mem_cons_of_mem _ (List.mem_append_right _ h))) (by decide) (List.mem_of_getElem? (i := 2) rfl) rfl dX9_letterAt_22 ?_
        refine w_iload_n dX9_letterAt_25 rfl 1 rfl ?_
        refine w_cald (b + 1) (by first | omega | with_reducible rfl) ht.2 (by first | omega | with_reducible rfl) dX9_letterAt_26 ?_
        refine w_goto 31 dX9_letterAt_27 (by decide) ?_
        exact w_zret dX9_letterAt_31 rfl (nar_c (by first | omega | (have h9 := hL p (by omega) (by omega); omega))) (by first | (rw [inA_in (by omega)]) | (rw [inA_out (by omega)])) rfl
set_option maxHeartbeats 4000000 in
set_option maxRecDepth 100000 in
theorem c_X3_size {l : Launch} {D : va_G} {cy : Nat → ClassId} {B N : Nat} {g : Nat → va_E} {b nx sz : Nat} {wh : Int → Int} {Rw : Nat → Int → Int} (hp : vPast cy B g b wh Rw nx sz) (hB : b + 9 ≤ N) : CTi l yX3_size wsX3_size (rmo 0 0) D cy B N g [.ref (B + b)] ((sz : Nat) : Int) (fun g' => g' = g) := by
  refine WW_of (cc := cX3_size) (maxL := 1) (ret := (some .int)) (own := RX3) (by decide) rfl rfl (Nat.le_of_ble_eq_true rfl) rfl ?_
  intro pp ee ss mm bl me co hmn
  refine w_aload_n dX3_size_0 rfl 0 rfl ?_
  refine w_get (i := 3) (T := TX3) (NF := 4) b (by first | omega | with_reducible rfl) hp.1 rfl (fun _ h => (List.mem_cons_of_mem _ (List.mem_append_right _ h))) (by decide) (List.mem_of_getElem? (i := 1) rfl) rfl dX3_size_1 ?_
  exact w_iret dX3_size_4 rfl (by first | with_reducible rfl | omega | (split <;> omega)) rfl
set_option maxHeartbeats 4000000 in
set_option maxRecDepth 100000 in
theorem c_X3_clear {l : Launch} {D : va_G} {cy : Nat → ClassId} {B N : Nat} {g : Nat → va_E} {b nx sz : Nat} {wh : Int → Int} {Rw : Nat → Int → Int} (hp : vPast cy B g b wh Rw nx sz) (hB : b + 9 ≤ N) : CTv l yX3_clear wsX3_clear (rmo 0 0) D cy B N g [.ref (B + b)] (fun g' => vPast cy B g' b wh Rw nx 0 ∧ (∀ q, (q < b ∨ b + 9 ≤ q) → g' q = g q)) := by
  refine WW_of (cc := cX3_clear) (maxL := 1) (ret := none) (own := RX3) (by decide) rfl rfl (Nat.le_of_ble_eq_true rfl) rfl ?_
  intro pp ee ss mm bl me co hmn
  have hfr_0 : ∀ q, (q < b ∨ b + 9 ≤ q) → g q = g q := fun _ _ => rfl
  refine w_aload_n dX3_clear_0 rfl 0 rfl ?_
  refine w_iconst dX3_clear_1 ?_
  refine w_as (st' := [.int (zI ((0 : Nat) : Int)), .ref (B + b)]) (sc_i rfl rfl) ?_
  refine w_put (i := 3) (T := TX3) (NF := 4) b (by first | omega | with_reducible rfl) hp.1 rfl (fun _ h => (List.mem_cons_of_mem _ (List.mem_append_right _ h))) tyX3 tyX3_ok nmX3 (by decide) (List.mem_of_getElem? (i := 1) rfl) rfl rfl rfl (Nat.le_of_ble_eq_true rfl) dX3_clear_2 (fun g_1 he_2 hn_3 => ?_)
  have hp_4 : vPast cy B g_1 b wh Rw nx 0 := ⟨he_2, ((hn_3 _ (by omega)).trans hp.2.1), ((hn_3 _ (by omega)).trans hp.2.2.1), (fun k hk => (hn_3 _ (by omega)).trans (hp.2.2.2 k hk))⟩
  have hfr_5 : ∀ q, (q < b ∨ b + 9 ≤ q) → g_1 q = g q := fun q hq => (hn_3 q (by omega)).trans (hfr_0 q hq)
  exact w_vret dX3_clear_5 rfl ⟨hp_4, hfr_5⟩
set_option maxHeartbeats 4000000 in
set_option maxRecDepth 100000 in
theorem c_X3_latestRow {l : Launch} {D : va_G} {cy : Nat → ClassId} {B N : Nat} {g : Nat → va_E} {b nx sz : Nat} {wh : Int → Int} {Rw : Nat → Int → Int} (hp : vPast cy B g b wh Rw nx sz) (hB : b + 9 ≤ N) (hx : nx < 6) : CTi l yX3_latestRow wsX3_latestRow (rmo 0 0) D cy B N g [.ref (B + b)] (if 0 < nx then ((nx : Nat) : Int) - 1 else 5) (fun g' => g' = g) := by
  refine WW_of (cc := cX3_latestRow) (maxL := 1) (ret := (some .int)) (own := RX3) (by decide) rfl rfl (Nat.le_of_ble_eq_true rfl) rfl ?_
  intro pp ee ss mm bl me co hmn
  refine w_aload_n dX3_latestRow_0 rfl 0 rfl ?_
  refine w_get (i := 2) (T := TX3) (NF := 4) b (by first | omega | with_reducible rfl) hp.1 rfl (fun _ h => (List.mem_cons_of_mem _ (List.mem_append_right _ h))) (by decide) (List.mem_of_getElem? (i := 1) rfl) rfl dX3_latestRow_1 ?_
  refine w_if_le 25 dX3_latestRow_4 (by decide) (by first | omega | with_reducible rfl) (fun c_4 => ?_) (fun c_4 => ?_)
  · refine w_iconst dX3_latestRow_25 ?_
    exact w_iret dX3_latestRow_26 rfl (by first | (rw [if_neg (by omega)]) | (rw [if_pos (by omega)])) rfl
  · refine w_aload_n dX3_latestRow_7 rfl 0 rfl ?_
    refine w_get (i := 2) (T := TX3) (NF := 4) b (by first | omega | with_reducible rfl) hp.1 rfl (fun _ h => (List.mem_cons_of_mem _ (List.mem_append_right _ h))) (by decide) (List.mem_of_getElem? (i := 1) rfl) rfl dX3_latestRow_8 ?_
    refine w_bipush dX3_latestRow_11 (by decide) ?_
    refine w_icmp_gt 25 dX3_latestRow_13 (by decide) (by first | omega | with_reducible rfl) (by first | omega | with_reducible rfl) (fun c_13 => ?_) (fun c_13 => ?_)
    · exfalso; omega
    · refine w_aload_n dX3_latestRow_16 rfl 0 rfl ?_
      refine w_get (i := 2) (T := TX3) (NF := 4) b (by first | omega | with_reducible rfl) hp.1 rfl (fun _ h => (List.mem_cons_of_mem _ (List.mem_append_right _ h))) (by decide) (List.mem_of_getElem? (i := 1) rfl) rfl dX3_latestRow_17 ?_
      refine w_iconst dX3_latestRow_20 ?_
      refine w_isub dX3_latestRow_21 ?_
      refine w_goto 26 dX3_latestRow_22 (by decide) ?_
      exact w_iret dX3_latestRow_26 rfl (by first | (rw [if_neg (by omega)]) | (rw [if_pos (by omega)])) rfl
theorem keep_st {n k : Nat} {X V Rn : Int → Int} (hk : k < 5) (h : ∀ j : Int, 0 ≤ j → j < k → Rn j = inA n X j ∧ Rn (5 + j) = inA n V j) : ∀ j : Int, 0 ≤ j → j < ((k + 1 : Nat) : Int) → (uZ (uZ Rn ((k : Nat) : Int) (inA n X ((k : Nat) : Int))) (5 + ((k : Nat) : Int)) (inA n V ((k : Nat) : Int))) j = inA n X j ∧ (uZ (uZ Rn ((k : Nat) : Int) (inA n X ((k : Nat) : Int))) (5 + ((k : Nat) : Int)) (inA n V ((k : Nat) : Int))) (5 + j) = inA n V j := by
  intro j h1 h2
  by_cases hj : j = k
  · subst hj
    exact ⟨by rw [uZ_ne (by omega), uZ_same], by rw [uZ_same]⟩
  · obtain ⟨h3, h4⟩ := h j h1 (by omega)
    exact ⟨by rw [uZ_ne (by omega), uZ_ne (by omega), h3], by rw [uZ_ne (by omega), uZ_ne (by omega), h4]⟩
def lrow (nx : Nat) : Nat := if 0 < nx then nx - 1 else 5
theorem lrow_lt {nx : Nat} (h : nx < 6) : lrow nx < 6 := by unfold lrow; split <;> omega
theorem lrow_z (nx : Nat) : (if 0 < nx then ((nx : Nat) : Int) - 1 else 5) = ((lrow nx : Nat) : Int) := by unfold lrow; split <;> omega
set_option maxHeartbeats 4000000 in
set_option maxRecDepth 100000 in
theorem c_X3_latest {l : Launch} {D : va_G} {cy : Nat → ClassId} {B N : Nat} {g : Nat → va_E} {b nx sz : Nat} {wh : Int → Int} {Rw : Nat → Int → Int} (hp : vPast cy B g b wh Rw nx sz) (hB : b + 9 ≤ N) (hx : nx < 6) (hs : sz ≤ 6) : CTi l yX3_latest wsX3_latest (rmo 1 20) D cy B N g [.ref (B + b)] (if 0 < sz then wh ((lrow nx : Nat) : Int) else (-1)) (fun g' => g' = g) := by
  refine WW_of (cc := cX3_latest) (maxL := 1) (ret := (some .int)) (own := RX3) (by decide) rfl rfl (Nat.le_of_ble_eq_true rfl) rfl ?_
  intro pp ee ss mm bl me co hmn
  refine w_aload_n dX3_latest_0 rfl 0 rfl ?_
  refine w_get (i := 3) (T := TX3) (NF := 4) b (by first | omega | with_reducible rfl) hp.1 rfl (fun _ h => (List.mem_cons_of_mem _ (List.mem_append_right _ h))) (by decide) (List.mem_of_getElem? (i := 1) rfl) rfl dX3_latest_1 ?_
  refine w_if_le 19 dX3_latest_4 (by decide) (by first | omega | with_reducible rfl) (fun c_4 => ?_) (fun c_4 => ?_)
  · refine w_iconst dX3_latest_19 ?_
    exact w_iret dX3_latest_20 rfl (by first | (rw [if_neg (by omega)]) | (rw [if_pos (by omega)])) rfl
  · refine w_aload_n dX3_latest_7 rfl 0 rfl ?_
    refine w_get (i := 0) (T := TX3) (NF := 4) b (by first | omega | with_reducible rfl) hp.1 rfl (fun _ h => (List.mem_cons_of_mem _ (List.mem_append_right _ h))) (by decide) (List.mem_of_getElem? (i := 2) rfl) rfl dX3_latest_8 ?_
    refine w_aload_n dX3_latest_11 rfl 0 rfl ?_
    refine w_calli (As := []) (rest := [.ref (B + (b + 1))]) (n := 0) (c_X3_latestRow hp (by first | omega | with_reducible rfl) (by first | omega | with_reducible rfl)) gX3_latest_X3_latestRow rfl rfl rfl (by decide +kernel) ⟨Nat.le_of_ble_eq_true rfl, Nat.le_of_ble_eq_true rfl⟩ rfl (by first | omega | with_reducible rfl) hp.1 rfl (Nat.le_of_ble_eq_true rfl) ⟨Nat.zero_le _, Nat.zero_le _⟩ dX3_latest_12 rfl (fun g_1 hp_2 => ?_)
    subst g_1
    have h8 := lrow_lt hx
    refine w_as (st' := [.int (zI ((lrow nx : Nat) : Int)), .ref (B + (b + 1))]) (sc_i (lrow_z nx) rfl) ?_
    refine w_iald (b + 1) (by first | omega | with_reducible rfl) hp.2.1 (by first | omega | with_reducible rfl) dX3_latest_15 ?_
    refine w_goto 20 dX3_latest_16 (by decide) ?_
    exact w_iret dX3_latest_20 rfl (by first | (rw [if_neg (by omega)]) | (rw [if_pos (by omega)])) rfl
set_option maxHeartbeats 4000000 in
set_option maxRecDepth 100000 in
theorem c_X3_keep {l : Launch} {D : va_G} {cy : Nat → ClassId} {B N : Nat} {g : Nat → va_E} {b nx sz : Nat} {wh : Int → Int} {Rw : Nat → Int → Int} {cb sets n : Nat} {ver : Int} {T X V : Int → Int} {Wy : Nat → Int → Int} {s : Int} (hp : vPast cy B g b wh Rw nx sz) (hc : vCol cy B g cb sets n ver T X V Wy) (hB : b + 9 ≤ N) (hx : nx < 6) (hs : sz ≤ 6) (hN : cb + 10 ≤ N) (hn : n ≤ 5) (hd : cb + 10 ≤ b ∨ b + 9 ≤ cb) : CTv l yX3_keep wsX3_keep (rmo 1 40) D cy B N g [.ref (B + b), .int (zI s), .ref (B + cb)] (fun g' => ∃ Rn : Int → Int, vPast cy B g' b (uZ wh ((nx : Nat) : Int) s) (uF Rw nx Rn) (if nx + 1 < 6 then nx + 1 else 0) (min (sz + 1) 6) ∧ (∀ j : Int, 0 ≤ j → j < 5 → Rn j = inA n X j ∧ Rn (5 + j) = inA n V j) ∧ (∀ q, (q < b ∨ b + 9 ≤ q) → g' q = g q)) := by
  refine WW_of (cc := cX3_keep) (maxL := 4) (ret := none) (own := RX3) (by decide) rfl rfl (Nat.le_of_ble_eq_true rfl) rfl ?_
  intro pp ee ss mm bl me co hmn
  have hfr_0 : ∀ q, (q < b ∨ b + 9 ≤ q) → g q = g q := fun _ _ => rfl
  refine w_aload_n dX3_keep_0 rfl 0 rfl ?_
  refine w_get (i := 2) (T := TX3) (NF := 4) b (by first | omega | with_reducible rfl) hp.1 rfl (fun _ h => (List.mem_cons_of_mem _ (List.mem_append_left _ (List.mem_append_right _ h)))) (by decide) (List.mem_of_getElem? (i := 1) rfl) rfl dX3_keep_1 ?_
  refine w_if_lt 16 dX3_keep_4 (by decide) (by first | omega | with_reducible rfl) (fun c_4 => ?_) (fun c_4 => ?_)
  · exfalso; omega
  · refine w_aload_n dX3_keep_7 rfl 0 rfl ?_
    refine w_get (i := 2) (T := TX3) (NF := 4) b (by first | omega | with_reducible rfl) hp.1 rfl (fun _ h => (List.mem_cons_of_mem _ (List.mem_append_left _ (List.mem_append_right _ h)))) (by decide) (List.mem_of_getElem? (i := 1) rfl) rfl dX3_keep_8 ?_
    refine w_bipush dX3_keep_11 (by decide) ?_
    refine w_icmp_lt 17 dX3_keep_13 (by decide) (by first | omega | with_reducible rfl) (by first | omega | with_reducible rfl) (fun c_13 => ?_) (fun c_13 => ?_)
    · refine w_aload_n dX3_keep_17 rfl 0 rfl ?_
      refine w_get (i := 0) (T := TX3) (NF := 4) b (by first | omega | with_reducible rfl) hp.1 rfl (fun _ h => (List.mem_cons_of_mem _ (List.mem_append_left _ (List.mem_append_right _ h)))) (by decide) (List.mem_of_getElem? (i := 2) rfl) rfl dX3_keep_18 ?_
      refine w_aload_n dX3_keep_21 rfl 0 rfl ?_
      refine w_get (i := 2) (T := TX3) (NF := 4) b (by first | omega | with_reducible rfl) hp.1 rfl (fun _ h => (List.mem_cons_of_mem _ (List.mem_append_left _ (List.mem_append_right _ h)))) (by decide) (List.mem_of_getElem? (i := 1) rfl) rfl dX3_keep_22 ?_
      refine w_iload_n dX3_keep_25 rfl 1 rfl ?_
      refine w_iast (b + 1) (by first | omega | with_reducible rfl) hp.2.1 (by first | omega | with_reducible rfl) dX3_keep_26 (fun g_1 he_2 hn_3 => ?_)
      have hp_4 : vPast cy B g_1 b (uZ wh ((nx : Nat) : Int) s) Rw nx sz := ⟨((hn_3 _ (by omega)).trans hp.1), he_2, ((hn_3 _ (by omega)).trans hp.2.2.1), (fun k hk => (hn_3 _ (by omega)).trans (hp.2.2.2 k hk))⟩
      have hc_5 : vCol cy B g_1 cb sets n ver T X V Wy := vCol_fr hc (fun q h1 h2 => hn_3 q (by omega))
      have hfr_6 : ∀ q, (q < b ∨ b + 9 ≤ q) → g_1 q = g q := fun q hq => (hn_3 q (by omega)).trans (hfr_0 q hq)
      refine w_iconst dX3_keep_27 ?_
      refine w_istore_n [(3, .int (zI 0)), (0, .ref (B + b)), (1, .int (zI s)), (2, .ref (B + cb))] dX3_keep_28 rfl (by decide) rfl ?_
      refine w_sub [(0, .ref (B + b)), (1, .int (zI s)), (2, .ref (B + cb)), (3, .int (zI 0))] [1, 2, 3, 0] rfl ?_
      refine w_lv (lv' := [(0, .ref (B + b)), (1, .int (zI s)), (2, .ref (B + cb)), (3, .int (zI ((0 : Nat) : Int)))]) (lc_s (lc_s (lc_s (lc_i (by first | omega | with_reducible rfl) rfl)))) ?_
      refine w_loop3 (fun (k : Nat) (Rn : Int → Int) (gl_7 : (Nat → va_E)) => vPast cy B gl_7 b (uZ wh ((nx : Nat) : Int) s) (uF Rw nx Rn) nx sz ∧ vCol cy B gl_7 cb sets n ver T X V Wy ∧ (∀ q, (q < b ∨ b + 9 ≤ q) → gl_7 q = g q) ∧ k ≤ 5 ∧ (∀ j : Int, 0 ≤ j → j < k → Rn j = inA n X j ∧ Rn (5 + j) = inA n V j)) (fun (k : Nat) (Rn : Int → Int) (gl_7 : (Nat → va_E)) => 5 - k) (fun (k : Nat) (Rn : Int → Int) (gl_7 : (Nat → va_E)) => gl_7) (fun (k : Nat) (Rn : Int → Int) (gl_7 : (Nat → va_E)) => [(0, .ref (B + b)), (1, .int (zI s)), (2, .ref (B + cb)), (3, .int (zI ((k : Nat) : Int)))]) ?_ 0 (Rw nx) g_1 ⟨(by have h9 := hp_4; rw [uF_id]; exact h9), hc_5, hfr_6, (by first | omega | with_reducible rfl), (fun j h1 h2 => by omega)⟩
      rintro k Rn gl_7 ⟨hp_8, hc_9, hfr_10, hk, hr⟩ ih_29
      refine w_iload_n dX3_keep_29 rfl 3 rfl ?_
      refine w_iconst dX3_keep_30 ?_
      refine w_icmp_ge 74 dX3_keep_31 (by decide) (by first | omega | with_reducible rfl) (by first | omega | with_reducible rfl) (fun c_31 => ?_) (fun c_31 => ?_)
      · refine w_aload_n dX3_keep_74 rfl 0 rfl ?_
        refine w_aload_n dX3_keep_75 rfl 0 rfl ?_
        refine w_get (i := 2) (T := TX3) (NF := 4) b (by first | omega | with_reducible rfl) hp_8.1 rfl (fun _ h => (List.mem_cons_of_mem _ (List.mem_append_left _ (List.mem_append_right _ h)))) (by decide) (List.mem_of_getElem? (i := 1) rfl) rfl dX3_keep_76 ?_
        refine w_iconst dX3_keep_79 ?_
        refine w_iadd dX3_keep_80 ?_
        refine w_bipush dX3_keep_81 (by decide) ?_
        refine w_icmp_ge 95 dX3_keep_83 (by decide) (by first | omega | with_reducible rfl) (by first | omega | with_reducible rfl) (fun c_83 => ?_) (fun c_83 => ?_)
        · refine w_iconst dX3_keep_95 ?_
          refine w_as (st' := [.int (zI (((if nx + 1 < 6 then nx + 1 else 0) : Nat) : Int)), .ref (B + b)]) (sc_i (by first | (rw [if_pos (by omega)]; omega) | (rw [if_neg (by omega)]; omega)) rfl) ?_
          refine w_put (i := 2) (T := TX3) (NF := 4) b (by first | omega | with_reducible rfl) hp_8.1 rfl (fun _ h => (List.mem_cons_of_mem _ (List.mem_append_left _ (List.mem_append_right _ h)))) tyX3 tyX3_ok nmX3 (by decide) (List.mem_of_getElem? (i := 1) rfl) rfl rfl rfl (Nat.le_of_ble_eq_true rfl) dX3_keep_96 (fun g_11 he_12 hn_13 => ?_)
          have hp_14 : vPast cy B g_11 b (uZ wh ((nx : Nat) : Int) s) (uF Rw nx Rn) (if nx + 1 < 6 then nx + 1 else 0) sz := ⟨he_12, ((hn_13 _ (by omega)).trans hp_8.2.1), ((hn_13 _ (by omega)).trans hp_8.2.2.1), (fun k hk => (hn_13 _ (by omega)).trans (hp_8.2.2.2 k hk))⟩
          have hc_15 : vCol cy B g_11 cb sets n ver T X V Wy := vCol_fr hc_9 (fun q h1 h2 => hn_13 q (by omega))
          have hfr_16 : ∀ q, (q < b ∨ b + 9 ≤ q) → g_11 q = g q := fun q hq => (hn_13 q (by omega)).trans (hfr_10 q hq)
          refine w_aload_n dX3_keep_99 rfl 0 rfl ?_
          refine w_aload_n dX3_keep_100 rfl 0 rfl ?_
          refine w_get (i := 3) (T := TX3) (NF := 4) b (by first | omega | with_reducible rfl) hp_14.1 rfl (fun _ h => (List.mem_cons_of_mem _ (List.mem_append_left _ (List.mem_append_right _ h)))) (by decide) (List.mem_of_getElem? (i := 4) rfl) rfl dX3_keep_101 ?_
          refine w_iconst dX3_keep_104 ?_
          refine w_iadd dX3_keep_105 ?_
          refine w_bipush dX3_keep_106 (by decide) ?_
          refine w_mmin (List.mem_of_getElem? (i := 5) rfl) (List.mem_of_getElem? (i := 6) rfl) (List.mem_of_getElem? (i := 7) rfl) (List.mem_of_getElem? (i := 8) rfl) (Nat.le_of_ble_eq_true rfl) (Nat.le_of_ble_eq_true rfl) ⟨Nat.zero_le _, Nat.zero_le _⟩ (by first | omega | with_reducible rfl) (by first | omega | with_reducible rfl) dX3_keep_108 ?_
          refine w_as (st' := [.int (zI ((min (sz + 1) 6 : Nat) : Int)), .ref (B + b)]) (sc_i (by omega) rfl) ?_
          refine w_put (i := 3) (T := TX3) (NF := 4) b (by first | omega | with_reducible rfl) hp_14.1 rfl (fun _ h => (List.mem_cons_of_mem _ (List.mem_append_left _ (List.mem_append_right _ h)))) tyX3 tyX3_ok nmX3 (by decide) (List.mem_of_getElem? (i := 4) rfl) rfl rfl rfl (Nat.le_of_ble_eq_true rfl) dX3_keep_111 (fun g_17 he_18 hn_19 => ?_)
          have hp_20 : vPast cy B g_17 b (uZ wh ((nx : Nat) : Int) s) (uF Rw nx Rn) (if nx + 1 < 6 then nx + 1 else 0) (min (sz + 1) 6) := ⟨he_18, ((hn_19 _ (by omega)).trans hp_14.2.1), ((hn_19 _ (by omega)).trans hp_14.2.2.1), (fun k hk => (hn_19 _ (by omega)).trans (hp_14.2.2.2 k hk))⟩
          have hc_21 : vCol cy B g_17 cb sets n ver T X V Wy := vCol_fr hc_15 (fun q h1 h2 => hn_19 q (by omega))
          have hfr_22 : ∀ q, (q < b ∨ b + 9 ≤ q) → g_17 q = g q := fun q hq => (hn_19 q (by omega)).trans (hfr_16 q hq)
          exact w_vret dX3_keep_114 rfl ⟨Rn, hp_20, (fun j h1 h2 => hr j h1 (by omega)), hfr_22⟩
        · refine w_aload_n dX3_keep_86 rfl 0 rfl ?_
          refine w_get (i := 2) (T := TX3) (NF := 4) b (by first | omega | with_reducible rfl) hp_8.1 rfl (fun _ h => (List.mem_cons_of_mem _ (List.mem_append_left _ (List.mem_append_right _ h)))) (by decide) (List.mem_of_getElem? (i := 1) rfl) rfl dX3_keep_87 ?_
          refine w_iconst dX3_keep_90 ?_
          refine w_iadd dX3_keep_91 ?_
          refine w_goto 96 dX3_keep_92 (by decide) ?_
          refine w_as (st' := [.int (zI (((if nx + 1 < 6 then nx + 1 else 0) : Nat) : Int)), .ref (B + b)]) (sc_i (by first | (rw [if_pos (by omega)]; omega) | (rw [if_neg (by omega)]; omega)) rfl) ?_
          refine w_put (i := 2) (T := TX3) (NF := 4) b (by first | omega | with_reducible rfl) hp_8.1 rfl (fun _ h => (List.mem_cons_of_mem _ (List.mem_append_left _ (List.mem_append_right _ h)))) tyX3 tyX3_ok nmX3 (by decide) (List.mem_of_getElem? (i := 1) rfl) rfl rfl rfl (Nat.le_of_ble_eq_true rfl) dX3_keep_96 (fun g_23 he_24 hn_25 => ?_)
          have hp_26 : vPast cy B g_23 b (uZ wh ((nx : Nat) : Int) s) (uF Rw nx Rn) (if nx + 1 < 6 then nx + 1 else 0) sz := ⟨he_24, ((hn_25 _ (by omega)).trans hp_8.2.1), ((hn_25 _ (by omega)).trans hp_8.2.2.1), (fun k hk => (hn_25 _ (by omega)).trans (hp_8.2.2.2 k hk))⟩
          have hc_27 : vCol cy B g_23 cb sets n ver T X V Wy := vCol_fr hc_9 (fun q h1 h2 => hn_25 q (by omega))
          have hfr_28 : ∀ q, (q < b ∨ b + 9 ≤ q) → g_23 q = g q := fun q hq => (hn_25 q (by omega)).trans (hfr_10 q hq)
          refine w_aload_n dX3_keep_99 rfl 0 rfl ?_
          refine w_aload_n dX3_keep_100 rfl 0 rfl ?_
          refine w_get (i := 3) (T := TX3) (NF := 4) b (by first | omega | with_reducible rfl) hp_26.1 rfl (fun _ h => (List.mem_cons_of_mem _ (List.mem_append_left _ (List.mem_append_right _ h)))) (by decide) (List.mem_of_getElem? (i := 4) rfl) rfl dX3_keep_101 ?_
          refine w_iconst dX3_keep_104 ?_
          refine w_iadd dX3_keep_105 ?_
          refine w_bipush dX3_keep_106 (by decide) ?_
          refine w_mmin (List.mem_of_getElem? (i := 5) rfl) (List.mem_of_getElem? (i := 6) rfl) (List.mem_of_getElem? (i := 7) rfl) (List.mem_of_getElem? (i := 8) rfl) (Nat.le_of_ble_eq_true rfl) (Nat.le_of_ble_eq_true rfl) ⟨Nat.zero_le _, Nat.zero_le _⟩ (by first | omega | with_reducible rfl) (by first | omega | with_reducible rfl) dX3_keep_108 ?_
          refine w_as (st' := [.int (zI ((min (sz + 1) 6 : Nat) : Int)), .ref (B + b)]) (sc_i (by omega) rfl) ?_
          refine w_put (i := 3) (T := TX3) (NF := 4) b (by first | omega | with_reducible rfl) hp_26.1 rfl (fun _ h => (List.mem_cons_of_mem _ (List.mem_append_left _ (List.mem_append_right _ h)))) tyX3 tyX3_ok nmX3 (by decide) (List.mem_of_getElem? (i := 4) rfl) rfl rfl rfl (Nat.le_of_ble_eq_true rfl) dX3_keep_111 (fun g_29 he_30 hn_31 => ?_)
          have hp_32 : vPast cy B g_29 b (uZ wh ((nx : Nat) : Int) s) (uF Rw nx Rn) (if nx + 1 < 6 then nx + 1 else 0) (min (sz + 1) 6) := ⟨he_30, ((hn_31 _ (by omega)).trans hp_26.2.1), ((hn_31 _ (by omega)).trans hp_26.2.2.1), (fun k hk => (hn_31 _ (by omega)).trans (hp_26.2.2.2 k hk))⟩
          have hc_33 : vCol cy B g_29 cb sets n ver T X V Wy := vCol_fr hc_27 (fun q h1 h2 => hn_31 q (by omega))
          have hfr_34 : ∀ q, (q < b ∨ b + 9 ≤ q) → g_29 q = g q := fun q hq => (hn_31 q (by omega)).trans (hfr_28 q hq)
          exact w_vret dX3_keep_114 rfl ⟨Rn, hp_32, (fun j h1 h2 => hr j h1 (by omega)), hfr_34⟩
      · refine w_aload_n dX3_keep_34 rfl 0 rfl ?_
        refine w_get (i := 1) (T := TX3) (NF := 4) b (by first | omega | with_reducible rfl) hp_8.1 rfl (fun _ h => (List.mem_cons_of_mem _ (List.mem_append_left _ (List.mem_append_right _ h)))) (by decide) (List.mem_of_getElem? (i := 3) rfl) rfl dX3_keep_35 ?_
        refine w_aload_n dX3_keep_38 rfl 0 rfl ?_
        refine w_get (i := 2) (T := TX3) (NF := 4) b (by first | omega | with_reducible rfl) hp_8.1 rfl (fun _ h => (List.mem_cons_of_mem _ (List.mem_append_left _ (List.mem_append_right _ h)))) (by decide) (List.mem_of_getElem? (i := 1) rfl) rfl dX3_keep_39 ?_
        refine w_aald (j := nx) (k' := (b + (nx + 3))) (b + 2) (by first | omega | with_reducible rfl) hp_8.2.2.1 rfl rfl (by first | omega | with_reducible rfl) (by first | omega | with_reducible rfl) (by first | omega | with_reducible rfl) dX3_keep_42 ?_
        refine w_iload_n dX3_keep_43 rfl 3 rfl ?_
        refine w_aload_n dX3_keep_44 rfl 2 rfl ?_
        refine w_iload_n dX3_keep_45 rfl 3 rfl ?_
        refine w_calli (As := [.int (zI ((k : Nat) : Int))]) (rest := [.int (zI ((k : Nat) : Int)), .ref (B + (b + (nx + 3)))]) (n := 1) (c_X0_aboveOf hc_9 (by first | omega | with_reducible rfl) (by first | omega | with_reducible rfl) (by first | omega | with_reducible rfl)) gX3_keep_X0_aboveOf rfl rfl rfl (by decide +kernel) ⟨Nat.le_of_ble_eq_true rfl, Nat.le_of_ble_eq_true rfl⟩ rfl (by first | omega | with_reducible rfl) hc_9.1 rfl (Nat.le_of_ble_eq_true rfl) ⟨Nat.zero_le _, Nat.zero_le _⟩ dX3_keep_46 rfl (fun g_35 hp_36 => ?_)
        subst g_35
        refine w_iast (b + (nx + 3)) (by first | omega | with_reducible rfl) (hp_8.2.2.2 nx (by first | omega | with_reducible rfl)) (by first | omega | with_reducible rfl) dX3_keep_49 (fun g_37 he_38 hn_39 => ?_)
        have hp_40 : vPast cy B g_37 b (uZ wh ((nx : Nat) : Int) s) (uF (uF Rw nx Rn) nx (uZ ((uF Rw nx Rn) nx) ((k : Nat) : Int) (inA n X ((k : Nat) : Int)))) nx sz := ⟨((hn_39 _ (by omega)).trans hp_8.1), ((hn_39 _ (by omega)).trans hp_8.2.1), ((hn_39 _ (by omega)).trans hp_8.2.2.1), (fam_put (F := fun z9 => cI (cy 1) 10 z9) (P := (uF Rw nx Rn)) (b := b) (o := 3) hp_8.2.2.2 he_38 hn_39)⟩
        have hc_41 : vCol cy B g_37 cb sets n ver T X V Wy := vCol_fr hc_9 (fun q h1 h2 => hn_39 q (by omega))
        have hfr_42 : ∀ q, (q < b ∨ b + 9 ≤ q) → g_37 q = g q := fun q hq => (hn_39 q (by omega)).trans (hfr_10 q hq)
        refine w_aload_n dX3_keep_50 rfl 0 rfl ?_
        refine w_get (i := 1) (T := TX3) (NF := 4) b (by first | omega | with_reducible rfl) hp_40.1 rfl (fun _ h => (List.mem_cons_of_mem _ (List.mem_append_left _ (List.mem_append_right _ h)))) (by decide) (List.mem_of_getElem? (i := 3) rfl) rfl dX3_keep_51 ?_
        refine w_aload_n dX3_keep_54 rfl 0 rfl ?_
        refine w_get (i := 2) (T := TX3) (NF := 4) b (by first | omega | with_reducible rfl) hp_40.1 rfl (fun _ h => (List.mem_cons_of_mem _ (List.mem_append_left _ (List.mem_append_right _ h)))) (by decide) (List.mem_of_getElem? (i := 1) rfl) rfl dX3_keep_55 ?_
        refine w_aald (j := nx) (k' := (b + (nx + 3))) (b + 2) (by first | omega | with_reducible rfl) hp_40.2.2.1 rfl rfl (by first | omega | with_reducible rfl) (by first | omega | with_reducible rfl) (by first | omega | with_reducible rfl) dX3_keep_58 ?_
        refine w_iconst dX3_keep_59 ?_
        refine w_iload_n dX3_keep_60 rfl 3 rfl ?_
        refine w_iadd dX3_keep_61 ?_
        refine w_aload_n dX3_keep_62 rfl 2 rfl ?_
        refine w_iload_n dX3_keep_63 rfl 3 rfl ?_
        refine w_calli (As := [.int (zI ((k : Nat) : Int))]) (rest := [.int (zI (5 + ((k : Nat) : Int))), .ref (B + (b + (nx + 3)))]) (n := 1) (c_X0_scoreOf hc_41 (by first | omega | with_reducible rfl) (by first | omega | with_reducible rfl) (by first | omega | with_reducible rfl)) gX3_keep_X0_scoreOf rfl rfl rfl (by decide +kernel) ⟨Nat.le_of_ble_eq_true rfl, Nat.le_of_ble_eq_true rfl⟩ rfl (by first | omega | with_reducible rfl) hc_41.1 rfl (Nat.le_of_ble_eq_true rfl) ⟨Nat.zero_le _, Nat.zero_le _⟩ dX3_keep_64 rfl (fun g_43 hp_44 => ?_)
        subst g_43
        refine w_iast (b + (nx + 3)) (by first | omega | with_reducible rfl) (hp_40.2.2.2 nx (by first | omega | with_reducible rfl)) (by first | omega | with_reducible rfl) dX3_keep_67 (fun g_45 he_46 hn_47 => ?_)
        have hp_48 : vPast cy B g_45 b (uZ wh ((nx : Nat) : Int) s) (uF (uF (uF Rw nx Rn) nx (uZ ((uF Rw nx Rn) nx) ((k : Nat) : Int) (inA n X ((k : Nat) : Int)))) nx (uZ ((uF (uF Rw nx Rn) nx (uZ ((uF Rw nx Rn) nx) ((k : Nat) : Int) (inA n X ((k : Nat) : Int)))) nx) (5 + ((k : Nat) : Int)) (inA n V ((k : Nat) : Int)))) nx sz := ⟨((hn_47 _ (by omega)).trans hp_40.1), ((hn_47 _ (by omega)).trans hp_40.2.1), ((hn_47 _ (by omega)).trans hp_40.2.2.1), (fam_put (F := fun z9 => cI (cy 1) 10 z9) (P := (uF (uF Rw nx Rn) nx (uZ ((uF Rw nx Rn) nx) ((k : Nat) : Int) (inA n X ((k : Nat) : Int))))) (b := b) (o := 3) hp_40.2.2.2 he_46 hn_47)⟩
        have hc_49 : vCol cy B g_45 cb sets n ver T X V Wy := vCol_fr hc_41 (fun q h1 h2 => hn_47 q (by omega))
        have hfr_50 : ∀ q, (q < b ∨ b + 9 ≤ q) → g_45 q = g q := fun q hq => (hn_47 q (by omega)).trans (hfr_42 q hq)
        refine w_iinc 3 [(3, .int (zI (((k : Nat) : Int) + 1))), (0, .ref (B + b)), (1, .int (zI s)), (2, .ref (B + cb))] dX3_keep_68 rfl (by decide) rfl ?_
        refine w_goto 29 dX3_keep_71 (by decide) ?_
        refine w_sub [(0, .ref (B + b)), (1, .int (zI s)), (2, .ref (B + cb)), (3, .int (zI (((k : Nat) : Int) + 1)))] [1, 2, 3, 0] rfl ?_
        refine w_lv (lv' := [(0, .ref (B + b)), (1, .int (zI s)), (2, .ref (B + cb)), (3, .int (zI (((k + 1) : Nat) : Int)))]) (lc_s (lc_s (lc_s (lc_i (by first | omega | with_reducible rfl) rfl)))) ?_
        exact ih_29 (k + 1) (uZ (uZ Rn ((k : Nat) : Int) (inA n X ((k : Nat) : Int))) (5 + ((k : Nat) : Int)) (inA n V ((k : Nat) : Int))) g_45 ⟨(by have h9 := hp_48; simp only [uF_uF, uF_same] at h9; exact h9), hc_49, hfr_50, (by first | omega | with_reducible rfl), (keep_st (by omega) hr)⟩ (by first | omega | with_reducible rfl)
    · exfalso; omega
