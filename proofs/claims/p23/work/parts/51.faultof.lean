/-! ===== Reader: an item, the whole text ===== -/
theorem psF_end {n : Nat} {L : Int → Int} {f : Nat} {p : Int} {S : St} (h : ¬ p < n) : psF n L (f + 1) p S = (-1, S) := by
  rw [psF, if_neg h]
theorem psF_go {n : Nat} {L : Int → Int} {f : Nat} {p : Int} {S : St} {q : Int × St} (h : p < n) (hq : psI n L p S = some q) : psF n L (f + 1) p S = psF n L f q.1 q.2 := by
  rw [psF, if_pos h, hq]
theorem psF_no {n : Nat} {L : Int → Int} {f : Nat} {p : Int} {S : St} (h : p < n) (hq : psI n L p S = none) : psF n L (f + 1) p S = (p, S) := by
  rw [psF, if_pos h, hq]
theorem psI_rg {n : Nat} {L : Int → Int} {p : Int} {S : St} {v : Int × St} (hp : 0 ≤ p) (h : psI n L p S = some v) (hS : S.length ≤ 3) : p + 2 ≤ v.1 ∧ v.1 ≤ n ∧ v.2.length ≤ 3 := by
  unfold psI at h
  by_cases h1 : inA n L p = 115
  · rw [if_pos h1] at h
    by_cases h2 : inA n L (p + 1) = 59 ∧ S.length < 3
    · rw [if_pos h2] at h
      have hv := Option.some.inj h
      subst hv
      have h3 : 0 ≤ p + 1 ∧ p + 1 < n := by
        rcases Classical.em (0 ≤ p + 1 ∧ p + 1 < n) with q | q
        · exact q
        · have := h2.1
          rw [inA_out q] at this
          omega
      refine ⟨Int.le_refl _, by show p + 2 ≤ _; omega, ?_⟩
      show (S ++ [[]]).length ≤ 3
      rw [List.length_append]
      exact h2.2
    · rw [if_neg h2] at h
      exact absurd h (by simp)
  · rw [if_neg h1] at h
    by_cases h2 : vcol n L p ∧ 0 < S.length ∧ (S.getLastD []).length < 5
    · rw [if_pos h2] at h
      have hv := Option.some.inj h
      subst hv
      have h5 := h2.1.1.2.2.2
      have hig := i_rg n L p
      have h6 : 0 ≤ i6 n L p ∧ i6 n L p < n := by
        rcases Classical.em (0 ≤ i6 n L p ∧ i6 n L p < n) with q | q
        · exact q
        · rw [inA_out q] at h5
          omega
      have h7 : i7 n L p = i6 n L p + 1 := by
        unfold i7 skp
        rw [if_pos h5]
      have h8 : (addc S (iT n L p, iX n L p, iV n L p)).length = S.length := by
        unfold addc
        rw [List.length_append, List.length_dropLast]
        show _ - 1 + 1 = _
        omega
      refine ⟨by show p + 2 ≤ i7 n L p; omega, by show i7 n L p ≤ _; omega, ?_⟩
      show (addc S _).length ≤ 3
      omega
    · rw [if_neg h2] at h
      exact absurd h (by simp)
theorem psF_S {n : Nat} {L : Int → Int} : ∀ {f : Nat} {p : Int} {S : St}, 0 ≤ p → S.length ≤ 3 → (psF n L f p S).2.length ≤ 3 ∧ -1 ≤ (psF n L f p S).1 ∧ (psF n L f p S).1 < n
  | 0, p, S, _, h => ⟨h, Int.le_refl _, by show (-1 : Int) < _; omega⟩
  | f + 1, p, S, hp, h => by
    rw [psF]
    by_cases h1 : p < n
    · rw [if_pos h1]
      cases hq : psI n L p S with
      | none => exact ⟨h, by show -1 ≤ p; omega, h1⟩
      | some v =>
        have := psI_rg hp hq h
        exact psF_S (by omega) this.2.2
    · rw [if_neg h1]
      exact ⟨h, Int.le_refl _, by show (-1 : Int) < _; omega⟩
theorem c_X5_item {l : Launch} {D : va_G} {cy : Nat → ClassId} {B N : Nat} {g : Nat → va_E} {rb sr : Nat} {pl : Int} {tb n : Nat} {L : Int → Int} {sets : Nat} {dn : Nat → Nat} {dv : Nat → Int} {dT dX dV : Nat → Int → Int} {dW : Nat → Nat → Int → Int} {Cn : Nat → Int → Int} {S : St} (hr : vReader cy B g rb sr pl) (ht : vText cy B g tb n L) (hd : vDr cy B g (rb + 2) sets dn dv dT dX dV dW) (hs : vSets cy B g sets Cn) (hR : rb + 2 ≤ N) (hT : tb + 2 ≤ N) (hn : n ≤ 200) (hL : ∀ i : Int, 0 ≤ i → i < n → 0 ≤ L i ∧ L i < 65536) (hpl : 0 ≤ pl ∧ pl ≤ 200) (hrt : rb + 2 ≤ tb ∨ tb + 2 ≤ rb) (hD : rb + 32 ≤ N) (hdt : tb + 2 ≤ rb ∨ rb + 32 ≤ tb) (hSn : sets + 15 ≤ N) (hsd : sets + 15 ≤ rb ∨ rb + 32 ≤ sets) (hRD : RD S Cn dn dT dX dV dW) (hsr : sr = S.length) (hS3 : S.length ≤ 3) : CTi l yX5_readItem wsX5_readItem (rmo 3 70) D cy B N g [.ref (B + rb), .ref (B + tb)] (if (psI n L pl S).isSome = true then 1 else 0) (fun g' => ∃ sr1 : Nat, ∃ pl1 : Int, ∃ dn1 : Nat → Nat, ∃ dv1 : Nat → Int, ∃ dT1 : Nat → Int → Int, ∃ dX1 : Nat → Int → Int, ∃ dV1 : Nat → Int → Int, ∃ dW1 : Nat → Nat → Int → Int, vReader cy B g' rb sr1 pl1 ∧ vDr cy B g' (rb + 2) sets dn1 dv1 dT1 dX1 dV1 dW1 ∧ (∀ v, (psI n L pl S) = some v → pl1 = v.1 ∧ sr1 = v.2.length ∧ RD v.2 Cn dn1 dT1 dX1 dV1 dW1) ∧ (sr1 ≤ 3) ∧ (0 ≤ pl1 ∧ pl1 ≤ 1000) ∧ (∀ q, (q < rb ∨ rb + 32 ≤ q) → g' q = g q)) := by
  rcases S.eq_nil_or_concat with h0 | ⟨A, x, hAx⟩
  · by_cases h1 : inA n L pl = 115
    · by_cases h2 : inA n L (pl + 1) = 59 ∧ S.length < 3
      · have hp : psI n L pl S = some (pl + 2, S ++ [[]]) := by unfold psI; rw [if_pos h1, if_pos h2]
        refine CTi_mono (c_X5_item_s hr ht hd hR hT hn hL hpl hrt hD (by omega) hdt h1 h2.1 (by omega)) (by rw [hp]; rfl) ?_
        rintro g' ⟨h5, h6, h7⟩
        refine ⟨_, _, _, _, _, _, _, _, h5, h6, ?_, by omega, by omega, h7⟩
        intro v hv
        rw [hp] at hv
        have hv' := Option.some.inj hv
        subst hv'
        refine ⟨rfl, by simp [hsr], ?_⟩
        simp only [uF_id, hsr]
        exact RD_s hRD
      · have hp : psI n L pl S = none := by unfold psI; rw [if_pos h1, if_neg h2]
        refine CTi_mono (c_X5_item_nos hr ht hd hR hT hn hL hpl hrt (by omega) hD hdt h1 (fun q => h2 ⟨q.1, by omega⟩)) (by rw [hp]; rfl) ?_
        rintro g' ⟨pl1, h5, h6, h7⟩
        refine ⟨_, _, _, _, _, _, _, _, h5, vDr_fr hd (fun q _ _ => h7 q (by omega)), ?_, by omega, h6, fun q hq => h7 q (by omega)⟩
        intro v hv
        rw [hp] at hv
        exact absurd hv (by simp)
    · have hs0 : sr = 0 := by rw [hsr, h0]; rfl
      have hp : psI n L pl S = none := by unfold psI; rw [if_neg h1, if_neg (fun q => by have := q.2.1; omega)]
      refine CTi_mono (c_X5_item_no0 hr ht hd hR hT hn hL hpl hrt (by omega) hD hdt h1 hs0) (by rw [hp]; rfl) ?_
      rintro g' ⟨pl1, h5, h6, h7⟩
      refine ⟨_, _, _, _, _, _, _, _, h5, vDr_fr hd (fun q _ _ => h7 q (by omega)), ?_, by omega, h6, fun q hq => h7 q (by omega)⟩
      intro v hv
      rw [hp] at hv
      exact absurd hv (by simp)
  · rw [List.concat_eq_append] at hAx
    have hl : S.length = A.length + 1 := by rw [hAx]; simp
    have hsA : sr - 1 = A.length := by omega
    have hL9 : S.getLastD [] = x := by rw [hAx]; exact List.getLastD_concat ..
    have hRx := hRD A.length (by omega)
    have hgx : S.getD A.length [] = x := by rw [hAx]; exact gD_e
    rw [hgx] at hRx
    by_cases h1 : inA n L pl = 115
    · by_cases h2 : inA n L (pl + 1) = 59 ∧ S.length < 3
      · have hp : psI n L pl S = some (pl + 2, S ++ [[]]) := by unfold psI; rw [if_pos h1, if_pos h2]
        refine CTi_mono (c_X5_item_s hr ht hd hR hT hn hL hpl hrt hD (by omega) hdt h1 h2.1 (by omega)) (by rw [hp]; rfl) ?_
        rintro g' ⟨h5, h6, h7⟩
        refine ⟨_, _, _, _, _, _, _, _, h5, h6, ?_, by omega, by omega, h7⟩
        intro v hv
        rw [hp] at hv
        have hv' := Option.some.inj hv
        subst hv'
        refine ⟨rfl, by simp [hsr], ?_⟩
        simp only [uF_id, hsr]
        exact RD_s hRD
      · have hp : psI n L pl S = none := by unfold psI; rw [if_pos h1, if_neg h2]
        refine CTi_mono (c_X5_item_nos hr ht hd hR hT hn hL hpl hrt (by omega) hD hdt h1 (fun q => h2 ⟨q.1, by omega⟩)) (by rw [hp]; rfl) ?_
        rintro g' ⟨pl1, h5, h6, h7⟩
        refine ⟨_, _, _, _, _, _, _, _, h5, vDr_fr hd (fun q _ _ => h7 q (by omega)), ?_, by omega, h6, fun q hq => h7 q (by omega)⟩
        intro v hv
        rw [hp] at hv
        exact absurd hv (by simp)
    · by_cases h2 : vcol n L pl ∧ dn (sr - 1) < 5
      · have h3 : vcol n L pl ∧ 0 < S.length ∧ (S.getLastD []).length < 5 := ⟨h2.1, by omega, by rw [hL9, ← hRx.1, ← hsA]; exact h2.2⟩
        have hp : psI n L pl S = some (i7 n L pl, addc S (iT n L pl, iX n L pl, iV n L pl)) := by unfold psI; rw [if_neg h1, if_pos h3]
        have hig := i_rg n L pl
        refine CTi_mono (c_X5_item_c hr ht hd hs hR hT hn hL hpl hrt hD (by omega) hdt (by omega) hsd h1 h2.1.1 (by omega) h2.1.2 h2.2) (by rw [hp]; rfl) ?_
        rintro g' ⟨W1, h5, h6, h7, h8⟩
        refine ⟨_, _, _, _, _, _, _, _, h5, h6, ?_, by omega, by omega, h8⟩
        intro v hv
        rw [hp] at hv
        have hv' := Option.some.inj hv
        subst hv'
        subst hAx
        refine ⟨rfl, by show sr = (addc (A ++ [x]) _).length; rw [addc_eq]; simp [hsr], ?_⟩
        show RD (addc (A ++ [x]) _) Cn _ _ _ _ _
        rw [addc_eq, hsA]
        exact RD_c hRD (by have := h2.2; rw [hsA] at this; omega) h7
      · have hp : psI n L pl S = none := by
          unfold psI
          rw [if_neg h1, if_neg (fun q => h2 ⟨q.1, by have := q.2.2; rw [hL9] at this; rw [hsA]; omega⟩)]
        refine CTi_mono (c_X5_item_no1 hr ht hd hs hR hT hn hL hpl hrt (by omega) hD hdt (by omega) hsd h1 (by omega) (by rw [hsA]; omega) (fun q => h2 ⟨⟨q.1, q.2.1⟩, q.2.2⟩)) (by rw [hp]; rfl) ?_
        rintro g' ⟨pl1, h5, h6, h7⟩
        refine ⟨_, _, _, _, _, _, _, _, h5, vDr_fr hd (fun q _ _ => h7 q (by omega)), ?_, by omega, h6, fun q hq => h7 q (by omega)⟩
        intro v hv
        rw [hp] at hv
        exact absurd hv (by simp)
set_option maxHeartbeats 4000000 in
set_option maxRecDepth 100000 in
theorem c_X5_faultOf {l : Launch} {D : va_G} {cy : Nat → ClassId} {B N : Nat} {g : Nat → va_E} {rb sr : Nat} {pl : Int} {tb n : Nat} {L : Int → Int} {sets : Nat} {dn : Nat → Nat} {dv : Nat → Int} {dT dX dV : Nat → Int → Int} {dW : Nat → Nat → Int → Int} {Cn : Nat → Int → Int} (hr : vReader cy B g rb sr pl) (ht : vText cy B g tb n L) (hd : vDr cy B g (rb + 2) sets dn dv dT dX dV dW) (hs : vSets cy B g sets Cn) (hR : rb + 2 ≤ N) (hT : tb + 2 ≤ N) (hn : n ≤ 200) (hL : ∀ i : Int, 0 ≤ i → i < n → 0 ≤ L i ∧ L i < 65536) (hrt : rb + 2 ≤ tb ∨ tb + 2 ≤ rb) (hD : rb + 32 ≤ N) (hdt : tb + 2 ≤ rb ∨ rb + 32 ≤ tb) (hSn : sets + 15 ≤ N) (hsd : sets + 15 ≤ rb ∨ rb + 32 ≤ sets) : CTi l yX5_faultOf wsX5_faultOf (rmo 4 95) D cy B N g [.ref (B + rb), .ref (B + tb)] ((psF n L 200 0 []).1) (fun g' => ∃ sr1 : Nat, ∃ pl1 : Int, ∃ dn1 : Nat → Nat, ∃ dv1 : Nat → Int, ∃ dT1 : Nat → Int → Int, ∃ dX1 : Nat → Int → Int, ∃ dV1 : Nat → Int → Int, ∃ dW1 : Nat → Nat → Int → Int, vReader cy B g' rb sr1 pl1 ∧ vDr cy B g' (rb + 2) sets dn1 dv1 dT1 dX1 dV1 dW1 ∧ (sr1 ≤ 3) ∧ ((psF n L 200 0 []).1 = -1 → sr1 = (psF n L 200 0 []).2.length ∧ RD (psF n L 200 0 []).2 Cn dn1 dT1 dX1 dV1 dW1) ∧ (∀ q, (q < rb ∨ rb + 32 ≤ q) → g' q = g q)) := by
  refine WW_of (cc := cX5_faultOf) (maxL := 4) (ret := (some .int)) (own := RX5) (by decide) rfl rfl (Nat.le_of_ble_eq_true rfl) rfl ?_
  intro pp ee ss mm bl me co hmn
  have hfr_0 : ∀ q, (q < rb ∨ rb + 32 ≤ q) → g q = g q := fun _ _ => rfl
  refine w_aload_n dX5_faultOf_0 rfl 0 rfl ?_
  refine w_iconst dX5_faultOf_1 ?_
  refine w_as (st' := [.int (zI ((0 : Nat) : Int)), .ref (B + rb)]) (sc_i rfl rfl) ?_
  refine w_put (i := 1) (T := TX5) (NF := 3) rb (by first | omega | with_reducible rfl) hr.1 rfl (fun _ h => (List.mem_cons_of_mem _ (List.mem_append_left _ (List.mem_append_left _ (List.mem_append_left _ (List.mem_append_right _ h)))))) tyX5 tyX5_ok nmX5 (by decide) (List.mem_of_getElem? (i := 1) rfl) rfl rfl rfl (Nat.le_of_ble_eq_true rfl) dX5_faultOf_2 (fun g_1 he_2 hn_3 => ?_)
  have hr_4 : vReader cy B g_1 rb 0 pl := ⟨he_2, ((hn_3 _ (by omega)).trans hr.2)⟩
  have ht_5 : vText cy B g_1 tb n L := vText_fr ht (fun q h1 h2 => hn_3 q (by omega))
  have hd_6 : vDr cy B g_1 (rb + 2) sets dn dv dT dX dV dW := vDr_fr hd (fun q h1 h2 => hn_3 q (by omega))
  have hs_7 : vSets cy B g_1 sets Cn := vSets_fr hs (fun q h1 h2 => hn_3 q (by omega))
  have hfr_8 : ∀ q, (q < rb ∨ rb + 32 ≤ q) → g_1 q = g q := fun q hq => (hn_3 q (by omega)).trans (hfr_0 q hq)
  refine w_aload_n dX5_faultOf_5 rfl 0 rfl ?_
  refine w_iconst dX5_faultOf_6 ?_
  refine w_put (i := 2) (T := TX5) (NF := 3) rb (by first | omega | with_reducible rfl) hr_4.1 rfl (fun _ h => (List.mem_cons_of_mem _ (List.mem_append_left _ (List.mem_append_left _ (List.mem_append_left _ (List.mem_append_right _ h)))))) tyX5 tyX5_ok nmX5 (by decide) (List.mem_of_getElem? (i := 2) rfl) rfl rfl rfl (Nat.le_of_ble_eq_true rfl) dX5_faultOf_7 (fun g_9 he_10 hn_11 => ?_)
  have hr_12 : vReader cy B g_9 rb 0 0 := ⟨he_10, ((hn_11 _ (by omega)).trans hr_4.2)⟩
  have ht_13 : vText cy B g_9 tb n L := vText_fr ht_5 (fun q h1 h2 => hn_11 q (by omega))
  have hd_14 : vDr cy B g_9 (rb + 2) sets dn dv dT dX dV dW := vDr_fr hd_6 (fun q h1 h2 => hn_11 q (by omega))
  have hs_15 : vSets cy B g_9 sets Cn := vSets_fr hs_7 (fun q h1 h2 => hn_11 q (by omega))
  have hfr_16 : ∀ q, (q < rb ∨ rb + 32 ≤ q) → g_9 q = g q := fun q hq => (hn_11 q (by omega)).trans (hfr_8 q hq)
  refine w_iconst dX5_faultOf_10 ?_
  refine w_istore_n [(2, .int (zI 0)), (0, .ref (B + rb)), (1, .ref (B + tb))] dX5_faultOf_11 rfl (by decide) rfl ?_
  refine w_sub [(0, .ref (B + rb)), (1, .ref (B + tb)), (2, .int (zI 0))] [1, 2, 0] rfl ?_
  refine w_lv (lv' := [(0, .ref (B + rb)), (1, .ref (B + tb)), (2, .int (zI ((0 : Nat) : Int)))]) (lc_s (lc_s (lc_i (by first | omega | with_reducible rfl) rfl))) ?_
  refine w_loop11 (fun (i : Nat) (pl1 : Int) (S : St) (sr1 : Nat) (dn1 : Nat → Nat) (dv1 : Nat → Int) (dT1 : Nat → Int → Int) (dX1 : Nat → Int → Int) (dV1 : Nat → Int → Int) (dW1 : Nat → Nat → Int → Int) (gl_17 : (Nat → va_E)) => vReader cy B gl_17 rb sr1 pl1 ∧ vText cy B gl_17 tb n L ∧ vDr cy B gl_17 (rb + 2) sets dn1 dv1 dT1 dX1 dV1 dW1 ∧ vSets cy B gl_17 sets Cn ∧ (∀ q, (q < rb ∨ rb + 32 ≤ q) → gl_17 q = g q) ∧ (2 * ((i : Nat) : Int) ≤ pl1 ∧ pl1 ≤ n) ∧ S.length ≤ 3 ∧ sr1 = S.length ∧ RD S Cn dn1 dT1 dX1 dV1 dW1 ∧ psF n L (200 - i) pl1 S = (psF n L 200 0 [])) (fun (i : Nat) (pl1 : Int) (S : St) (sr1 : Nat) (dn1 : Nat → Nat) (dv1 : Nat → Int) (dT1 : Nat → Int → Int) (dX1 : Nat → Int → Int) (dV1 : Nat → Int → Int) (dW1 : Nat → Nat → Int → Int) (gl_17 : (Nat → va_E)) => 200 - i) (fun (i : Nat) (pl1 : Int) (S : St) (sr1 : Nat) (dn1 : Nat → Nat) (dv1 : Nat → Int) (dT1 : Nat → Int → Int) (dX1 : Nat → Int → Int) (dV1 : Nat → Int → Int) (dW1 : Nat → Nat → Int → Int) (gl_17 : (Nat → va_E)) => gl_17) (fun (i : Nat) (pl1 : Int) (S : St) (sr1 : Nat) (dn1 : Nat → Nat) (dv1 : Nat → Int) (dT1 : Nat → Int → Int) (dX1 : Nat → Int → Int) (dV1 : Nat → Int → Int) (dW1 : Nat → Nat → Int → Int) (gl_17 : (Nat → va_E)) => [(0, .ref (B + rb)), (1, .ref (B + tb)), (2, .int (zI ((i : Nat) : Int)))]) ?_ 0 0 ([]) 0 dn dv dT dX dV dW g_9 ⟨hr_12, ht_13, hd_14, hs_15, hfr_16, (by first | omega | with_reducible rfl), (by decide), rfl, RD_nil, rfl⟩
  rintro i pl1 S sr1 dn1 dv1 dT1 dX1 dV1 dW1 gl_17 ⟨hr_18, ht_19, hd_20, hs_21, hfr_22, hi, hS3, hsS, hRD, hps⟩ ih_12
  refine w_iload_n dX5_faultOf_12 rfl 2 rfl ?_
  refine w_sipush dX5_faultOf_13 (by decide) ?_
  refine w_icmp_ge 51 dX5_faultOf_16 (by decide) (by omega) (by first | omega | with_reducible rfl) (fun c_16 => ?_) (fun c_16 => ?_)
  · exfalso; omega
  · refine w_aload_n dX5_faultOf_19 rfl 0 rfl ?_
    refine w_get (i := 2) (T := TX5) (NF := 3) rb (by first | omega | with_reducible rfl) hr_18.1 rfl (fun _ h => (List.mem_cons_of_mem _ (List.mem_append_left _ (List.mem_append_left _ (List.mem_append_left _ (List.mem_append_right _ h)))))) (by decide) (List.mem_of_getElem? (i := 2) rfl) rfl dX5_faultOf_20 ?_
    refine w_aload_n dX5_faultOf_23 rfl 1 rfl ?_
    refine w_calli (As := []) (rest := [.int (zI pl1)]) (n := 0) (c_X9_size ht_19 (by first | omega | with_reducible rfl)) gX5_faultOf_X9_size rfl rfl rfl (by decide +kernel) ⟨Nat.le_of_ble_eq_true rfl, Nat.le_of_ble_eq_true rfl⟩ rfl (by first | omega | with_reducible rfl) ht_19.1 rfl (Nat.le_of_ble_eq_true rfl) ⟨Nat.zero_le _, Nat.zero_le _⟩ dX5_faultOf_24 rfl (fun g_23 hp_24 => ?_)
    subst g_23
    refine w_icmp_ge 51 dX5_faultOf_27 (by decide) (by first | omega | with_reducible rfl) (by first | omega | with_reducible rfl) (fun c_27 => ?_) (fun c_27 => ?_)
    · have hend : psF n L (200 - i) pl1 S = (-1, S) := by rw [show 200 - i = (199 - i) + 1 by omega]; exact psF_end (by omega)
      rw [hend] at hps
      refine w_iconst dX5_faultOf_51 ?_
      exact w_iret dX5_faultOf_52 rfl (by rw [← hps]) ⟨sr1, pl1, dn1, dv1, dT1, dX1, dV1, dW1, hr_18, hd_20, (by omega), (fun _ => by rw [← hps]; exact ⟨hsS, hRD⟩), hfr_22⟩
    · have hpn : pl1 < n := by omega
      refine w_aload_n dX5_faultOf_30 rfl 0 rfl ?_
      refine w_get (i := 2) (T := TX5) (NF := 3) rb (by first | omega | with_reducible rfl) hr_18.1 rfl (fun _ h => (List.mem_cons_of_mem _ (List.mem_append_left _ (List.mem_append_left _ (List.mem_append_left _ (List.mem_append_right _ h)))))) (by decide) (List.mem_of_getElem? (i := 2) rfl) rfl dX5_faultOf_31 ?_
      refine w_istore_n [(3, .int (zI pl1)), (0, .ref (B + rb)), (1, .ref (B + tb)), (2, .int (zI ((i : Nat) : Int)))] dX5_faultOf_34 rfl (by decide) rfl ?_
      refine w_aload_n dX5_faultOf_35 rfl 1 rfl ?_
      refine w_aload_n dX5_faultOf_36 rfl 2 rfl ?_
      refine w_calli (As := [.ref (B + tb)]) (rest := []) (n := 1) (c_X5_item hr_18 ht_19 hd_20 hs_21 (by first | omega | with_reducible rfl) (by first | omega | with_reducible rfl) (by first | omega | with_reducible rfl) (by first | omega | with_reducible rfl) (by first | omega | with_reducible rfl) (by first | omega | with_reducible rfl) (by first | omega | with_reducible rfl) (by first | omega | with_reducible rfl) (by first | omega | with_reducible rfl) (by first | omega | with_reducible rfl) hRD hsS hS3) gX5_faultOf_X5_readItem rfl rfl rfl (by decide +kernel) ⟨Nat.le_of_ble_eq_true rfl, Nat.le_of_ble_eq_true rfl⟩ rfl (by first | omega | with_reducible rfl) hr_18.1 rfl (Nat.le_of_ble_eq_true rfl) ⟨Nat.zero_le _, Nat.zero_le _⟩ dX5_faultOf_37 rfl (fun g_25 hp_26 => ?_)
      obtain ⟨sr1_27, pl1_28, dn1_29, dv1_30, dT1_31, dX1_32, dV1_33, dW1_34, hr_35, hd_36, hit_37, hsr1_37, hpl1_37, hf_37⟩ := hp_26
      have ht_38 : vText cy B g_25 tb n L := vText_fr ht_19 (fun q h1 h2 => hf_37 q (by omega))
      have hs_39 : vSets cy B g_25 sets Cn := vSets_fr hs_21 (fun q h1 h2 => hf_37 q (by omega))
      have hfr_40 : ∀ q, (q < rb ∨ rb + 32 ≤ q) → g_25 q = g q := fun q hq => (hf_37 q (by omega)).trans (hfr_22 q hq)
      refine w_ifneB 45 dX5_faultOf_40 (by decide) (fun c_40 => ?_) (fun c_40 => ?_)
      · obtain ⟨v9, hv9⟩ := Option.isSome_iff_exists.mp c_40
        obtain ⟨h91, h92, h93⟩ := hit_37 v9 hv9
        have hrg9 := psI_rg (by omega) hv9 hS3
        have hps9 : psF n L (200 - (i + 1)) v9.1 v9.2 = (psF n L 200 0 []) := by rw [← hps, show 200 - i = (199 - i) + 1 by omega, psF_go hpn hv9, show 200 - (i + 1) = 199 - i by omega]
        refine w_iinc 3 [(2, .int (zI (((i : Nat) : Int) + 1))), (3, .int (zI pl1)), (0, .ref (B + rb)), (1, .ref (B + tb))] dX5_faultOf_45 rfl (by decide) rfl ?_
        refine w_goto 12 dX5_faultOf_48 (by decide) ?_
        refine w_sub [(0, .ref (B + rb)), (1, .ref (B + tb)), (2, .int (zI (((i : Nat) : Int) + 1)))] [2, 3, 0] rfl ?_
        refine w_lv (lv' := [(0, .ref (B + rb)), (1, .ref (B + tb)), (2, .int (zI (((i + 1) : Nat) : Int)))]) (lc_s (lc_s (lc_i (by first | omega | with_reducible rfl) rfl))) ?_
        exact ih_12 (i + 1) pl1_28 (v9.2) sr1_27 dn1_29 dv1_30 dT1_31 dX1_32 dV1_33 dW1_34 g_25 ⟨hr_35, ht_38, hd_36, hs_39, hfr_40, (by rw [h91]; omega), hrg9.2.2, h92, h93, (by rw [h91]; exact hps9)⟩ (by first | omega | with_reducible rfl)
      · have hn9 : psI n L pl1 S = none := by cases hq : psI n L pl1 S with | none => rfl | some q => exact absurd (by rw [hq]; rfl) c_40
        have hfe : (psF n L 200 0 []) = (pl1, S) := by rw [← hps, show 200 - i = (199 - i) + 1 by omega, psF_no hpn hn9]
        refine w_iload_n dX5_faultOf_43 rfl 0 rfl ?_
        exact w_iret dX5_faultOf_44 rfl (by rw [hfe]) ⟨sr1_27, pl1_28, dn1_29, dv1_30, dT1_31, dX1_32, dV1_33, dW1_34, hr_35, hd_36, (by first | omega | assumption), (fun q => by rw [hfe] at q; exact absurd (show pl1 = -1 from q) (by omega)), hfr_40⟩
set_option maxHeartbeats 4000000 in
set_option maxRecDepth 100000 in
theorem c_X5_canBeLaid {l : Launch} {D : va_G} {cy : Nat → ClassId} {B N : Nat} {g : Nat → va_E} {rb sr : Nat} {pl : Int} {sets : Nat} {dn : Nat → Nat} {dv : Nat → Int} {dT dX dV : Nat → Int → Int} {dW : Nat → Nat → Int → Int} {Cn : Nat → Int → Int} {S : St} (hr : vReader cy B g rb sr pl) (hd : vDr cy B g (rb + 2) sets dn dv dT dX dV dW) (hR : rb + 2 ≤ N) (hD : rb + 32 ≤ N) (hRD : RD S Cn dn dT dX dV dW) (hsr : sr = S.length) (hS3 : S.length ≤ 3) : CTi l yX5_canBeLaid wsX5_canBeLaid (rmo 1 21) D cy B N g [.ref (B + rb)] (if (∀ k : Nat, k < S.length → 2 ≤ (S.getD k []).length) ∧ 0 < S.length then 1 else 0) (fun g' => g' = g) := by
  refine WW_of (cc := cX5_canBeLaid) (maxL := 3) (ret := (some .boolean)) (own := RX5) (by decide) rfl rfl (Nat.le_of_ble_eq_true rfl) rfl ?_
  intro pp ee ss mm bl me co hmn
  refine w_iconst dX5_canBeLaid_0 ?_
  refine w_istore_n [(1, .int (zI 0)), (0, .ref (B + rb))] dX5_canBeLaid_1 rfl (by decide) rfl ?_
  refine w_sub [(0, .ref (B + rb)), (1, .int (zI 0))] [1, 0] rfl ?_
  refine w_lv (lv' := [(0, .ref (B + rb)), (1, .int (zI ((0 : Nat) : Int)))]) (lc_s (lc_i (by first | omega | with_reducible rfl) rfl)) ?_
  refine w_loop1 (fun (k : Nat) => k ≤ S.length ∧ (∀ i : Nat, i < k → 2 ≤ (S.getD i []).length)) (fun (k : Nat) => S.length - k) (fun (k : Nat) => g) (fun (k : Nat) => [(0, .ref (B + rb)), (1, .int (zI ((k : Nat) : Int)))]) ?_ 0 ⟨(by first | omega | with_reducible rfl), (fun i h => absurd h (Nat.not_lt_zero _))⟩
  rintro k ⟨hk, hal⟩ ih_2
  refine w_iload_n dX5_canBeLaid_2 rfl 1 rfl ?_
  refine w_aload_n dX5_canBeLaid_3 rfl 0 rfl ?_
  refine w_get (i := 1) (T := TX5) (NF := 3) rb (by first | omega | with_reducible rfl) hr.1 rfl (fun _ h => (List.mem_cons_of_mem _ (List.mem_append_left _ (List.mem_append_right _ h)))) (by decide) (List.mem_of_getElem? (i := 1) rfl) rfl dX5_canBeLaid_4 ?_
  refine w_icmp_ge 36 dX5_canBeLaid_7 (by decide) (by first | omega | with_reducible rfl) (by first | omega | with_reducible rfl) (fun c_7 => ?_) (fun c_7 => ?_)
  · refine w_aload_n dX5_canBeLaid_36 rfl 0 rfl ?_
    refine w_get (i := 1) (T := TX5) (NF := 3) rb (by first | omega | with_reducible rfl) hr.1 rfl (fun _ h => (List.mem_cons_of_mem _ (List.mem_append_left _ (List.mem_append_right _ h)))) (by decide) (List.mem_of_getElem? (i := 1) rfl) rfl dX5_canBeLaid_37 ?_
    refine w_if_le 47 dX5_canBeLaid_40 (by decide) (by first | omega | with_reducible rfl) (fun c_40 => ?_) (fun c_40 => ?_)
    · refine w_iconst dX5_canBeLaid_47 ?_
      exact w_zret dX5_canBeLaid_48 rfl rfl (by first | rw [if_pos ⟨fun i hi => hal i (by omega), by omega⟩] | rw [if_neg (fun q => absurd q.2 (by omega))]) rfl
    · refine w_iconst dX5_canBeLaid_43 ?_
      refine w_goto 48 dX5_canBeLaid_44 (by decide) ?_
      exact w_zret dX5_canBeLaid_48 rfl rfl (by first | rw [if_pos ⟨fun i hi => hal i (by omega), by omega⟩] | rw [if_neg (fun q => absurd q.2 (by omega))]) rfl
  · refine w_aload_n dX5_canBeLaid_10 rfl 0 rfl ?_
    refine w_iload_n dX5_canBeLaid_11 rfl 1 rfl ?_
    refine w_callq (As := [.int (zI ((k : Nat) : Int))]) (rest := []) (n := 1) (c_X5_draft hr (by first | omega | with_reducible rfl) (by first | omega | with_reducible rfl) (by first | omega | with_reducible rfl)) gX5_canBeLaid_X5_draft rfl rfl rfl (by decide +kernel) ⟨Nat.le_of_ble_eq_true rfl, Nat.le_of_ble_eq_true rfl⟩ rfl (by first | omega | with_reducible rfl) hr.1 rfl (Nat.le_of_ble_eq_true rfl) ⟨Nat.zero_le _, Nat.zero_le _⟩ dX5_canBeLaid_12 rfl (fun g_1 hp_2 => ?_)
    subst g_1
    have hRk := hRD k (by omega)
    refine w_as (st' := [.ref (B + ((rb + 2) + 10 * k))]) (sc_q (by rw [if_pos (by omega), Int.toNat_natCast]) rfl) ?_
    refine w_astore_n [(2, .ref (B + ((rb + 2) + 10 * k))), (0, .ref (B + rb)), (1, .int (zI ((k : Nat) : Int)))] dX5_canBeLaid_15 rfl (by decide) rfl ?_
    refine w_aload_n dX5_canBeLaid_16 rfl 0 rfl ?_
    refine w_ifnull dX5_canBeLaid_17 ?_
    refine w_aload_n dX5_canBeLaid_20 rfl 0 rfl ?_
    refine w_calli (As := []) (rest := []) (n := 0) (c_X0_size (hd k (by first | omega | with_reducible rfl)) (by first | omega | with_reducible rfl)) gX5_canBeLaid_X0_size rfl rfl rfl (by decide +kernel) ⟨Nat.le_of_ble_eq_true rfl, Nat.le_of_ble_eq_true rfl⟩ rfl (by first | omega | with_reducible rfl) (hd k (by first | omega | with_reducible rfl)).1 rfl (Nat.le_of_ble_eq_true rfl) ⟨Nat.zero_le _, Nat.zero_le _⟩ dX5_canBeLaid_21 rfl (fun g_3 hp_4 => ?_)
    subst g_3
    refine w_iconst dX5_canBeLaid_24 ?_
    refine w_icmp_ge 30 dX5_canBeLaid_25 (by decide) (by first | omega | with_reducible rfl) (by first | omega | with_reducible rfl) (fun c_25 => ?_) (fun c_25 => ?_)
    · refine w_iinc 2 [(1, .int (zI (((k : Nat) : Int) + 1))), (2, .ref (B + ((rb + 2) + 10 * k))), (0, .ref (B + rb))] dX5_canBeLaid_30 rfl (by decide) rfl ?_
      refine w_goto 2 dX5_canBeLaid_33 (by decide) ?_
      refine w_sub [(0, .ref (B + rb)), (1, .int (zI (((k : Nat) : Int) + 1)))] [2, 0] rfl ?_
      refine w_lv (lv' := [(0, .ref (B + rb)), (1, .int (zI (((k + 1) : Nat) : Int)))]) (lc_s (lc_i (by first | omega | with_reducible rfl) rfl)) ?_
      exact ih_2 (k + 1) ⟨(by first | omega | with_reducible rfl), (fun i h => by rcases Nat.lt_or_ge i k with q | q; exact hal i q; rw [show i = k by omega]; omega)⟩ (by first | omega | with_reducible rfl)
    · refine w_iconst dX5_canBeLaid_28 ?_
      exact w_zret dX5_canBeLaid_29 rfl rfl (by rw [if_neg (fun q => absurd (q.1 k (by omega)) (by omega))]) rfl
