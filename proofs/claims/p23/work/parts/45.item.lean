/-! ===== Reader: an item, the text ===== -/
def skp (n : Nat) (L : Int → Int) (x p : Int) : Int := if inA n L p = x then p + 1 else p
theorem skp_rg (n : Nat) (L : Int → Int) (x p : Int) : p ≤ skp n L x p ∧ skp n L x p ≤ p + 1 := by
  unfold skp
  split <;> omega
def i2 (n : Nat) (L : Int → Int) (p : Int) : Int := numP n L (p + 1)
def i3 (n : Nat) (L : Int → Int) (p : Int) : Int := skp n L 44 (i2 n L p)
def i4 (n : Nat) (L : Int → Int) (p : Int) : Int := numP n L (i3 n L p)
def i5 (n : Nat) (L : Int → Int) (p : Int) : Int := skp n L 44 (i4 n L p)
def i6 (n : Nat) (L : Int → Int) (p : Int) : Int := numP n L (i5 n L p)
def i7 (n : Nat) (L : Int → Int) (p : Int) : Int := skp n L 59 (i6 n L p)
theorem i_rg (n : Nat) (L : Int → Int) (p : Int) : (p + 1 ≤ i2 n L p ∧ i2 n L p ≤ p + 3) ∧ (p + 1 ≤ i3 n L p ∧ i3 n L p ≤ p + 4) ∧ (p + 1 ≤ i4 n L p ∧ i4 n L p ≤ p + 6) ∧ (p + 1 ≤ i5 n L p ∧ i5 n L p ≤ p + 7) ∧ (p + 1 ≤ i6 n L p ∧ i6 n L p ≤ p + 9) ∧ (p + 1 ≤ i7 n L p ∧ i7 n L p ≤ p + 10) := by
  have h2 := numP_rg n L (p + 1)
  have h3 := skp_rg n L 44 (i2 n L p)
  have h4 := numP_rg n L (i3 n L p)
  have h5 := skp_rg n L 44 (i4 n L p)
  have h6 := numP_rg n L (i5 n L p)
  have h7 := skp_rg n L 59 (i6 n L p)
  unfold i7 i6 i5 i4 i3 i2 at *
  omega
def iT (n : Nat) (L : Int → Int) (p : Int) : Int := numV n L (p + 1)
def iX (n : Nat) (L : Int → Int) (p : Int) : Int := numV n L (i3 n L p)
def iV (n : Nat) (L : Int → Int) (p : Int) : Int := numV n L (i5 n L p)
/-- an item of a column begins at p, as far as its signs go -/
def cOk (n : Nat) (L : Int → Int) (p : Int) : Prop := inA n L p = 99 ∧ inA n L (i2 n L p) = 44 ∧ inA n L (i4 n L p) = 44 ∧ inA n L (i6 n L p) = 59
def vOk (t x v : Int) : Prop := 1 ≤ t ∧ t ≤ 12 ∧ 0 ≤ x ∧ x ≤ t ∧ 0 ≤ v ∧ v ≤ 9
set_option maxHeartbeats 4000000 in
set_option maxRecDepth 100000 in
theorem c_X5_item_s {l : Launch} {D : va_G} {cy : Nat → ClassId} {B N : Nat} {g : Nat → va_E} {rb sr : Nat} {pl : Int} {tb n : Nat} {L : Int → Int} {sets : Nat} {dn : Nat → Nat} {dv : Nat → Int} {dT dX dV : Nat → Int → Int} {dW : Nat → Nat → Int → Int} (hr : vReader cy B g rb sr pl) (ht : vText cy B g tb n L) (hd : vDr cy B g (rb + 2) sets dn dv dT dX dV dW) (hR : rb + 2 ≤ N) (hT : tb + 2 ≤ N) (hn : n ≤ 200) (hL : ∀ i : Int, 0 ≤ i → i < n → 0 ≤ L i ∧ L i < 65536) (hpl : 0 ≤ pl ∧ pl ≤ 200) (hrt : rb + 2 ≤ tb ∨ tb + 2 ≤ rb) (hD : rb + 32 ≤ N) (hsr : sr ≤ 3) (hdt : tb + 2 ≤ rb ∨ rb + 32 ≤ tb) (h1 : inA n L pl = 115) (h2 : inA n L (pl + 1) = 59) (h3 : sr < 3) : CTi l yX5_readItem wsX5_readItem (rmo 3 70) D cy B N g [.ref (B + rb), .ref (B + tb)] 1 (fun g' => vReader cy B g' rb (sr + 1) (pl + 2) ∧ vDr cy B g' (rb + 2) sets (uF dn sr 0) (uF dv sr (dv sr + 1)) (uF dT sr (dT sr)) (uF dX sr (dX sr)) (uF dV sr (dV sr)) (uF dW sr (dW sr)) ∧ (∀ q, (q < rb ∨ rb + 32 ≤ q) → g' q = g q)) := by
  refine WW_of (cc := cX5_readItem) (maxL := 6) (ret := (some .boolean)) (own := RX5) (by decide) rfl rfl (Nat.le_of_ble_eq_true rfl) rfl ?_
  intro pp ee ss mm bl me co hmn
  have hfr_0 : ∀ q, (q < rb ∨ rb + 32 ≤ q) → g q = g q := fun _ _ => rfl
  have hig := i_rg n L pl
  have hv1 : -1 ≤ iT n L pl ∧ iT n L pl ≤ 99 := numV_rg n L (pl + 1)
  have hv2 : -1 ≤ iX n L pl ∧ iX n L pl ≤ 99 := numV_rg n L (i3 n L pl)
  have hv3 : -1 ≤ iV n L pl ∧ iV n L pl ≤ 99 := numV_rg n L (i5 n L pl)
  refine w_aload_n dX5_readItem_0 rfl 0 rfl ?_
  refine w_aload_n dX5_readItem_1 rfl 1 rfl ?_
  refine w_bipush dX5_readItem_2 (by decide) ?_
  refine w_calli (As := [.ref (B + tb), .int (zI 115)]) (rest := []) (n := 2) (c_X5_readSign hr ht (by first | omega | with_reducible rfl) (by first | omega | with_reducible rfl) (by first | omega | with_reducible rfl) hL (by first | omega | with_reducible rfl) (by first | omega | with_reducible rfl) (by first | omega | with_reducible rfl)) gX5_readItem_X5_readSign rfl rfl rfl (by decide +kernel) ⟨Nat.le_of_ble_eq_true rfl, Nat.le_of_ble_eq_true rfl⟩ rfl (by first | omega | with_reducible rfl) hr.1 rfl (Nat.le_of_ble_eq_true rfl) ⟨Nat.zero_le _, Nat.zero_le _⟩ dX5_readItem_4 rfl (fun g_1 hp_2 => ?_)
  obtain ⟨hr_3, hf_4⟩ := hp_2
  have ht_5 : vText cy B g_1 tb n L := vText_fr ht (fun q h1 h2 => hf_4 q (by omega))
  have hd_6 : vDr cy B g_1 (rb + 2) sets dn dv dT dX dV dW := vDr_fr hd (fun q h1 h2 => hf_4 q (by omega))
  have hfr_7 : ∀ q, (q < rb ∨ rb + 32 ≤ q) → g_1 q = g q := fun q hq => (hf_4 q (by omega)).trans (hfr_0 q hq)
  refine w_ifeqB 33 dX5_readItem_7 (by decide) (fun c_7 => ?_) (fun c_7 => ?_)
  · exfalso; omega
  · have hr_8 : vReader cy B g_1 rb sr (pl + 1) := by have h9 := hr_3; rw [if_pos c_7] at h9; exact h9
    refine w_aload_n dX5_readItem_10 rfl 0 rfl ?_
    refine w_aload_n dX5_readItem_11 rfl 1 rfl ?_
    refine w_bipush dX5_readItem_12 (by decide) ?_
    refine w_calli (As := [.ref (B + tb), .int (zI 59)]) (rest := []) (n := 2) (c_X5_readSign hr_8 ht_5 (by first | omega | with_reducible rfl) (by first | omega | with_reducible rfl) (by first | omega | with_reducible rfl) hL (by first | omega | with_reducible rfl) (by first | omega | with_reducible rfl) (by first | omega | with_reducible rfl)) gX5_readItem_X5_readSign rfl rfl rfl (by decide +kernel) ⟨Nat.le_of_ble_eq_true rfl, Nat.le_of_ble_eq_true rfl⟩ rfl (by first | omega | with_reducible rfl) hr_8.1 rfl (Nat.le_of_ble_eq_true rfl) ⟨Nat.zero_le _, Nat.zero_le _⟩ dX5_readItem_14 rfl (fun g_9 hp_10 => ?_)
    obtain ⟨hr_11, hf_12⟩ := hp_10
    have ht_13 : vText cy B g_9 tb n L := vText_fr ht_5 (fun q h1 h2 => hf_12 q (by omega))
    have hd_14 : vDr cy B g_9 (rb + 2) sets dn dv dT dX dV dW := vDr_fr hd_6 (fun q h1 h2 => hf_12 q (by omega))
    have hfr_15 : ∀ q, (q < rb ∨ rb + 32 ≤ q) → g_9 q = g q := fun q hq => (hf_12 q (by omega)).trans (hfr_7 q hq)
    refine w_ifeqB 31 dX5_readItem_17 (by decide) (fun c_17 => ?_) (fun c_17 => ?_)
    · exfalso; omega
    · have hr_16 : vReader cy B g_9 rb sr (pl + 2) := by have h9 := hr_11; rw [if_pos c_17, show pl + 1 + 1 = pl + 2 by omega] at h9; exact h9
      refine w_aload_n dX5_readItem_20 rfl 0 rfl ?_
      refine w_calli (As := []) (rest := []) (n := 0) (c_X5_addS_ok hr_16 hd_14 (by first | omega | with_reducible rfl) (by first | omega | with_reducible rfl) (by first | omega | with_reducible rfl)) gX5_readItem_X5_addStratum rfl rfl rfl (by decide +kernel) ⟨Nat.le_of_ble_eq_true rfl, Nat.le_of_ble_eq_true rfl⟩ rfl (by first | omega | with_reducible rfl) hr_16.1 rfl (Nat.le_of_ble_eq_true rfl) ⟨Nat.zero_le _, Nat.zero_le _⟩ dX5_readItem_21 rfl (fun g_17 hp_18 => ?_)
      obtain ⟨hr_19, hd_20, hf_21⟩ := hp_18
      have ht_22 : vText cy B g_17 tb n L := vText_fr ht_13 (fun q h1 h2 => hf_21 q (by omega))
      have hfr_23 : ∀ q, (q < rb ∨ rb + 32 ≤ q) → g_17 q = g q := fun q hq => (hf_21 q (by omega)).trans (hfr_15 q hq)
      refine w_if_eq 31 dX5_readItem_24 (by decide) (by first | omega | with_reducible rfl) (fun c_24 => ?_) (fun c_24 => ?_)
      · refine w_iconst dX5_readItem_31 ?_
        exact w_zret dX5_readItem_32 rfl rfl (by first | with_reducible rfl | omega | (split <;> omega)) ⟨hr_19, hd_20, hfr_23⟩
      · refine w_iconst dX5_readItem_27 ?_
        refine w_goto 32 dX5_readItem_28 (by decide) ?_
        exact w_zret dX5_readItem_32 rfl rfl (by first | with_reducible rfl | omega | (split <;> omega)) ⟨hr_19, hd_20, hfr_23⟩
set_option maxHeartbeats 4000000 in
set_option maxRecDepth 100000 in
theorem c_X5_item_c {l : Launch} {D : va_G} {cy : Nat → ClassId} {B N : Nat} {g : Nat → va_E} {rb sr : Nat} {pl : Int} {tb n : Nat} {L : Int → Int} {sets : Nat} {dn : Nat → Nat} {dv : Nat → Int} {dT dX dV : Nat → Int → Int} {dW : Nat → Nat → Int → Int} {Cn : Nat → Int → Int} (hr : vReader cy B g rb sr pl) (ht : vText cy B g tb n L) (hd : vDr cy B g (rb + 2) sets dn dv dT dX dV dW) (hs : vSets cy B g sets Cn) (hR : rb + 2 ≤ N) (hT : tb + 2 ≤ N) (hn : n ≤ 200) (hL : ∀ i : Int, 0 ≤ i → i < n → 0 ≤ L i ∧ L i < 65536) (hpl : 0 ≤ pl ∧ pl ≤ 200) (hrt : rb + 2 ≤ tb ∨ tb + 2 ≤ rb) (hD : rb + 32 ≤ N) (hsr : sr ≤ 3) (hdt : tb + 2 ≤ rb ∨ rb + 32 ≤ tb) (hSn : sets + 15 ≤ N) (hsd : sets + 15 ≤ rb ∨ rb + 32 ≤ sets) (h0 : ¬ inA n L pl = 115) (hck : inA n L pl = 99 ∧ inA n L (i2 n L pl) = 44 ∧ inA n L (i4 n L pl) = 44 ∧ inA n L (i6 n L pl) = 59) (hs0 : 0 < sr) (hok : (1 ≤ iT n L pl ∧ iT n L pl ≤ 12 ∧ 0 ≤ iX n L pl ∧ iX n L pl ≤ iT n L pl ∧ 0 ≤ iV n L pl ∧ iV n L pl ≤ 9)) (hd5 : dn (sr - 1) < 5) : CTi l yX5_readItem wsX5_readItem (rmo 3 70) D cy B N g [.ref (B + rb), .ref (B + tb)] 1 (fun g' => ∃ W1 : Int → Int, vReader cy B g' rb sr (i7 n L pl) ∧ vDr cy B g' (rb + 2) sets (uF dn (sr - 1) (dn (sr - 1) + 1)) (uF dv (sr - 1) (dv (sr - 1) + 1)) (uF dT (sr - 1) (uZ (dT (sr - 1)) ((dn (sr - 1) : Nat) : Int) (iT n L pl))) (uF dX (sr - 1) (uZ (dX (sr - 1)) ((dn (sr - 1) : Nat) : Int) (iX n L pl))) (uF dV (sr - 1) (uZ (dV (sr - 1)) ((dn (sr - 1) : Nat) : Int) (iV n L pl))) (uF dW (sr - 1) (uF (dW (sr - 1)) (dn (sr - 1)) W1)) ∧ (∀ y : Int, 0 ≤ y → y ≤ 12 → W1 y = setA Cn (iT n L pl) y) ∧ (∀ q, (q < rb ∨ rb + 32 ≤ q) → g' q = g q)) := by
  refine WW_of (cc := cX5_readItem) (maxL := 6) (ret := (some .boolean)) (own := RX5) (by decide) rfl rfl (Nat.le_of_ble_eq_true rfl) rfl ?_
  intro pp ee ss mm bl me co hmn
  have hfr_0 : ∀ q, (q < rb ∨ rb + 32 ≤ q) → g q = g q := fun _ _ => rfl
  have hig := i_rg n L pl
  have hv1 : -1 ≤ iT n L pl ∧ iT n L pl ≤ 99 := numV_rg n L (pl + 1)
  have hv2 : -1 ≤ iX n L pl ∧ iX n L pl ≤ 99 := numV_rg n L (i3 n L pl)
  have hv3 : -1 ≤ iV n L pl ∧ iV n L pl ≤ 99 := numV_rg n L (i5 n L pl)
  refine w_aload_n dX5_readItem_0 rfl 0 rfl ?_
  refine w_aload_n dX5_readItem_1 rfl 1 rfl ?_
  refine w_bipush dX5_readItem_2 (by decide) ?_
  refine w_calli (As := [.ref (B + tb), .int (zI 115)]) (rest := []) (n := 2) (c_X5_readSign hr ht (by first | omega | with_reducible rfl) (by first | omega | with_reducible rfl) (by first | omega | with_reducible rfl) hL (by first | omega | with_reducible rfl) (by first | omega | with_reducible rfl) (by first | omega | with_reducible rfl)) gX5_readItem_X5_readSign rfl rfl rfl (by decide +kernel) ⟨Nat.le_of_ble_eq_true rfl, Nat.le_of_ble_eq_true rfl⟩ rfl (by first | omega | with_reducible rfl) hr.1 rfl (Nat.le_of_ble_eq_true rfl) ⟨Nat.zero_le _, Nat.zero_le _⟩ dX5_readItem_4 rfl (fun g_1 hp_2 => ?_)
  obtain ⟨hr_3, hf_4⟩ := hp_2
  have ht_5 : vText cy B g_1 tb n L := vText_fr ht (fun q h1 h2 => hf_4 q (by omega))
  have hd_6 : vDr cy B g_1 (rb + 2) sets dn dv dT dX dV dW := vDr_fr hd (fun q h1 h2 => hf_4 q (by omega))
  have hs_7 : vSets cy B g_1 sets Cn := vSets_fr hs (fun q h1 h2 => hf_4 q (by omega))
  have hfr_8 : ∀ q, (q < rb ∨ rb + 32 ≤ q) → g_1 q = g q := fun q hq => (hf_4 q (by omega)).trans (hfr_0 q hq)
  refine w_ifeqB 33 dX5_readItem_7 (by decide) (fun c_7 => ?_) (fun c_7 => ?_)
  · have hr_9 : vReader cy B g_1 rb sr pl := by have h9 := hr_3; rw [if_neg c_7] at h9; exact h9
    refine w_aload_n dX5_readItem_33 rfl 0 rfl ?_
    refine w_aload_n dX5_readItem_34 rfl 1 rfl ?_
    refine w_bipush dX5_readItem_35 (by decide) ?_
    refine w_calli (As := [.ref (B + tb), .int (zI 99)]) (rest := []) (n := 2) (c_X5_readSign hr_9 ht_5 (by first | omega | with_reducible rfl) (by first | omega | with_reducible rfl) (by first | omega | with_reducible rfl) hL (by first | omega | with_reducible rfl) (by first | omega | with_reducible rfl) (by first | omega | with_reducible rfl)) gX5_readItem_X5_readSign rfl rfl rfl (by decide +kernel) ⟨Nat.le_of_ble_eq_true rfl, Nat.le_of_ble_eq_true rfl⟩ rfl (by first | omega | with_reducible rfl) hr_9.1 rfl (Nat.le_of_ble_eq_true rfl) ⟨Nat.zero_le _, Nat.zero_le _⟩ dX5_readItem_37 rfl (fun g_10 hp_11 => ?_)
    obtain ⟨hr_12, hf_13⟩ := hp_11
    have ht_14 : vText cy B g_10 tb n L := vText_fr ht_5 (fun q h1 h2 => hf_13 q (by omega))
    have hd_15 : vDr cy B g_10 (rb + 2) sets dn dv dT dX dV dW := vDr_fr hd_6 (fun q h1 h2 => hf_13 q (by omega))
    have hs_16 : vSets cy B g_10 sets Cn := vSets_fr hs_7 (fun q h1 h2 => hf_13 q (by omega))
    have hfr_17 : ∀ q, (q < rb ∨ rb + 32 ≤ q) → g_10 q = g q := fun q hq => (hf_13 q (by omega)).trans (hfr_8 q hq)
    refine w_ifneB 45 dX5_readItem_40 (by decide) (fun c_40 => ?_) (fun c_40 => ?_)
    · have hr_18 : vReader cy B g_10 rb sr (pl + 1) := by have h9 := hr_12; rw [if_pos c_40] at h9; exact h9
      refine w_aload_n dX5_readItem_45 rfl 0 rfl ?_
      refine w_aload_n dX5_readItem_46 rfl 1 rfl ?_
      refine w_calli (As := [.ref (B + tb)]) (rest := []) (n := 1) (c_X5_readNumber hr_18 ht_14 (by first | omega | with_reducible rfl) (by first | omega | with_reducible rfl) (by first | omega | with_reducible rfl) hL (by first | omega | with_reducible rfl) (by first | omega | with_reducible rfl)) gX5_readItem_X5_readNumber rfl rfl rfl (by decide +kernel) ⟨Nat.le_of_ble_eq_true rfl, Nat.le_of_ble_eq_true rfl⟩ rfl (by first | omega | with_reducible rfl) hr_18.1 rfl (Nat.le_of_ble_eq_true rfl) ⟨Nat.zero_le _, Nat.zero_le _⟩ dX5_readItem_47 rfl (fun g_19 hp_20 => ?_)
      obtain ⟨hr_21, hf_22⟩ := hp_20
      have ht_23 : vText cy B g_19 tb n L := vText_fr ht_14 (fun q h1 h2 => hf_22 q (by omega))
      have hd_24 : vDr cy B g_19 (rb + 2) sets dn dv dT dX dV dW := vDr_fr hd_15 (fun q h1 h2 => hf_22 q (by omega))
      have hs_25 : vSets cy B g_19 sets Cn := vSets_fr hs_16 (fun q h1 h2 => hf_22 q (by omega))
      have hfr_26 : ∀ q, (q < rb ∨ rb + 32 ≤ q) → g_19 q = g q := fun q hq => (hf_22 q (by omega)).trans (hfr_17 q hq)
      have hr_27 : vReader cy B g_19 rb sr (i2 n L pl) := by have h9 := hr_21; exact h9
      refine w_as (st' := [.int (zI (iT n L pl))]) (sc_i rfl rfl) ?_
      refine w_istore_n [(2, .int (zI (iT n L pl))), (0, .ref (B + rb)), (1, .ref (B + tb))] dX5_readItem_50 rfl (by decide) rfl ?_
      refine w_aload_n dX5_readItem_51 rfl 1 rfl ?_
      refine w_aload_n dX5_readItem_52 rfl 2 rfl ?_
      refine w_bipush dX5_readItem_53 (by decide) ?_
      refine w_calli (As := [.ref (B + tb), .int (zI 44)]) (rest := []) (n := 2) (c_X5_readSign hr_27 ht_23 (by first | omega | with_reducible rfl) (by first | omega | with_reducible rfl) (by first | omega | with_reducible rfl) hL (by first | omega | with_reducible rfl) (by first | omega | with_reducible rfl) (by first | omega | with_reducible rfl)) gX5_readItem_X5_readSign rfl rfl rfl (by decide +kernel) ⟨Nat.le_of_ble_eq_true rfl, Nat.le_of_ble_eq_true rfl⟩ rfl (by first | omega | with_reducible rfl) hr_27.1 rfl (Nat.le_of_ble_eq_true rfl) ⟨Nat.zero_le _, Nat.zero_le _⟩ dX5_readItem_55 rfl (fun g_28 hp_29 => ?_)
      obtain ⟨hr_30, hf_31⟩ := hp_29
      have ht_32 : vText cy B g_28 tb n L := vText_fr ht_23 (fun q h1 h2 => hf_31 q (by omega))
      have hd_33 : vDr cy B g_28 (rb + 2) sets dn dv dT dX dV dW := vDr_fr hd_24 (fun q h1 h2 => hf_31 q (by omega))
      have hs_34 : vSets cy B g_28 sets Cn := vSets_fr hs_25 (fun q h1 h2 => hf_31 q (by omega))
      have hfr_35 : ∀ q, (q < rb ∨ rb + 32 ≤ q) → g_28 q = g q := fun q hq => (hf_31 q (by omega)).trans (hfr_26 q hq)
      have hr_36 : vReader cy B g_28 rb sr (i3 n L pl) := by have h9 := hr_30; exact h9
      refine w_istore_n [(3, .int (zI (if inA n L (i2 n L pl) = 44 then 1 else 0))), (2, .int (zI (iT n L pl))), (0, .ref (B + rb)), (1, .ref (B + tb))] dX5_readItem_58 rfl (by decide) rfl ?_
      refine w_aload_n dX5_readItem_59 rfl 2 rfl ?_
      refine w_aload_n dX5_readItem_60 rfl 3 rfl ?_
      refine w_calli (As := [.ref (B + tb)]) (rest := []) (n := 1) (c_X5_readNumber hr_36 ht_32 (by first | omega | with_reducible rfl) (by first | omega | with_reducible rfl) (by first | omega | with_reducible rfl) hL (by first | omega | with_reducible rfl) (by first | omega | with_reducible rfl)) gX5_readItem_X5_readNumber rfl rfl rfl (by decide +kernel) ⟨Nat.le_of_ble_eq_true rfl, Nat.le_of_ble_eq_true rfl⟩ rfl (by first | omega | with_reducible rfl) hr_36.1 rfl (Nat.le_of_ble_eq_true rfl) ⟨Nat.zero_le _, Nat.zero_le _⟩ dX5_readItem_61 rfl (fun g_37 hp_38 => ?_)
      obtain ⟨hr_39, hf_40⟩ := hp_38
      have ht_41 : vText cy B g_37 tb n L := vText_fr ht_32 (fun q h1 h2 => hf_40 q (by omega))
      have hd_42 : vDr cy B g_37 (rb + 2) sets dn dv dT dX dV dW := vDr_fr hd_33 (fun q h1 h2 => hf_40 q (by omega))
      have hs_43 : vSets cy B g_37 sets Cn := vSets_fr hs_34 (fun q h1 h2 => hf_40 q (by omega))
      have hfr_44 : ∀ q, (q < rb ∨ rb + 32 ≤ q) → g_37 q = g q := fun q hq => (hf_40 q (by omega)).trans (hfr_35 q hq)
      have hr_45 : vReader cy B g_37 rb sr (i4 n L pl) := by have h9 := hr_39; exact h9
      refine w_as (st' := [.int (zI (iX n L pl))]) (sc_i rfl rfl) ?_
      refine w_istore [(4, .int (zI (iX n L pl))), (3, .int (zI (if inA n L (i2 n L pl) = 44 then 1 else 0))), (2, .int (zI (iT n L pl))), (0, .ref (B + rb)), (1, .ref (B + tb))] dX5_readItem_64 (by decide) rfl ?_
      refine w_aload_n dX5_readItem_66 rfl 3 rfl ?_
      refine w_aload_n dX5_readItem_67 rfl 4 rfl ?_
      refine w_bipush dX5_readItem_68 (by decide) ?_
      refine w_calli (As := [.ref (B + tb), .int (zI 44)]) (rest := []) (n := 2) (c_X5_readSign hr_45 ht_41 (by first | omega | with_reducible rfl) (by first | omega | with_reducible rfl) (by first | omega | with_reducible rfl) hL (by first | omega | with_reducible rfl) (by first | omega | with_reducible rfl) (by first | omega | with_reducible rfl)) gX5_readItem_X5_readSign rfl rfl rfl (by decide +kernel) ⟨Nat.le_of_ble_eq_true rfl, Nat.le_of_ble_eq_true rfl⟩ rfl (by first | omega | with_reducible rfl) hr_45.1 rfl (Nat.le_of_ble_eq_true rfl) ⟨Nat.zero_le _, Nat.zero_le _⟩ dX5_readItem_70 rfl (fun g_46 hp_47 => ?_)
      obtain ⟨hr_48, hf_49⟩ := hp_47
      have ht_50 : vText cy B g_46 tb n L := vText_fr ht_41 (fun q h1 h2 => hf_49 q (by omega))
      have hd_51 : vDr cy B g_46 (rb + 2) sets dn dv dT dX dV dW := vDr_fr hd_42 (fun q h1 h2 => hf_49 q (by omega))
      have hs_52 : vSets cy B g_46 sets Cn := vSets_fr hs_43 (fun q h1 h2 => hf_49 q (by omega))
      have hfr_53 : ∀ q, (q < rb ∨ rb + 32 ≤ q) → g_46 q = g q := fun q hq => (hf_49 q (by omega)).trans (hfr_44 q hq)
      have hr_54 : vReader cy B g_46 rb sr (i5 n L pl) := by have h9 := hr_48; exact h9
      refine w_ifeqB 84 dX5_readItem_73 (by decide) (fun c_73 => ?_) (fun c_73 => ?_)
      · exfalso; omega
      · refine w_iload_n dX5_readItem_76 rfl 1 rfl ?_
        refine w_ifeqB 84 dX5_readItem_77 (by decide) (fun c_77 => ?_) (fun c_77 => ?_)
        · exfalso; omega
        · refine w_iconst dX5_readItem_80 ?_
          refine w_goto 85 dX5_readItem_81 (by decide) ?_
          refine w_istore_n [(3, .int (zI 1)), (4, .int (zI (iX n L pl))), (2, .int (zI (iT n L pl))), (0, .ref (B + rb)), (1, .ref (B + tb))] dX5_readItem_85 rfl (by decide) rfl ?_
          refine w_aload_n dX5_readItem_86 rfl 3 rfl ?_
          refine w_aload_n dX5_readItem_87 rfl 4 rfl ?_
          refine w_calli (As := [.ref (B + tb)]) (rest := []) (n := 1) (c_X5_readNumber hr_54 ht_50 (by first | omega | with_reducible rfl) (by first | omega | with_reducible rfl) (by first | omega | with_reducible rfl) hL (by first | omega | with_reducible rfl) (by first | omega | with_reducible rfl)) gX5_readItem_X5_readNumber rfl rfl rfl (by decide +kernel) ⟨Nat.le_of_ble_eq_true rfl, Nat.le_of_ble_eq_true rfl⟩ rfl (by first | omega | with_reducible rfl) hr_54.1 rfl (Nat.le_of_ble_eq_true rfl) ⟨Nat.zero_le _, Nat.zero_le _⟩ dX5_readItem_88 rfl (fun g_55 hp_56 => ?_)
          obtain ⟨hr_57, hf_58⟩ := hp_56
          have ht_59 : vText cy B g_55 tb n L := vText_fr ht_50 (fun q h1 h2 => hf_58 q (by omega))
          have hd_60 : vDr cy B g_55 (rb + 2) sets dn dv dT dX dV dW := vDr_fr hd_51 (fun q h1 h2 => hf_58 q (by omega))
          have hs_61 : vSets cy B g_55 sets Cn := vSets_fr hs_52 (fun q h1 h2 => hf_58 q (by omega))
          have hfr_62 : ∀ q, (q < rb ∨ rb + 32 ≤ q) → g_55 q = g q := fun q hq => (hf_58 q (by omega)).trans (hfr_53 q hq)
          have hr_63 : vReader cy B g_55 rb sr (i6 n L pl) := by have h9 := hr_57; exact h9
          refine w_as (st' := [.int (zI (iV n L pl))]) (sc_i rfl rfl) ?_
          refine w_istore [(5, .int (zI (iV n L pl))), (3, .int (zI 1)), (4, .int (zI (iX n L pl))), (2, .int (zI (iT n L pl))), (0, .ref (B + rb)), (1, .ref (B + tb))] dX5_readItem_91 (by decide) rfl ?_
          refine w_aload_n dX5_readItem_93 rfl 4 rfl ?_
          refine w_aload_n dX5_readItem_94 rfl 5 rfl ?_
          refine w_bipush dX5_readItem_95 (by decide) ?_
          refine w_calli (As := [.ref (B + tb), .int (zI 59)]) (rest := []) (n := 2) (c_X5_readSign hr_63 ht_59 (by first | omega | with_reducible rfl) (by first | omega | with_reducible rfl) (by first | omega | with_reducible rfl) hL (by first | omega | with_reducible rfl) (by first | omega | with_reducible rfl) (by first | omega | with_reducible rfl)) gX5_readItem_X5_readSign rfl rfl rfl (by decide +kernel) ⟨Nat.le_of_ble_eq_true rfl, Nat.le_of_ble_eq_true rfl⟩ rfl (by first | omega | with_reducible rfl) hr_63.1 rfl (Nat.le_of_ble_eq_true rfl) ⟨Nat.zero_le _, Nat.zero_le _⟩ dX5_readItem_97 rfl (fun g_64 hp_65 => ?_)
          obtain ⟨hr_66, hf_67⟩ := hp_65
          have ht_68 : vText cy B g_64 tb n L := vText_fr ht_59 (fun q h1 h2 => hf_67 q (by omega))
          have hd_69 : vDr cy B g_64 (rb + 2) sets dn dv dT dX dV dW := vDr_fr hd_60 (fun q h1 h2 => hf_67 q (by omega))
          have hs_70 : vSets cy B g_64 sets Cn := vSets_fr hs_61 (fun q h1 h2 => hf_67 q (by omega))
          have hfr_71 : ∀ q, (q < rb ∨ rb + 32 ≤ q) → g_64 q = g q := fun q hq => (hf_67 q (by omega)).trans (hfr_62 q hq)
          have hr_72 : vReader cy B g_64 rb sr (i7 n L pl) := by have h9 := hr_66; exact h9
          refine w_ifeqB 111 dX5_readItem_100 (by decide) (fun c_100 => ?_) (fun c_100 => ?_)
          · exfalso; omega
          · refine w_iload_n dX5_readItem_103 rfl 1 rfl ?_
            refine w_if_eq 111 dX5_readItem_104 (by decide) (by first | omega | with_reducible rfl) (fun c_104 => ?_) (fun c_104 => ?_)
            · exfalso; omega
            · refine w_iconst dX5_readItem_107 ?_
              refine w_goto 112 dX5_readItem_108 (by decide) ?_
              refine w_istore_n [(3, .int (zI 1)), (5, .int (zI (iV n L pl))), (4, .int (zI (iX n L pl))), (2, .int (zI (iT n L pl))), (0, .ref (B + rb)), (1, .ref (B + tb))] dX5_readItem_112 rfl (by decide) rfl ?_
              refine w_iload_n dX5_readItem_113 rfl 0 rfl ?_
              refine w_if_eq 133 dX5_readItem_114 (by decide) (by first | omega | with_reducible rfl) (fun c_114 => ?_) (fun c_114 => ?_)
              · exfalso; omega
              · refine w_aload_n dX5_readItem_117 rfl 4 rfl ?_
                refine w_iload_n dX5_readItem_118 rfl 3 rfl ?_
                refine w_iload dX5_readItem_119 2 rfl ?_
                refine w_iload dX5_readItem_121 1 rfl ?_
                refine w_calli (As := [.int (zI (iT n L pl)), .int (zI (iX n L pl)), .int (zI (iV n L pl))]) (rest := []) (n := 3) (c_X5_addC_ok hr_72 hd_69 hs_70 (by first | omega | with_reducible rfl) (by first | omega | with_reducible rfl) (by first | omega | with_reducible rfl) (by first | omega | with_reducible rfl) (by first | omega | with_reducible rfl) (by first | omega | with_reducible rfl) (by first | omega | with_reducible rfl) (by first | omega | with_reducible rfl) (by first | omega | with_reducible rfl) hok (by first | omega | with_reducible rfl)) gX5_readItem_X5_addColumn rfl rfl rfl (by decide +kernel) ⟨Nat.le_of_ble_eq_true rfl, Nat.le_of_ble_eq_true rfl⟩ rfl (by first | omega | with_reducible rfl) hr_72.1 rfl (Nat.le_of_ble_eq_true rfl) ⟨Nat.zero_le _, Nat.zero_le _⟩ dX5_readItem_123 rfl (fun g_73 hp_74 => ?_)
                obtain ⟨W1_75, hd_76, hW_123, hf_77⟩ := hp_74
                have hr_78 : vReader cy B g_73 rb sr (i7 n L pl) := vReader_fr hr_72 (fun q h1 h2 => hf_77 q (by omega))
                have ht_79 : vText cy B g_73 tb n L := vText_fr ht_68 (fun q h1 h2 => hf_77 q (by omega))
                have hs_80 : vSets cy B g_73 sets Cn := vSets_fr hs_70 (fun q h1 h2 => hf_77 q (by omega))
                have hfr_81 : ∀ q, (q < rb ∨ rb + 32 ≤ q) → g_73 q = g q := fun q hq => (hf_77 q (by omega)).trans (hfr_71 q hq)
                refine w_if_eq 133 dX5_readItem_126 (by decide) (by first | omega | with_reducible rfl) (fun c_126 => ?_) (fun c_126 => ?_)
                · refine w_iconst dX5_readItem_133 ?_
                  exact w_zret dX5_readItem_134 rfl rfl (by first | with_reducible rfl | omega | (split <;> omega)) ⟨W1_75, hr_78, (by have h9 := hd_76; simpa using h9), hW_123, hfr_81⟩
                · refine w_iconst dX5_readItem_129 ?_
                  refine w_goto 134 dX5_readItem_130 (by decide) ?_
                  exact w_zret dX5_readItem_134 rfl rfl (by first | with_reducible rfl | omega | (split <;> omega)) ⟨W1_75, hr_78, (by have h9 := hd_76; simpa using h9), hW_123, hfr_81⟩
    · exfalso; omega
  · exfalso; omega
set_option maxHeartbeats 4000000 in
set_option maxRecDepth 100000 in
theorem c_X5_item_nos {l : Launch} {D : va_G} {cy : Nat → ClassId} {B N : Nat} {g : Nat → va_E} {rb sr : Nat} {pl : Int} {tb n : Nat} {L : Int → Int} {sets : Nat} {dn : Nat → Nat} {dv : Nat → Int} {dT dX dV : Nat → Int → Int} {dW : Nat → Nat → Int → Int} (hr : vReader cy B g rb sr pl) (ht : vText cy B g tb n L) (hd : vDr cy B g (rb + 2) sets dn dv dT dX dV dW) (hR : rb + 2 ≤ N) (hT : tb + 2 ≤ N) (hn : n ≤ 200) (hL : ∀ i : Int, 0 ≤ i → i < n → 0 ≤ L i ∧ L i < 65536) (hpl : 0 ≤ pl ∧ pl ≤ 200) (hrt : rb + 2 ≤ tb ∨ tb + 2 ≤ rb) (hsr : sr ≤ 3) (hD : rb + 32 ≤ N) (hdt : tb + 2 ≤ rb ∨ rb + 32 ≤ tb) (h1 : inA n L pl = 115) (hno : ¬ (inA n L (pl + 1) = 59 ∧ sr < 3)) : CTi l yX5_readItem wsX5_readItem (rmo 3 70) D cy B N g [.ref (B + rb), .ref (B + tb)] 0 (fun g' => ∃ pl1 : Int, vReader cy B g' rb sr pl1 ∧ (0 ≤ pl1 ∧ pl1 ≤ 1000) ∧ (∀ q, (q < rb ∨ rb + 2 ≤ q) → g' q = g q)) := by
  refine WW_of (cc := cX5_readItem) (maxL := 6) (ret := (some .boolean)) (own := RX5) (by decide) rfl rfl (Nat.le_of_ble_eq_true rfl) rfl ?_
  intro pp ee ss mm bl me co hmn
  have hfr_0 : ∀ q, (q < rb ∨ rb + 2 ≤ q) → g q = g q := fun _ _ => rfl
  have hig := i_rg n L pl
  have hv1 : -1 ≤ iT n L pl ∧ iT n L pl ≤ 99 := numV_rg n L (pl + 1)
  have hv2 : -1 ≤ iX n L pl ∧ iX n L pl ≤ 99 := numV_rg n L (i3 n L pl)
  have hv3 : -1 ≤ iV n L pl ∧ iV n L pl ≤ 99 := numV_rg n L (i5 n L pl)
  refine w_aload_n dX5_readItem_0 rfl 0 rfl ?_
  refine w_aload_n dX5_readItem_1 rfl 1 rfl ?_
  refine w_bipush dX5_readItem_2 (by decide) ?_
  refine w_calli (As := [.ref (B + tb), .int (zI 115)]) (rest := []) (n := 2) (c_X5_readSign hr ht (by first | omega | with_reducible rfl) (by first | omega | with_reducible rfl) (by first | omega | with_reducible rfl) hL (by first | omega | with_reducible rfl) (by first | omega | with_reducible rfl) (by first | omega | with_reducible rfl)) gX5_readItem_X5_readSign rfl rfl rfl (by decide +kernel) ⟨Nat.le_of_ble_eq_true rfl, Nat.le_of_ble_eq_true rfl⟩ rfl (by first | omega | with_reducible rfl) hr.1 rfl (Nat.le_of_ble_eq_true rfl) ⟨Nat.zero_le _, Nat.zero_le _⟩ dX5_readItem_4 rfl (fun g_1 hp_2 => ?_)
  obtain ⟨hr_3, hf_4⟩ := hp_2
  have ht_5 : vText cy B g_1 tb n L := vText_fr ht (fun q h1 h2 => hf_4 q (by omega))
  have hd_6 : vDr cy B g_1 (rb + 2) sets dn dv dT dX dV dW := vDr_fr hd (fun q h1 h2 => hf_4 q (by omega))
  have hfr_7 : ∀ q, (q < rb ∨ rb + 2 ≤ q) → g_1 q = g q := fun q hq => (hf_4 q (by omega)).trans (hfr_0 q hq)
  refine w_ifeqB 33 dX5_readItem_7 (by decide) (fun c_7 => ?_) (fun c_7 => ?_)
  · exfalso; omega
  · have hr_8 : vReader cy B g_1 rb sr (pl + 1) := by have h9 := hr_3; rw [if_pos c_7] at h9; exact h9
    refine w_aload_n dX5_readItem_10 rfl 0 rfl ?_
    refine w_aload_n dX5_readItem_11 rfl 1 rfl ?_
    refine w_bipush dX5_readItem_12 (by decide) ?_
    refine w_calli (As := [.ref (B + tb), .int (zI 59)]) (rest := []) (n := 2) (c_X5_readSign hr_8 ht_5 (by first | omega | with_reducible rfl) (by first | omega | with_reducible rfl) (by first | omega | with_reducible rfl) hL (by first | omega | with_reducible rfl) (by first | omega | with_reducible rfl) (by first | omega | with_reducible rfl)) gX5_readItem_X5_readSign rfl rfl rfl (by decide +kernel) ⟨Nat.le_of_ble_eq_true rfl, Nat.le_of_ble_eq_true rfl⟩ rfl (by first | omega | with_reducible rfl) hr_8.1 rfl (Nat.le_of_ble_eq_true rfl) ⟨Nat.zero_le _, Nat.zero_le _⟩ dX5_readItem_14 rfl (fun g_9 hp_10 => ?_)
    obtain ⟨hr_11, hf_12⟩ := hp_10
    have ht_13 : vText cy B g_9 tb n L := vText_fr ht_5 (fun q h1 h2 => hf_12 q (by omega))
    have hd_14 : vDr cy B g_9 (rb + 2) sets dn dv dT dX dV dW := vDr_fr hd_6 (fun q h1 h2 => hf_12 q (by omega))
    have hfr_15 : ∀ q, (q < rb ∨ rb + 2 ≤ q) → g_9 q = g q := fun q hq => (hf_12 q (by omega)).trans (hfr_7 q hq)
    refine w_ifeqB 31 dX5_readItem_17 (by decide) (fun c_17 => ?_) (fun c_17 => ?_)
    · refine w_iconst dX5_readItem_31 ?_
      exact w_zret dX5_readItem_32 rfl rfl (by first | with_reducible rfl | omega | (split <;> omega)) ⟨(if inA n L (pl + 1) = 59 then (pl + 1) + 1 else (pl + 1)), hr_11, (by first | omega | (constructor <;> split <;> omega)), hfr_15⟩
    · have hr_16 : vReader cy B g_9 rb sr (pl + 2) := by have h9 := hr_11; rw [if_pos c_17, show pl + 1 + 1 = pl + 2 by omega] at h9; exact h9
      refine w_aload_n dX5_readItem_20 rfl 0 rfl ?_
      refine w_calli (As := []) (rest := []) (n := 0) (c_X5_addS_full hr_16 hd_14 (by first | omega | with_reducible rfl) (by first | omega | with_reducible rfl) (by omega)) gX5_readItem_X5_addStratum rfl rfl rfl (by decide +kernel) ⟨Nat.le_of_ble_eq_true rfl, Nat.le_of_ble_eq_true rfl⟩ rfl (by first | omega | with_reducible rfl) hr_16.1 rfl (Nat.le_of_ble_eq_true rfl) ⟨Nat.zero_le _, Nat.zero_le _⟩ dX5_readItem_21 rfl (fun g_17 hp_18 => ?_)
      subst g_17
      refine w_if_eq 31 dX5_readItem_24 (by decide) (by first | omega | with_reducible rfl) (fun c_24 => ?_) (fun c_24 => ?_)
      · refine w_iconst dX5_readItem_31 ?_
        exact w_zret dX5_readItem_32 rfl rfl (by first | with_reducible rfl | omega | (split <;> omega)) ⟨(pl + 2), hr_16, (by first | omega | (constructor <;> split <;> omega)), hfr_15⟩
      · exfalso; omega
set_option maxHeartbeats 4000000 in
set_option maxRecDepth 100000 in
theorem c_X5_item_no0 {l : Launch} {D : va_G} {cy : Nat → ClassId} {B N : Nat} {g : Nat → va_E} {rb sr : Nat} {pl : Int} {tb n : Nat} {L : Int → Int} {sets : Nat} {dn : Nat → Nat} {dv : Nat → Int} {dT dX dV : Nat → Int → Int} {dW : Nat → Nat → Int → Int} (hr : vReader cy B g rb sr pl) (ht : vText cy B g tb n L) (hd : vDr cy B g (rb + 2) sets dn dv dT dX dV dW) (hR : rb + 2 ≤ N) (hT : tb + 2 ≤ N) (hn : n ≤ 200) (hL : ∀ i : Int, 0 ≤ i → i < n → 0 ≤ L i ∧ L i < 65536) (hpl : 0 ≤ pl ∧ pl ≤ 200) (hrt : rb + 2 ≤ tb ∨ tb + 2 ≤ rb) (hsr : sr ≤ 3) (hD : rb + 32 ≤ N) (hdt : tb + 2 ≤ rb ∨ rb + 32 ≤ tb) (h0 : ¬ inA n L pl = 115) (hs0 : sr = 0) : CTi l yX5_readItem wsX5_readItem (rmo 3 70) D cy B N g [.ref (B + rb), .ref (B + tb)] 0 (fun g' => ∃ pl1 : Int, vReader cy B g' rb sr pl1 ∧ (0 ≤ pl1 ∧ pl1 ≤ 1000) ∧ (∀ q, (q < rb ∨ rb + 2 ≤ q) → g' q = g q)) := by
  refine WW_of (cc := cX5_readItem) (maxL := 6) (ret := (some .boolean)) (own := RX5) (by decide) rfl rfl (Nat.le_of_ble_eq_true rfl) rfl ?_
  intro pp ee ss mm bl me co hmn
  have hfr_0 : ∀ q, (q < rb ∨ rb + 2 ≤ q) → g q = g q := fun _ _ => rfl
  have hig := i_rg n L pl
  have hv1 : -1 ≤ iT n L pl ∧ iT n L pl ≤ 99 := numV_rg n L (pl + 1)
  have hv2 : -1 ≤ iX n L pl ∧ iX n L pl ≤ 99 := numV_rg n L (i3 n L pl)
  have hv3 : -1 ≤ iV n L pl ∧ iV n L pl ≤ 99 := numV_rg n L (i5 n L pl)
  refine w_aload_n dX5_readItem_0 rfl 0 rfl ?_
  refine w_aload_n dX5_readItem_1 rfl 1 rfl ?_
  refine w_bipush dX5_readItem_2 (by decide) ?_
  refine w_calli (As := [.ref (B + tb), .int (zI 115)]) (rest := []) (n := 2) (c_X5_readSign hr ht (by first | omega | with_reducible rfl) (by first | omega | with_reducible rfl) (by first | omega | with_reducible rfl) hL (by first | omega | with_reducible rfl) (by first | omega | with_reducible rfl) (by first | omega | with_reducible rfl)) gX5_readItem_X5_readSign rfl rfl rfl (by decide +kernel) ⟨Nat.le_of_ble_eq_true rfl, Nat.le_of_ble_eq_true rfl⟩ rfl (by first | omega | with_reducible rfl) hr.1 rfl (Nat.le_of_ble_eq_true rfl) ⟨Nat.zero_le _, Nat.zero_le _⟩ dX5_readItem_4 rfl (fun g_1 hp_2 => ?_)
  obtain ⟨hr_3, hf_4⟩ := hp_2
  have ht_5 : vText cy B g_1 tb n L := vText_fr ht (fun q h1 h2 => hf_4 q (by omega))
  have hd_6 : vDr cy B g_1 (rb + 2) sets dn dv dT dX dV dW := vDr_fr hd (fun q h1 h2 => hf_4 q (by omega))
  have hfr_7 : ∀ q, (q < rb ∨ rb + 2 ≤ q) → g_1 q = g q := fun q hq => (hf_4 q (by omega)).trans (hfr_0 q hq)
  refine w_ifeqB 33 dX5_readItem_7 (by decide) (fun c_7 => ?_) (fun c_7 => ?_)
  · have hr_8 : vReader cy B g_1 rb sr pl := by have h9 := hr_3; rw [if_neg c_7] at h9; exact h9
    refine w_aload_n dX5_readItem_33 rfl 0 rfl ?_
    refine w_aload_n dX5_readItem_34 rfl 1 rfl ?_
    refine w_bipush dX5_readItem_35 (by decide) ?_
    refine w_calli (As := [.ref (B + tb), .int (zI 99)]) (rest := []) (n := 2) (c_X5_readSign hr_8 ht_5 (by first | omega | with_reducible rfl) (by first | omega | with_reducible rfl) (by first | omega | with_reducible rfl) hL (by first | omega | with_reducible rfl) (by first | omega | with_reducible rfl) (by first | omega | with_reducible rfl)) gX5_readItem_X5_readSign rfl rfl rfl (by decide +kernel) ⟨Nat.le_of_ble_eq_true rfl, Nat.le_of_ble_eq_true rfl⟩ rfl (by first | omega | with_reducible rfl) hr_8.1 rfl (Nat.le_of_ble_eq_true rfl) ⟨Nat.zero_le _, Nat.zero_le _⟩ dX5_readItem_37 rfl (fun g_9 hp_10 => ?_)
    obtain ⟨hr_11, hf_12⟩ := hp_10
    have ht_13 : vText cy B g_9 tb n L := vText_fr ht_5 (fun q h1 h2 => hf_12 q (by omega))
    have hd_14 : vDr cy B g_9 (rb + 2) sets dn dv dT dX dV dW := vDr_fr hd_6 (fun q h1 h2 => hf_12 q (by omega))
    have hfr_15 : ∀ q, (q < rb ∨ rb + 2 ≤ q) → g_9 q = g q := fun q hq => (hf_12 q (by omega)).trans (hfr_7 q hq)
    refine w_ifneB 45 dX5_readItem_40 (by decide) (fun c_40 => ?_) (fun c_40 => ?_)
    · have hr_16 : vReader cy B g_9 rb sr (pl + 1) := by have h9 := hr_11; rw [if_pos c_40] at h9; exact h9
      refine w_aload_n dX5_readItem_45 rfl 0 rfl ?_
      refine w_aload_n dX5_readItem_46 rfl 1 rfl ?_
      refine w_calli (As := [.ref (B + tb)]) (rest := []) (n := 1) (c_X5_readNumber hr_16 ht_13 (by first | omega | with_reducible rfl) (by first | omega | with_reducible rfl) (by first | omega | with_reducible rfl) hL (by first | omega | with_reducible rfl) (by first | omega | with_reducible rfl)) gX5_readItem_X5_readNumber rfl rfl rfl (by decide +kernel) ⟨Nat.le_of_ble_eq_true rfl, Nat.le_of_ble_eq_true rfl⟩ rfl (by first | omega | with_reducible rfl) hr_16.1 rfl (Nat.le_of_ble_eq_true rfl) ⟨Nat.zero_le _, Nat.zero_le _⟩ dX5_readItem_47 rfl (fun g_17 hp_18 => ?_)
      obtain ⟨hr_19, hf_20⟩ := hp_18
      have ht_21 : vText cy B g_17 tb n L := vText_fr ht_13 (fun q h1 h2 => hf_20 q (by omega))
      have hd_22 : vDr cy B g_17 (rb + 2) sets dn dv dT dX dV dW := vDr_fr hd_14 (fun q h1 h2 => hf_20 q (by omega))
      have hfr_23 : ∀ q, (q < rb ∨ rb + 2 ≤ q) → g_17 q = g q := fun q hq => (hf_20 q (by omega)).trans (hfr_15 q hq)
      have hr_24 : vReader cy B g_17 rb sr (i2 n L pl) := by have h9 := hr_19; exact h9
      refine w_as (st' := [.int (zI (iT n L pl))]) (sc_i rfl rfl) ?_
      refine w_istore_n [(2, .int (zI (iT n L pl))), (0, .ref (B + rb)), (1, .ref (B + tb))] dX5_readItem_50 rfl (by decide) rfl ?_
      refine w_aload_n dX5_readItem_51 rfl 1 rfl ?_
      refine w_aload_n dX5_readItem_52 rfl 2 rfl ?_
      refine w_bipush dX5_readItem_53 (by decide) ?_
      refine w_calli (As := [.ref (B + tb), .int (zI 44)]) (rest := []) (n := 2) (c_X5_readSign hr_24 ht_21 (by first | omega | with_reducible rfl) (by first | omega | with_reducible rfl) (by first | omega | with_reducible rfl) hL (by first | omega | with_reducible rfl) (by first | omega | with_reducible rfl) (by first | omega | with_reducible rfl)) gX5_readItem_X5_readSign rfl rfl rfl (by decide +kernel) ⟨Nat.le_of_ble_eq_true rfl, Nat.le_of_ble_eq_true rfl⟩ rfl (by first | omega | with_reducible rfl) hr_24.1 rfl (Nat.le_of_ble_eq_true rfl) ⟨Nat.zero_le _, Nat.zero_le _⟩ dX5_readItem_55 rfl (fun g_25 hp_26 => ?_)
      obtain ⟨hr_27, hf_28⟩ := hp_26
      have ht_29 : vText cy B g_25 tb n L := vText_fr ht_21 (fun q h1 h2 => hf_28 q (by omega))
      have hd_30 : vDr cy B g_25 (rb + 2) sets dn dv dT dX dV dW := vDr_fr hd_22 (fun q h1 h2 => hf_28 q (by omega))
      have hfr_31 : ∀ q, (q < rb ∨ rb + 2 ≤ q) → g_25 q = g q := fun q hq => (hf_28 q (by omega)).trans (hfr_23 q hq)
      have hr_32 : vReader cy B g_25 rb sr (i3 n L pl) := by have h9 := hr_27; exact h9
      refine w_istore_n [(3, .int (zI (if inA n L (i2 n L pl) = 44 then 1 else 0))), (2, .int (zI (iT n L pl))), (0, .ref (B + rb)), (1, .ref (B + tb))] dX5_readItem_58 rfl (by decide) rfl ?_
      refine w_aload_n dX5_readItem_59 rfl 2 rfl ?_
      refine w_aload_n dX5_readItem_60 rfl 3 rfl ?_
      refine w_calli (As := [.ref (B + tb)]) (rest := []) (n := 1) (c_X5_readNumber hr_32 ht_29 (by first | omega | with_reducible rfl) (by first | omega | with_reducible rfl) (by first | omega | with_reducible rfl) hL (by first | omega | with_reducible rfl) (by first | omega | with_reducible rfl)) gX5_readItem_X5_readNumber rfl rfl rfl (by decide +kernel) ⟨Nat.le_of_ble_eq_true rfl, Nat.le_of_ble_eq_true rfl⟩ rfl (by first | omega | with_reducible rfl) hr_32.1 rfl (Nat.le_of_ble_eq_true rfl) ⟨Nat.zero_le _, Nat.zero_le _⟩ dX5_readItem_61 rfl (fun g_33 hp_34 => ?_)
      obtain ⟨hr_35, hf_36⟩ := hp_34
      have ht_37 : vText cy B g_33 tb n L := vText_fr ht_29 (fun q h1 h2 => hf_36 q (by omega))
      have hd_38 : vDr cy B g_33 (rb + 2) sets dn dv dT dX dV dW := vDr_fr hd_30 (fun q h1 h2 => hf_36 q (by omega))
      have hfr_39 : ∀ q, (q < rb ∨ rb + 2 ≤ q) → g_33 q = g q := fun q hq => (hf_36 q (by omega)).trans (hfr_31 q hq)
      have hr_40 : vReader cy B g_33 rb sr (i4 n L pl) := by have h9 := hr_35; exact h9
      refine w_as (st' := [.int (zI (iX n L pl))]) (sc_i rfl rfl) ?_
      refine w_istore [(4, .int (zI (iX n L pl))), (3, .int (zI (if inA n L (i2 n L pl) = 44 then 1 else 0))), (2, .int (zI (iT n L pl))), (0, .ref (B + rb)), (1, .ref (B + tb))] dX5_readItem_64 (by decide) rfl ?_
      refine w_aload_n dX5_readItem_66 rfl 3 rfl ?_
      refine w_aload_n dX5_readItem_67 rfl 4 rfl ?_
      refine w_bipush dX5_readItem_68 (by decide) ?_
      refine w_calli (As := [.ref (B + tb), .int (zI 44)]) (rest := []) (n := 2) (c_X5_readSign hr_40 ht_37 (by first | omega | with_reducible rfl) (by first | omega | with_reducible rfl) (by first | omega | with_reducible rfl) hL (by first | omega | with_reducible rfl) (by first | omega | with_reducible rfl) (by first | omega | with_reducible rfl)) gX5_readItem_X5_readSign rfl rfl rfl (by decide +kernel) ⟨Nat.le_of_ble_eq_true rfl, Nat.le_of_ble_eq_true rfl⟩ rfl (by first | omega | with_reducible rfl) hr_40.1 rfl (Nat.le_of_ble_eq_true rfl) ⟨Nat.zero_le _, Nat.zero_le _⟩ dX5_readItem_70 rfl (fun g_41 hp_42 => ?_)
      obtain ⟨hr_43, hf_44⟩ := hp_42
      have ht_45 : vText cy B g_41 tb n L := vText_fr ht_37 (fun q h1 h2 => hf_44 q (by omega))
      have hd_46 : vDr cy B g_41 (rb + 2) sets dn dv dT dX dV dW := vDr_fr hd_38 (fun q h1 h2 => hf_44 q (by omega))
      have hfr_47 : ∀ q, (q < rb ∨ rb + 2 ≤ q) → g_41 q = g q := fun q hq => (hf_44 q (by omega)).trans (hfr_39 q hq)
      have hr_48 : vReader cy B g_41 rb sr (i5 n L pl) := by have h9 := hr_43; exact h9
      refine w_ifeqB 84 dX5_readItem_73 (by decide) (fun c_73 => ?_) (fun c_73 => ?_)
      · refine w_iconst dX5_readItem_84 ?_
        refine w_istore_n [(3, .int (zI 0)), (4, .int (zI (iX n L pl))), (2, .int (zI (iT n L pl))), (0, .ref (B + rb)), (1, .ref (B + tb))] dX5_readItem_85 rfl (by decide) rfl ?_
        refine w_aload_n dX5_readItem_86 rfl 3 rfl ?_
        refine w_aload_n dX5_readItem_87 rfl 4 rfl ?_
        refine w_calli (As := [.ref (B + tb)]) (rest := []) (n := 1) (c_X5_readNumber hr_48 ht_45 (by first | omega | with_reducible rfl) (by first | omega | with_reducible rfl) (by first | omega | with_reducible rfl) hL (by first | omega | with_reducible rfl) (by first | omega | with_reducible rfl)) gX5_readItem_X5_readNumber rfl rfl rfl (by decide +kernel) ⟨Nat.le_of_ble_eq_true rfl, Nat.le_of_ble_eq_true rfl⟩ rfl (by first | omega | with_reducible rfl) hr_48.1 rfl (Nat.le_of_ble_eq_true rfl) ⟨Nat.zero_le _, Nat.zero_le _⟩ dX5_readItem_88 rfl (fun g_49 hp_50 => ?_)
        obtain ⟨hr_51, hf_52⟩ := hp_50
        have ht_53 : vText cy B g_49 tb n L := vText_fr ht_45 (fun q h1 h2 => hf_52 q (by omega))
        have hd_54 : vDr cy B g_49 (rb + 2) sets dn dv dT dX dV dW := vDr_fr hd_46 (fun q h1 h2 => hf_52 q (by omega))
        have hfr_55 : ∀ q, (q < rb ∨ rb + 2 ≤ q) → g_49 q = g q := fun q hq => (hf_52 q (by omega)).trans (hfr_47 q hq)
        have hr_56 : vReader cy B g_49 rb sr (i6 n L pl) := by have h9 := hr_51; exact h9
        refine w_as (st' := [.int (zI (iV n L pl))]) (sc_i rfl rfl) ?_
        refine w_istore [(5, .int (zI (iV n L pl))), (3, .int (zI 0)), (4, .int (zI (iX n L pl))), (2, .int (zI (iT n L pl))), (0, .ref (B + rb)), (1, .ref (B + tb))] dX5_readItem_91 (by decide) rfl ?_
        refine w_aload_n dX5_readItem_93 rfl 4 rfl ?_
        refine w_aload_n dX5_readItem_94 rfl 5 rfl ?_
        refine w_bipush dX5_readItem_95 (by decide) ?_
        refine w_calli (As := [.ref (B + tb), .int (zI 59)]) (rest := []) (n := 2) (c_X5_readSign hr_56 ht_53 (by first | omega | with_reducible rfl) (by first | omega | with_reducible rfl) (by first | omega | with_reducible rfl) hL (by first | omega | with_reducible rfl) (by first | omega | with_reducible rfl) (by first | omega | with_reducible rfl)) gX5_readItem_X5_readSign rfl rfl rfl (by decide +kernel) ⟨Nat.le_of_ble_eq_true rfl, Nat.le_of_ble_eq_true rfl⟩ rfl (by first | omega | with_reducible rfl) hr_56.1 rfl (Nat.le_of_ble_eq_true rfl) ⟨Nat.zero_le _, Nat.zero_le _⟩ dX5_readItem_97 rfl (fun g_57 hp_58 => ?_)
        obtain ⟨hr_59, hf_60⟩ := hp_58
        have ht_61 : vText cy B g_57 tb n L := vText_fr ht_53 (fun q h1 h2 => hf_60 q (by omega))
        have hd_62 : vDr cy B g_57 (rb + 2) sets dn dv dT dX dV dW := vDr_fr hd_54 (fun q h1 h2 => hf_60 q (by omega))
        have hfr_63 : ∀ q, (q < rb ∨ rb + 2 ≤ q) → g_57 q = g q := fun q hq => (hf_60 q (by omega)).trans (hfr_55 q hq)
        have hr_64 : vReader cy B g_57 rb sr (i7 n L pl) := by have h9 := hr_59; exact h9
        refine w_ifeqB 111 dX5_readItem_100 (by decide) (fun c_100 => ?_) (fun c_100 => ?_)
        · refine w_iconst dX5_readItem_111 ?_
          refine w_istore_n [(3, .int (zI 0)), (5, .int (zI (iV n L pl))), (4, .int (zI (iX n L pl))), (2, .int (zI (iT n L pl))), (0, .ref (B + rb)), (1, .ref (B + tb))] dX5_readItem_112 rfl (by decide) rfl ?_
          refine w_iload_n dX5_readItem_113 rfl 0 rfl ?_
          refine w_if_eq 133 dX5_readItem_114 (by decide) (by first | omega | with_reducible rfl) (fun c_114 => ?_) (fun c_114 => ?_)
          · refine w_iconst dX5_readItem_133 ?_
            exact w_zret dX5_readItem_134 rfl rfl (by first | with_reducible rfl | omega) ⟨(i7 n L pl), hr_64, (by first | omega | assumption), hfr_63⟩
          · refine w_aload_n dX5_readItem_117 rfl 4 rfl ?_
            refine w_iload_n dX5_readItem_118 rfl 3 rfl ?_
            refine w_iload dX5_readItem_119 2 rfl ?_
            refine w_iload dX5_readItem_121 1 rfl ?_
            refine w_calli (As := [.int (zI (iT n L pl)), .int (zI (iX n L pl)), .int (zI (iV n L pl))]) (rest := []) (n := 3) (c_X5_addC_no0 hr_64 (by first | omega | with_reducible rfl) (by first | omega | with_reducible rfl)) gX5_readItem_X5_addColumn rfl rfl rfl (by decide +kernel) ⟨Nat.le_of_ble_eq_true rfl, Nat.le_of_ble_eq_true rfl⟩ rfl (by first | omega | with_reducible rfl) hr_64.1 rfl (Nat.le_of_ble_eq_true rfl) ⟨Nat.zero_le _, Nat.zero_le _⟩ dX5_readItem_123 rfl (fun g_65 hp_66 => ?_)
            subst g_65
            refine w_if_eq 133 dX5_readItem_126 (by decide) (by first | omega | with_reducible rfl) (fun c_126 => ?_) (fun c_126 => ?_)
            · refine w_iconst dX5_readItem_133 ?_
              exact w_zret dX5_readItem_134 rfl rfl (by first | with_reducible rfl | omega) ⟨(i7 n L pl), hr_64, (by first | omega | assumption), hfr_63⟩
            · refine w_iconst dX5_readItem_129 ?_
              refine w_goto 134 dX5_readItem_130 (by decide) ?_
              exact w_zret dX5_readItem_134 rfl rfl (by first | with_reducible rfl | omega) ⟨(i7 n L pl), hr_64, (by first | omega | assumption), hfr_63⟩
        · refine w_iload_n dX5_readItem_103 rfl 1 rfl ?_
          refine w_if_eq 111 dX5_readItem_104 (by decide) (by first | omega | with_reducible rfl) (fun c_104 => ?_) (fun c_104 => ?_)
          · refine w_iconst dX5_readItem_111 ?_
            refine w_istore_n [(3, .int (zI 0)), (5, .int (zI (iV n L pl))), (4, .int (zI (iX n L pl))), (2, .int (zI (iT n L pl))), (0, .ref (B + rb)), (1, .ref (B + tb))] dX5_readItem_112 rfl (by decide) rfl ?_
            refine w_iload_n dX5_readItem_113 rfl 0 rfl ?_
            refine w_if_eq 133 dX5_readItem_114 (by decide) (by first | omega | with_reducible rfl) (fun c_114 => ?_) (fun c_114 => ?_)
            · refine w_iconst dX5_readItem_133 ?_
              exact w_zret dX5_readItem_134 rfl rfl (by first | with_reducible rfl | omega) ⟨(i7 n L pl), hr_64, (by first | omega | assumption), hfr_63⟩
            · refine w_aload_n dX5_readItem_117 rfl 4 rfl ?_
              refine w_iload_n dX5_readItem_118 rfl 3 rfl ?_
              refine w_iload dX5_readItem_119 2 rfl ?_
              refine w_iload dX5_readItem_121 1 rfl ?_
              refine w_calli (As := [.int (zI (iT n L pl)), .int (zI (iX n L pl)), .int (zI (iV n L pl))]) (rest := []) (n := 3) (c_X5_addC_no0 hr_64 (by first | omega | with_reducible rfl) (by first | omega | with_reducible rfl)) gX5_readItem_X5_addColumn rfl rfl rfl (by decide +kernel) ⟨Nat.le_of_ble_eq_true rfl, Nat.le_of_ble_eq_true rfl⟩ rfl (by first | omega | with_reducible rfl) hr_64.1 rfl (Nat.le_of_ble_eq_true rfl) ⟨Nat.zero_le _, Nat.zero_le _⟩ dX5_readItem_123 rfl (fun g_67 hp_68 => ?_)
              subst g_67
              refine w_if_eq 133 dX5_readItem_126 (by decide) (by first | omega | with_reducible rfl) (fun c_126 => ?_) (fun c_126 => ?_)
              · refine w_iconst dX5_readItem_133 ?_
                exact w_zret dX5_readItem_134 rfl rfl (by first | with_reducible rfl | omega) ⟨(i7 n L pl), hr_64, (by first | omega | assumption), hfr_63⟩
              · refine w_iconst dX5_readItem_129 ?_
                refine w_goto 134 dX5_readItem_130 (by decide) ?_
                exact w_zret dX5_readItem_134 rfl rfl (by first | with_reducible rfl | omega) ⟨(i7 n L pl), hr_64, (by first | omega | assumption), hfr_63⟩
          · refine w_iconst dX5_readItem_107 ?_
            refine w_goto 112 dX5_readItem_108 (by decide) ?_
            refine w_istore_n [(3, .int (zI 1)), (5, .int (zI (iV n L pl))), (4, .int (zI (iX n L pl))), (2, .int (zI (iT n L pl))), (0, .ref (B + rb)), (1, .ref (B + tb))] dX5_readItem_112 rfl (by decide) rfl ?_
            refine w_iload_n dX5_readItem_113 rfl 0 rfl ?_
            refine w_if_eq 133 dX5_readItem_114 (by decide) (by first | omega | with_reducible rfl) (fun c_114 => ?_) (fun c_114 => ?_)
            · refine w_iconst dX5_readItem_133 ?_
              exact w_zret dX5_readItem_134 rfl rfl (by first | with_reducible rfl | omega) ⟨(i7 n L pl), hr_64, (by first | omega | assumption), hfr_63⟩
            · refine w_aload_n dX5_readItem_117 rfl 4 rfl ?_
              refine w_iload_n dX5_readItem_118 rfl 3 rfl ?_
              refine w_iload dX5_readItem_119 2 rfl ?_
              refine w_iload dX5_readItem_121 1 rfl ?_
              refine w_calli (As := [.int (zI (iT n L pl)), .int (zI (iX n L pl)), .int (zI (iV n L pl))]) (rest := []) (n := 3) (c_X5_addC_no0 hr_64 (by first | omega | with_reducible rfl) (by first | omega | with_reducible rfl)) gX5_readItem_X5_addColumn rfl rfl rfl (by decide +kernel) ⟨Nat.le_of_ble_eq_true rfl, Nat.le_of_ble_eq_true rfl⟩ rfl (by first | omega | with_reducible rfl) hr_64.1 rfl (Nat.le_of_ble_eq_true rfl) ⟨Nat.zero_le _, Nat.zero_le _⟩ dX5_readItem_123 rfl (fun g_69 hp_70 => ?_)
              subst g_69
              refine w_if_eq 133 dX5_readItem_126 (by decide) (by first | omega | with_reducible rfl) (fun c_126 => ?_) (fun c_126 => ?_)
              · refine w_iconst dX5_readItem_133 ?_
                exact w_zret dX5_readItem_134 rfl rfl (by first | with_reducible rfl | omega) ⟨(i7 n L pl), hr_64, (by first | omega | assumption), hfr_63⟩
              · refine w_iconst dX5_readItem_129 ?_
                refine w_goto 134 dX5_readItem_130 (by decide) ?_
                exact w_zret dX5_readItem_134 rfl rfl (by first | with_reducible rfl | omega) ⟨(i7 n L pl), hr_64, (by first | omega | assumption), hfr_63⟩
      · refine w_iload_n dX5_readItem_76 rfl 1 rfl ?_
        refine w_ifeqB 84 dX5_readItem_77 (by decide) (fun c_77 => ?_) (fun c_77 => ?_)
        · refine w_iconst dX5_readItem_84 ?_
          refine w_istore_n [(3, .int (zI 0)), (4, .int (zI (iX n L pl))), (2, .int (zI (iT n L pl))), (0, .ref (B + rb)), (1, .ref (B + tb))] dX5_readItem_85 rfl (by decide) rfl ?_
          refine w_aload_n dX5_readItem_86 rfl 3 rfl ?_
          refine w_aload_n dX5_readItem_87 rfl 4 rfl ?_
          refine w_calli (As := [.ref (B + tb)]) (rest := []) (n := 1) (c_X5_readNumber hr_48 ht_45 (by first | omega | with_reducible rfl) (by first | omega | with_reducible rfl) (by first | omega | with_reducible rfl) hL (by first | omega | with_reducible rfl) (by first | omega | with_reducible rfl)) gX5_readItem_X5_readNumber rfl rfl rfl (by decide +kernel) ⟨Nat.le_of_ble_eq_true rfl, Nat.le_of_ble_eq_true rfl⟩ rfl (by first | omega | with_reducible rfl) hr_48.1 rfl (Nat.le_of_ble_eq_true rfl) ⟨Nat.zero_le _, Nat.zero_le _⟩ dX5_readItem_88 rfl (fun g_71 hp_72 => ?_)
          obtain ⟨hr_73, hf_74⟩ := hp_72
          have ht_75 : vText cy B g_71 tb n L := vText_fr ht_45 (fun q h1 h2 => hf_74 q (by omega))
          have hd_76 : vDr cy B g_71 (rb + 2) sets dn dv dT dX dV dW := vDr_fr hd_46 (fun q h1 h2 => hf_74 q (by omega))
          have hfr_77 : ∀ q, (q < rb ∨ rb + 2 ≤ q) → g_71 q = g q := fun q hq => (hf_74 q (by omega)).trans (hfr_47 q hq)
          have hr_78 : vReader cy B g_71 rb sr (i6 n L pl) := by have h9 := hr_73; exact h9
          refine w_as (st' := [.int (zI (iV n L pl))]) (sc_i rfl rfl) ?_
          refine w_istore [(5, .int (zI (iV n L pl))), (3, .int (zI 0)), (4, .int (zI (iX n L pl))), (2, .int (zI (iT n L pl))), (0, .ref (B + rb)), (1, .ref (B + tb))] dX5_readItem_91 (by decide) rfl ?_
          refine w_aload_n dX5_readItem_93 rfl 4 rfl ?_
          refine w_aload_n dX5_readItem_94 rfl 5 rfl ?_
          refine w_bipush dX5_readItem_95 (by decide) ?_
          refine w_calli (As := [.ref (B + tb), .int (zI 59)]) (rest := []) (n := 2) (c_X5_readSign hr_78 ht_75 (by first | omega | with_reducible rfl) (by first | omega | with_reducible rfl) (by first | omega | with_reducible rfl) hL (by first | omega | with_reducible rfl) (by first | omega | with_reducible rfl) (by first | omega | with_reducible rfl)) gX5_readItem_X5_readSign rfl rfl rfl (by decide +kernel) ⟨Nat.le_of_ble_eq_true rfl, Nat.le_of_ble_eq_true rfl⟩ rfl (by first | omega | with_reducible rfl) hr_78.1 rfl (Nat.le_of_ble_eq_true rfl) ⟨Nat.zero_le _, Nat.zero_le _⟩ dX5_readItem_97 rfl (fun g_79 hp_80 => ?_)
          obtain ⟨hr_81, hf_82⟩ := hp_80
          have ht_83 : vText cy B g_79 tb n L := vText_fr ht_75 (fun q h1 h2 => hf_82 q (by omega))
          have hd_84 : vDr cy B g_79 (rb + 2) sets dn dv dT dX dV dW := vDr_fr hd_76 (fun q h1 h2 => hf_82 q (by omega))
          have hfr_85 : ∀ q, (q < rb ∨ rb + 2 ≤ q) → g_79 q = g q := fun q hq => (hf_82 q (by omega)).trans (hfr_77 q hq)
          have hr_86 : vReader cy B g_79 rb sr (i7 n L pl) := by have h9 := hr_81; exact h9
          refine w_ifeqB 111 dX5_readItem_100 (by decide) (fun c_100 => ?_) (fun c_100 => ?_)
          · refine w_iconst dX5_readItem_111 ?_
            refine w_istore_n [(3, .int (zI 0)), (5, .int (zI (iV n L pl))), (4, .int (zI (iX n L pl))), (2, .int (zI (iT n L pl))), (0, .ref (B + rb)), (1, .ref (B + tb))] dX5_readItem_112 rfl (by decide) rfl ?_
            refine w_iload_n dX5_readItem_113 rfl 0 rfl ?_
            refine w_if_eq 133 dX5_readItem_114 (by decide) (by first | omega | with_reducible rfl) (fun c_114 => ?_) (fun c_114 => ?_)
            · refine w_iconst dX5_readItem_133 ?_
              exact w_zret dX5_readItem_134 rfl rfl (by first | with_reducible rfl | omega) ⟨(i7 n L pl), hr_86, (by first | omega | assumption), hfr_85⟩
            · refine w_aload_n dX5_readItem_117 rfl 4 rfl ?_
              refine w_iload_n dX5_readItem_118 rfl 3 rfl ?_
              refine w_iload dX5_readItem_119 2 rfl ?_
              refine w_iload dX5_readItem_121 1 rfl ?_
              refine w_calli (As := [.int (zI (iT n L pl)), .int (zI (iX n L pl)), .int (zI (iV n L pl))]) (rest := []) (n := 3) (c_X5_addC_no0 hr_86 (by first | omega | with_reducible rfl) (by first | omega | with_reducible rfl)) gX5_readItem_X5_addColumn rfl rfl rfl (by decide +kernel) ⟨Nat.le_of_ble_eq_true rfl, Nat.le_of_ble_eq_true rfl⟩ rfl (by first | omega | with_reducible rfl) hr_86.1 rfl (Nat.le_of_ble_eq_true rfl) ⟨Nat.zero_le _, Nat.zero_le _⟩ dX5_readItem_123 rfl (fun g_87 hp_88 => ?_)
              subst g_87
              refine w_if_eq 133 dX5_readItem_126 (by decide) (by first | omega | with_reducible rfl) (fun c_126 => ?_) (fun c_126 => ?_)
              · refine w_iconst dX5_readItem_133 ?_
                exact w_zret dX5_readItem_134 rfl rfl (by first | with_reducible rfl | omega) ⟨(i7 n L pl), hr_86, (by first | omega | assumption), hfr_85⟩
              · refine w_iconst dX5_readItem_129 ?_
                refine w_goto 134 dX5_readItem_130 (by decide) ?_
                exact w_zret dX5_readItem_134 rfl rfl (by first | with_reducible rfl | omega) ⟨(i7 n L pl), hr_86, (by first | omega | assumption), hfr_85⟩
          · refine w_iload_n dX5_readItem_103 rfl 1 rfl ?_
            refine w_if_eq 111 dX5_readItem_104 (by decide) (by first | omega | with_reducible rfl) (fun c_104 => ?_) (fun c_104 => ?_)
            · refine w_iconst dX5_readItem_111 ?_
              refine w_istore_n [(3, .int (zI 0)), (5, .int (zI (iV n L pl))), (4, .int (zI (iX n L pl))), (2, .int (zI (iT n L pl))), (0, .ref (B + rb)), (1, .ref (B + tb))] dX5_readItem_112 rfl (by decide) rfl ?_
              refine w_iload_n dX5_readItem_113 rfl 0 rfl ?_
              refine w_if_eq 133 dX5_readItem_114 (by decide) (by first | omega | with_reducible rfl) (fun c_114 => ?_) (fun c_114 => ?_)
              · refine w_iconst dX5_readItem_133 ?_
                exact w_zret dX5_readItem_134 rfl rfl (by first | with_reducible rfl | omega) ⟨(i7 n L pl), hr_86, (by first | omega | assumption), hfr_85⟩
              · refine w_aload_n dX5_readItem_117 rfl 4 rfl ?_
                refine w_iload_n dX5_readItem_118 rfl 3 rfl ?_
                refine w_iload dX5_readItem_119 2 rfl ?_
                refine w_iload dX5_readItem_121 1 rfl ?_
                refine w_calli (As := [.int (zI (iT n L pl)), .int (zI (iX n L pl)), .int (zI (iV n L pl))]) (rest := []) (n := 3) (c_X5_addC_no0 hr_86 (by first | omega | with_reducible rfl) (by first | omega | with_reducible rfl)) gX5_readItem_X5_addColumn rfl rfl rfl (by decide +kernel) ⟨Nat.le_of_ble_eq_true rfl, Nat.le_of_ble_eq_true rfl⟩ rfl (by first | omega | with_reducible rfl) hr_86.1 rfl (Nat.le_of_ble_eq_true rfl) ⟨Nat.zero_le _, Nat.zero_le _⟩ dX5_readItem_123 rfl (fun g_89 hp_90 => ?_)
                subst g_89
                refine w_if_eq 133 dX5_readItem_126 (by decide) (by first | omega | with_reducible rfl) (fun c_126 => ?_) (fun c_126 => ?_)
                · refine w_iconst dX5_readItem_133 ?_
                  exact w_zret dX5_readItem_134 rfl rfl (by first | with_reducible rfl | omega) ⟨(i7 n L pl), hr_86, (by first | omega | assumption), hfr_85⟩
                · refine w_iconst dX5_readItem_129 ?_
                  refine w_goto 134 dX5_readItem_130 (by decide) ?_
                  exact w_zret dX5_readItem_134 rfl rfl (by first | with_reducible rfl | omega) ⟨(i7 n L pl), hr_86, (by first | omega | assumption), hfr_85⟩
            · refine w_iconst dX5_readItem_107 ?_
              refine w_goto 112 dX5_readItem_108 (by decide) ?_
              refine w_istore_n [(3, .int (zI 1)), (5, .int (zI (iV n L pl))), (4, .int (zI (iX n L pl))), (2, .int (zI (iT n L pl))), (0, .ref (B + rb)), (1, .ref (B + tb))] dX5_readItem_112 rfl (by decide) rfl ?_
              refine w_iload_n dX5_readItem_113 rfl 0 rfl ?_
              refine w_if_eq 133 dX5_readItem_114 (by decide) (by first | omega | with_reducible rfl) (fun c_114 => ?_) (fun c_114 => ?_)
              · refine w_iconst dX5_readItem_133 ?_
                exact w_zret dX5_readItem_134 rfl rfl (by first | with_reducible rfl | omega) ⟨(i7 n L pl), hr_86, (by first | omega | assumption), hfr_85⟩
              · refine w_aload_n dX5_readItem_117 rfl 4 rfl ?_
                refine w_iload_n dX5_readItem_118 rfl 3 rfl ?_
                refine w_iload dX5_readItem_119 2 rfl ?_
                refine w_iload dX5_readItem_121 1 rfl ?_
                refine w_calli (As := [.int (zI (iT n L pl)), .int (zI (iX n L pl)), .int (zI (iV n L pl))]) (rest := []) (n := 3) (c_X5_addC_no0 hr_86 (by first | omega | with_reducible rfl) (by first | omega | with_reducible rfl)) gX5_readItem_X5_addColumn rfl rfl rfl (by decide +kernel) ⟨Nat.le_of_ble_eq_true rfl, Nat.le_of_ble_eq_true rfl⟩ rfl (by first | omega | with_reducible rfl) hr_86.1 rfl (Nat.le_of_ble_eq_true rfl) ⟨Nat.zero_le _, Nat.zero_le _⟩ dX5_readItem_123 rfl (fun g_91 hp_92 => ?_)
                subst g_91
                refine w_if_eq 133 dX5_readItem_126 (by decide) (by first | omega | with_reducible rfl) (fun c_126 => ?_) (fun c_126 => ?_)
                · refine w_iconst dX5_readItem_133 ?_
                  exact w_zret dX5_readItem_134 rfl rfl (by first | with_reducible rfl | omega) ⟨(i7 n L pl), hr_86, (by first | omega | assumption), hfr_85⟩
                · refine w_iconst dX5_readItem_129 ?_
                  refine w_goto 134 dX5_readItem_130 (by decide) ?_
                  exact w_zret dX5_readItem_134 rfl rfl (by first | with_reducible rfl | omega) ⟨(i7 n L pl), hr_86, (by first | omega | assumption), hfr_85⟩
        · refine w_iconst dX5_readItem_80 ?_
          refine w_goto 85 dX5_readItem_81 (by decide) ?_
          refine w_istore_n [(3, .int (zI 1)), (4, .int (zI (iX n L pl))), (2, .int (zI (iT n L pl))), (0, .ref (B + rb)), (1, .ref (B + tb))] dX5_readItem_85 rfl (by decide) rfl ?_
          refine w_aload_n dX5_readItem_86 rfl 3 rfl ?_
          refine w_aload_n dX5_readItem_87 rfl 4 rfl ?_
          refine w_calli (As := [.ref (B + tb)]) (rest := []) (n := 1) (c_X5_readNumber hr_48 ht_45 (by first | omega | with_reducible rfl) (by first | omega | with_reducible rfl) (by first | omega | with_reducible rfl) hL (by first | omega | with_reducible rfl) (by first | omega | with_reducible rfl)) gX5_readItem_X5_readNumber rfl rfl rfl (by decide +kernel) ⟨Nat.le_of_ble_eq_true rfl, Nat.le_of_ble_eq_true rfl⟩ rfl (by first | omega | with_reducible rfl) hr_48.1 rfl (Nat.le_of_ble_eq_true rfl) ⟨Nat.zero_le _, Nat.zero_le _⟩ dX5_readItem_88 rfl (fun g_93 hp_94 => ?_)
          obtain ⟨hr_95, hf_96⟩ := hp_94
          have ht_97 : vText cy B g_93 tb n L := vText_fr ht_45 (fun q h1 h2 => hf_96 q (by omega))
          have hd_98 : vDr cy B g_93 (rb + 2) sets dn dv dT dX dV dW := vDr_fr hd_46 (fun q h1 h2 => hf_96 q (by omega))
          have hfr_99 : ∀ q, (q < rb ∨ rb + 2 ≤ q) → g_93 q = g q := fun q hq => (hf_96 q (by omega)).trans (hfr_47 q hq)
          have hr_100 : vReader cy B g_93 rb sr (i6 n L pl) := by have h9 := hr_95; exact h9
          refine w_as (st' := [.int (zI (iV n L pl))]) (sc_i rfl rfl) ?_
          refine w_istore [(5, .int (zI (iV n L pl))), (3, .int (zI 1)), (4, .int (zI (iX n L pl))), (2, .int (zI (iT n L pl))), (0, .ref (B + rb)), (1, .ref (B + tb))] dX5_readItem_91 (by decide) rfl ?_
          refine w_aload_n dX5_readItem_93 rfl 4 rfl ?_
          refine w_aload_n dX5_readItem_94 rfl 5 rfl ?_
          refine w_bipush dX5_readItem_95 (by decide) ?_
          refine w_calli (As := [.ref (B + tb), .int (zI 59)]) (rest := []) (n := 2) (c_X5_readSign hr_100 ht_97 (by first | omega | with_reducible rfl) (by first | omega | with_reducible rfl) (by first | omega | with_reducible rfl) hL (by first | omega | with_reducible rfl) (by first | omega | with_reducible rfl) (by first | omega | with_reducible rfl)) gX5_readItem_X5_readSign rfl rfl rfl (by decide +kernel) ⟨Nat.le_of_ble_eq_true rfl, Nat.le_of_ble_eq_true rfl⟩ rfl (by first | omega | with_reducible rfl) hr_100.1 rfl (Nat.le_of_ble_eq_true rfl) ⟨Nat.zero_le _, Nat.zero_le _⟩ dX5_readItem_97 rfl (fun g_101 hp_102 => ?_)
          obtain ⟨hr_103, hf_104⟩ := hp_102
          have ht_105 : vText cy B g_101 tb n L := vText_fr ht_97 (fun q h1 h2 => hf_104 q (by omega))
          have hd_106 : vDr cy B g_101 (rb + 2) sets dn dv dT dX dV dW := vDr_fr hd_98 (fun q h1 h2 => hf_104 q (by omega))
          have hfr_107 : ∀ q, (q < rb ∨ rb + 2 ≤ q) → g_101 q = g q := fun q hq => (hf_104 q (by omega)).trans (hfr_99 q hq)
          have hr_108 : vReader cy B g_101 rb sr (i7 n L pl) := by have h9 := hr_103; exact h9
          refine w_ifeqB 111 dX5_readItem_100 (by decide) (fun c_100 => ?_) (fun c_100 => ?_)
          · refine w_iconst dX5_readItem_111 ?_
            refine w_istore_n [(3, .int (zI 0)), (5, .int (zI (iV n L pl))), (4, .int (zI (iX n L pl))), (2, .int (zI (iT n L pl))), (0, .ref (B + rb)), (1, .ref (B + tb))] dX5_readItem_112 rfl (by decide) rfl ?_
            refine w_iload_n dX5_readItem_113 rfl 0 rfl ?_
            refine w_if_eq 133 dX5_readItem_114 (by decide) (by first | omega | with_reducible rfl) (fun c_114 => ?_) (fun c_114 => ?_)
            · refine w_iconst dX5_readItem_133 ?_
              exact w_zret dX5_readItem_134 rfl rfl (by first | with_reducible rfl | omega) ⟨(i7 n L pl), hr_108, (by first | omega | assumption), hfr_107⟩
            · refine w_aload_n dX5_readItem_117 rfl 4 rfl ?_
              refine w_iload_n dX5_readItem_118 rfl 3 rfl ?_
              refine w_iload dX5_readItem_119 2 rfl ?_
              refine w_iload dX5_readItem_121 1 rfl ?_
              refine w_calli (As := [.int (zI (iT n L pl)), .int (zI (iX n L pl)), .int (zI (iV n L pl))]) (rest := []) (n := 3) (c_X5_addC_no0 hr_108 (by first | omega | with_reducible rfl) (by first | omega | with_reducible rfl)) gX5_readItem_X5_addColumn rfl rfl rfl (by decide +kernel) ⟨Nat.le_of_ble_eq_true rfl, Nat.le_of_ble_eq_true rfl⟩ rfl (by first | omega | with_reducible rfl) hr_108.1 rfl (Nat.le_of_ble_eq_true rfl) ⟨Nat.zero_le _, Nat.zero_le _⟩ dX5_readItem_123 rfl (fun g_109 hp_110 => ?_)
              subst g_109
              refine w_if_eq 133 dX5_readItem_126 (by decide) (by first | omega | with_reducible rfl) (fun c_126 => ?_) (fun c_126 => ?_)
              · refine w_iconst dX5_readItem_133 ?_
                exact w_zret dX5_readItem_134 rfl rfl (by first | with_reducible rfl | omega) ⟨(i7 n L pl), hr_108, (by first | omega | assumption), hfr_107⟩
              · refine w_iconst dX5_readItem_129 ?_
                refine w_goto 134 dX5_readItem_130 (by decide) ?_
                exact w_zret dX5_readItem_134 rfl rfl (by first | with_reducible rfl | omega) ⟨(i7 n L pl), hr_108, (by first | omega | assumption), hfr_107⟩
          · refine w_iload_n dX5_readItem_103 rfl 1 rfl ?_
            refine w_if_eq 111 dX5_readItem_104 (by decide) (by first | omega | with_reducible rfl) (fun c_104 => ?_) (fun c_104 => ?_)
            · refine w_iconst dX5_readItem_111 ?_
              refine w_istore_n [(3, .int (zI 0)), (5, .int (zI (iV n L pl))), (4, .int (zI (iX n L pl))), (2, .int (zI (iT n L pl))), (0, .ref (B + rb)), (1, .ref (B + tb))] dX5_readItem_112 rfl (by decide) rfl ?_
              refine w_iload_n dX5_readItem_113 rfl 0 rfl ?_
              refine w_if_eq 133 dX5_readItem_114 (by decide) (by first | omega | with_reducible rfl) (fun c_114 => ?_) (fun c_114 => ?_)
              · refine w_iconst dX5_readItem_133 ?_
                exact w_zret dX5_readItem_134 rfl rfl (by first | with_reducible rfl | omega) ⟨(i7 n L pl), hr_108, (by first | omega | assumption), hfr_107⟩
              · refine w_aload_n dX5_readItem_117 rfl 4 rfl ?_
                refine w_iload_n dX5_readItem_118 rfl 3 rfl ?_
                refine w_iload dX5_readItem_119 2 rfl ?_
                refine w_iload dX5_readItem_121 1 rfl ?_
                refine w_calli (As := [.int (zI (iT n L pl)), .int (zI (iX n L pl)), .int (zI (iV n L pl))]) (rest := []) (n := 3) (c_X5_addC_no0 hr_108 (by first | omega | with_reducible rfl) (by first | omega | with_reducible rfl)) gX5_readItem_X5_addColumn rfl rfl rfl (by decide +kernel) ⟨Nat.le_of_ble_eq_true rfl, Nat.le_of_ble_eq_true rfl⟩ rfl (by first | omega | with_reducible rfl) hr_108.1 rfl (Nat.le_of_ble_eq_true rfl) ⟨Nat.zero_le _, Nat.zero_le _⟩ dX5_readItem_123 rfl (fun g_111 hp_112 => ?_)
                subst g_111
                refine w_if_eq 133 dX5_readItem_126 (by decide) (by first | omega | with_reducible rfl) (fun c_126 => ?_) (fun c_126 => ?_)
                · refine w_iconst dX5_readItem_133 ?_
                  exact w_zret dX5_readItem_134 rfl rfl (by first | with_reducible rfl | omega) ⟨(i7 n L pl), hr_108, (by first | omega | assumption), hfr_107⟩
                · refine w_iconst dX5_readItem_129 ?_
                  refine w_goto 134 dX5_readItem_130 (by decide) ?_
                  exact w_zret dX5_readItem_134 rfl rfl (by first | with_reducible rfl | omega) ⟨(i7 n L pl), hr_108, (by first | omega | assumption), hfr_107⟩
            · refine w_iconst dX5_readItem_107 ?_
              refine w_goto 112 dX5_readItem_108 (by decide) ?_
              refine w_istore_n [(3, .int (zI 1)), (5, .int (zI (iV n L pl))), (4, .int (zI (iX n L pl))), (2, .int (zI (iT n L pl))), (0, .ref (B + rb)), (1, .ref (B + tb))] dX5_readItem_112 rfl (by decide) rfl ?_
              refine w_iload_n dX5_readItem_113 rfl 0 rfl ?_
              refine w_if_eq 133 dX5_readItem_114 (by decide) (by first | omega | with_reducible rfl) (fun c_114 => ?_) (fun c_114 => ?_)
              · refine w_iconst dX5_readItem_133 ?_
                exact w_zret dX5_readItem_134 rfl rfl (by first | with_reducible rfl | omega) ⟨(i7 n L pl), hr_108, (by first | omega | assumption), hfr_107⟩
              · refine w_aload_n dX5_readItem_117 rfl 4 rfl ?_
                refine w_iload_n dX5_readItem_118 rfl 3 rfl ?_
                refine w_iload dX5_readItem_119 2 rfl ?_
                refine w_iload dX5_readItem_121 1 rfl ?_
                refine w_calli (As := [.int (zI (iT n L pl)), .int (zI (iX n L pl)), .int (zI (iV n L pl))]) (rest := []) (n := 3) (c_X5_addC_no0 hr_108 (by first | omega | with_reducible rfl) (by first | omega | with_reducible rfl)) gX5_readItem_X5_addColumn rfl rfl rfl (by decide +kernel) ⟨Nat.le_of_ble_eq_true rfl, Nat.le_of_ble_eq_true rfl⟩ rfl (by first | omega | with_reducible rfl) hr_108.1 rfl (Nat.le_of_ble_eq_true rfl) ⟨Nat.zero_le _, Nat.zero_le _⟩ dX5_readItem_123 rfl (fun g_113 hp_114 => ?_)
                subst g_113
                refine w_if_eq 133 dX5_readItem_126 (by decide) (by first | omega | with_reducible rfl) (fun c_126 => ?_) (fun c_126 => ?_)
                · refine w_iconst dX5_readItem_133 ?_
                  exact w_zret dX5_readItem_134 rfl rfl (by first | with_reducible rfl | omega) ⟨(i7 n L pl), hr_108, (by first | omega | assumption), hfr_107⟩
                · refine w_iconst dX5_readItem_129 ?_
                  refine w_goto 134 dX5_readItem_130 (by decide) ?_
                  exact w_zret dX5_readItem_134 rfl rfl (by first | with_reducible rfl | omega) ⟨(i7 n L pl), hr_108, (by first | omega | assumption), hfr_107⟩
    · have hr_115 : vReader cy B g_9 rb sr pl := by have h9 := hr_11; rw [if_neg c_40] at h9; exact h9
      refine w_iconst dX5_readItem_43 ?_
      exact w_zret dX5_readItem_44 rfl rfl (by first | with_reducible rfl | omega) ⟨pl, hr_115, (by first | omega | assumption), hfr_15⟩
  · exfalso; omega
set_option maxHeartbeats 4000000 in
set_option maxRecDepth 100000 in
theorem c_X5_item_no1 {l : Launch} {D : va_G} {cy : Nat → ClassId} {B N : Nat} {g : Nat → va_E} {rb sr : Nat} {pl : Int} {tb n : Nat} {L : Int → Int} {sets : Nat} {dn : Nat → Nat} {dv : Nat → Int} {dT dX dV : Nat → Int → Int} {dW : Nat → Nat → Int → Int} {Cn : Nat → Int → Int} (hr : vReader cy B g rb sr pl) (ht : vText cy B g tb n L) (hd : vDr cy B g (rb + 2) sets dn dv dT dX dV dW) (hs : vSets cy B g sets Cn) (hR : rb + 2 ≤ N) (hT : tb + 2 ≤ N) (hn : n ≤ 200) (hL : ∀ i : Int, 0 ≤ i → i < n → 0 ≤ L i ∧ L i < 65536) (hpl : 0 ≤ pl ∧ pl ≤ 200) (hrt : rb + 2 ≤ tb ∨ tb + 2 ≤ rb) (hsr : sr ≤ 3) (hD : rb + 32 ≤ N) (hdt : tb + 2 ≤ rb ∨ rb + 32 ≤ tb) (hSn : sets + 15 ≤ N) (hsd : sets + 15 ≤ rb ∨ rb + 32 ≤ sets) (h0 : ¬ inA n L pl = 115) (hs0 : 0 < sr) (hdn : dn (sr - 1) ≤ 5) (hno : ¬ ((inA n L pl = 99 ∧ inA n L (i2 n L pl) = 44 ∧ inA n L (i4 n L pl) = 44 ∧ inA n L (i6 n L pl) = 59) ∧ (1 ≤ iT n L pl ∧ iT n L pl ≤ 12 ∧ 0 ≤ iX n L pl ∧ iX n L pl ≤ iT n L pl ∧ 0 ≤ iV n L pl ∧ iV n L pl ≤ 9) ∧ dn (sr - 1) < 5)) : CTi l yX5_readItem wsX5_readItem (rmo 3 70) D cy B N g [.ref (B + rb), .ref (B + tb)] 0 (fun g' => ∃ pl1 : Int, vReader cy B g' rb sr pl1 ∧ (0 ≤ pl1 ∧ pl1 ≤ 1000) ∧ (∀ q, (q < rb ∨ rb + 2 ≤ q) → g' q = g q)) := by
  refine WW_of (cc := cX5_readItem) (maxL := 6) (ret := (some .boolean)) (own := RX5) (by decide) rfl rfl (Nat.le_of_ble_eq_true rfl) rfl ?_
  intro pp ee ss mm bl me co hmn
  have hfr_0 : ∀ q, (q < rb ∨ rb + 2 ≤ q) → g q = g q := fun _ _ => rfl
  have hig := i_rg n L pl
  have hv1 : -1 ≤ iT n L pl ∧ iT n L pl ≤ 99 := numV_rg n L (pl + 1)
  have hv2 : -1 ≤ iX n L pl ∧ iX n L pl ≤ 99 := numV_rg n L (i3 n L pl)
  have hv3 : -1 ≤ iV n L pl ∧ iV n L pl ≤ 99 := numV_rg n L (i5 n L pl)
  refine w_aload_n dX5_readItem_0 rfl 0 rfl ?_
  refine w_aload_n dX5_readItem_1 rfl 1 rfl ?_
  refine w_bipush dX5_readItem_2 (by decide) ?_
  refine w_calli (As := [.ref (B + tb), .int (zI 115)]) (rest := []) (n := 2) (c_X5_readSign hr ht (by first | omega | with_reducible rfl) (by first | omega | with_reducible rfl) (by first | omega | with_reducible rfl) hL (by first | omega | with_reducible rfl) (by first | omega | with_reducible rfl) (by first | omega | with_reducible rfl)) gX5_readItem_X5_readSign rfl rfl rfl (by decide +kernel) ⟨Nat.le_of_ble_eq_true rfl, Nat.le_of_ble_eq_true rfl⟩ rfl (by first | omega | with_reducible rfl) hr.1 rfl (Nat.le_of_ble_eq_true rfl) ⟨Nat.zero_le _, Nat.zero_le _⟩ dX5_readItem_4 rfl (fun g_1 hp_2 => ?_)
  obtain ⟨hr_3, hf_4⟩ := hp_2
  have ht_5 : vText cy B g_1 tb n L := vText_fr ht (fun q h1 h2 => hf_4 q (by omega))
  have hd_6 : vDr cy B g_1 (rb + 2) sets dn dv dT dX dV dW := vDr_fr hd (fun q h1 h2 => hf_4 q (by omega))
  have hs_7 : vSets cy B g_1 sets Cn := vSets_fr hs (fun q h1 h2 => hf_4 q (by omega))
  have hfr_8 : ∀ q, (q < rb ∨ rb + 2 ≤ q) → g_1 q = g q := fun q hq => (hf_4 q (by omega)).trans (hfr_0 q hq)
  refine w_ifeqB 33 dX5_readItem_7 (by decide) (fun c_7 => ?_) (fun c_7 => ?_)
  · have hr_9 : vReader cy B g_1 rb sr pl := by have h9 := hr_3; rw [if_neg c_7] at h9; exact h9
    refine w_aload_n dX5_readItem_33 rfl 0 rfl ?_
    refine w_aload_n dX5_readItem_34 rfl 1 rfl ?_
    refine w_bipush dX5_readItem_35 (by decide) ?_
    refine w_calli (As := [.ref (B + tb), .int (zI 99)]) (rest := []) (n := 2) (c_X5_readSign hr_9 ht_5 (by first | omega | with_reducible rfl) (by first | omega | with_reducible rfl) (by first | omega | with_reducible rfl) hL (by first | omega | with_reducible rfl) (by first | omega | with_reducible rfl) (by first | omega | with_reducible rfl)) gX5_readItem_X5_readSign rfl rfl rfl (by decide +kernel) ⟨Nat.le_of_ble_eq_true rfl, Nat.le_of_ble_eq_true rfl⟩ rfl (by first | omega | with_reducible rfl) hr_9.1 rfl (Nat.le_of_ble_eq_true rfl) ⟨Nat.zero_le _, Nat.zero_le _⟩ dX5_readItem_37 rfl (fun g_10 hp_11 => ?_)
    obtain ⟨hr_12, hf_13⟩ := hp_11
    have ht_14 : vText cy B g_10 tb n L := vText_fr ht_5 (fun q h1 h2 => hf_13 q (by omega))
    have hd_15 : vDr cy B g_10 (rb + 2) sets dn dv dT dX dV dW := vDr_fr hd_6 (fun q h1 h2 => hf_13 q (by omega))
    have hs_16 : vSets cy B g_10 sets Cn := vSets_fr hs_7 (fun q h1 h2 => hf_13 q (by omega))
    have hfr_17 : ∀ q, (q < rb ∨ rb + 2 ≤ q) → g_10 q = g q := fun q hq => (hf_13 q (by omega)).trans (hfr_8 q hq)
    refine w_ifneB 45 dX5_readItem_40 (by decide) (fun c_40 => ?_) (fun c_40 => ?_)
    · have hr_18 : vReader cy B g_10 rb sr (pl + 1) := by have h9 := hr_12; rw [if_pos c_40] at h9; exact h9
      refine w_aload_n dX5_readItem_45 rfl 0 rfl ?_
      refine w_aload_n dX5_readItem_46 rfl 1 rfl ?_
      refine w_calli (As := [.ref (B + tb)]) (rest := []) (n := 1) (c_X5_readNumber hr_18 ht_14 (by first | omega | with_reducible rfl) (by first | omega | with_reducible rfl) (by first | omega | with_reducible rfl) hL (by first | omega | with_reducible rfl) (by first | omega | with_reducible rfl)) gX5_readItem_X5_readNumber rfl rfl rfl (by decide +kernel) ⟨Nat.le_of_ble_eq_true rfl, Nat.le_of_ble_eq_true rfl⟩ rfl (by first | omega | with_reducible rfl) hr_18.1 rfl (Nat.le_of_ble_eq_true rfl) ⟨Nat.zero_le _, Nat.zero_le _⟩ dX5_readItem_47 rfl (fun g_19 hp_20 => ?_)
      obtain ⟨hr_21, hf_22⟩ := hp_20
      have ht_23 : vText cy B g_19 tb n L := vText_fr ht_14 (fun q h1 h2 => hf_22 q (by omega))
      have hd_24 : vDr cy B g_19 (rb + 2) sets dn dv dT dX dV dW := vDr_fr hd_15 (fun q h1 h2 => hf_22 q (by omega))
      have hs_25 : vSets cy B g_19 sets Cn := vSets_fr hs_16 (fun q h1 h2 => hf_22 q (by omega))
      have hfr_26 : ∀ q, (q < rb ∨ rb + 2 ≤ q) → g_19 q = g q := fun q hq => (hf_22 q (by omega)).trans (hfr_17 q hq)
      have hr_27 : vReader cy B g_19 rb sr (i2 n L pl) := by have h9 := hr_21; exact h9
      refine w_as (st' := [.int (zI (iT n L pl))]) (sc_i rfl rfl) ?_
      refine w_istore_n [(2, .int (zI (iT n L pl))), (0, .ref (B + rb)), (1, .ref (B + tb))] dX5_readItem_50 rfl (by decide) rfl ?_
      refine w_aload_n dX5_readItem_51 rfl 1 rfl ?_
      refine w_aload_n dX5_readItem_52 rfl 2 rfl ?_
      refine w_bipush dX5_readItem_53 (by decide) ?_
      refine w_calli (As := [.ref (B + tb), .int (zI 44)]) (rest := []) (n := 2) (c_X5_readSign hr_27 ht_23 (by first | omega | with_reducible rfl) (by first | omega | with_reducible rfl) (by first | omega | with_reducible rfl) hL (by first | omega | with_reducible rfl) (by first | omega | with_reducible rfl) (by first | omega | with_reducible rfl)) gX5_readItem_X5_readSign rfl rfl rfl (by decide +kernel) ⟨Nat.le_of_ble_eq_true rfl, Nat.le_of_ble_eq_true rfl⟩ rfl (by first | omega | with_reducible rfl) hr_27.1 rfl (Nat.le_of_ble_eq_true rfl) ⟨Nat.zero_le _, Nat.zero_le _⟩ dX5_readItem_55 rfl (fun g_28 hp_29 => ?_)
      obtain ⟨hr_30, hf_31⟩ := hp_29
      have ht_32 : vText cy B g_28 tb n L := vText_fr ht_23 (fun q h1 h2 => hf_31 q (by omega))
      have hd_33 : vDr cy B g_28 (rb + 2) sets dn dv dT dX dV dW := vDr_fr hd_24 (fun q h1 h2 => hf_31 q (by omega))
      have hs_34 : vSets cy B g_28 sets Cn := vSets_fr hs_25 (fun q h1 h2 => hf_31 q (by omega))
      have hfr_35 : ∀ q, (q < rb ∨ rb + 2 ≤ q) → g_28 q = g q := fun q hq => (hf_31 q (by omega)).trans (hfr_26 q hq)
      have hr_36 : vReader cy B g_28 rb sr (i3 n L pl) := by have h9 := hr_30; exact h9
      refine w_istore_n [(3, .int (zI (if inA n L (i2 n L pl) = 44 then 1 else 0))), (2, .int (zI (iT n L pl))), (0, .ref (B + rb)), (1, .ref (B + tb))] dX5_readItem_58 rfl (by decide) rfl ?_
      refine w_aload_n dX5_readItem_59 rfl 2 rfl ?_
      refine w_aload_n dX5_readItem_60 rfl 3 rfl ?_
      refine w_calli (As := [.ref (B + tb)]) (rest := []) (n := 1) (c_X5_readNumber hr_36 ht_32 (by first | omega | with_reducible rfl) (by first | omega | with_reducible rfl) (by first | omega | with_reducible rfl) hL (by first | omega | with_reducible rfl) (by first | omega | with_reducible rfl)) gX5_readItem_X5_readNumber rfl rfl rfl (by decide +kernel) ⟨Nat.le_of_ble_eq_true rfl, Nat.le_of_ble_eq_true rfl⟩ rfl (by first | omega | with_reducible rfl) hr_36.1 rfl (Nat.le_of_ble_eq_true rfl) ⟨Nat.zero_le _, Nat.zero_le _⟩ dX5_readItem_61 rfl (fun g_37 hp_38 => ?_)
      obtain ⟨hr_39, hf_40⟩ := hp_38
      have ht_41 : vText cy B g_37 tb n L := vText_fr ht_32 (fun q h1 h2 => hf_40 q (by omega))
      have hd_42 : vDr cy B g_37 (rb + 2) sets dn dv dT dX dV dW := vDr_fr hd_33 (fun q h1 h2 => hf_40 q (by omega))
      have hs_43 : vSets cy B g_37 sets Cn := vSets_fr hs_34 (fun q h1 h2 => hf_40 q (by omega))
      have hfr_44 : ∀ q, (q < rb ∨ rb + 2 ≤ q) → g_37 q = g q := fun q hq => (hf_40 q (by omega)).trans (hfr_35 q hq)
      have hr_45 : vReader cy B g_37 rb sr (i4 n L pl) := by have h9 := hr_39; exact h9
      refine w_as (st' := [.int (zI (iX n L pl))]) (sc_i rfl rfl) ?_
      refine w_istore [(4, .int (zI (iX n L pl))), (3, .int (zI (if inA n L (i2 n L pl) = 44 then 1 else 0))), (2, .int (zI (iT n L pl))), (0, .ref (B + rb)), (1, .ref (B + tb))] dX5_readItem_64 (by decide) rfl ?_
      refine w_aload_n dX5_readItem_66 rfl 3 rfl ?_
      refine w_aload_n dX5_readItem_67 rfl 4 rfl ?_
      refine w_bipush dX5_readItem_68 (by decide) ?_
      refine w_calli (As := [.ref (B + tb), .int (zI 44)]) (rest := []) (n := 2) (c_X5_readSign hr_45 ht_41 (by first | omega | with_reducible rfl) (by first | omega | with_reducible rfl) (by first | omega | with_reducible rfl) hL (by first | omega | with_reducible rfl) (by first | omega | with_reducible rfl) (by first | omega | with_reducible rfl)) gX5_readItem_X5_readSign rfl rfl rfl (by decide +kernel) ⟨Nat.le_of_ble_eq_true rfl, Nat.le_of_ble_eq_true rfl⟩ rfl (by first | omega | with_reducible rfl) hr_45.1 rfl (Nat.le_of_ble_eq_true rfl) ⟨Nat.zero_le _, Nat.zero_le _⟩ dX5_readItem_70 rfl (fun g_46 hp_47 => ?_)
      obtain ⟨hr_48, hf_49⟩ := hp_47
      have ht_50 : vText cy B g_46 tb n L := vText_fr ht_41 (fun q h1 h2 => hf_49 q (by omega))
      have hd_51 : vDr cy B g_46 (rb + 2) sets dn dv dT dX dV dW := vDr_fr hd_42 (fun q h1 h2 => hf_49 q (by omega))
      have hs_52 : vSets cy B g_46 sets Cn := vSets_fr hs_43 (fun q h1 h2 => hf_49 q (by omega))
      have hfr_53 : ∀ q, (q < rb ∨ rb + 2 ≤ q) → g_46 q = g q := fun q hq => (hf_49 q (by omega)).trans (hfr_44 q hq)
      have hr_54 : vReader cy B g_46 rb sr (i5 n L pl) := by have h9 := hr_48; exact h9
      refine w_ifeqB 84 dX5_readItem_73 (by decide) (fun c_73 => ?_) (fun c_73 => ?_)
      · refine w_iconst dX5_readItem_84 ?_
        refine w_istore_n [(3, .int (zI 0)), (4, .int (zI (iX n L pl))), (2, .int (zI (iT n L pl))), (0, .ref (B + rb)), (1, .ref (B + tb))] dX5_readItem_85 rfl (by decide) rfl ?_
        refine w_aload_n dX5_readItem_86 rfl 3 rfl ?_
        refine w_aload_n dX5_readItem_87 rfl 4 rfl ?_
        refine w_calli (As := [.ref (B + tb)]) (rest := []) (n := 1) (c_X5_readNumber hr_54 ht_50 (by first | omega | with_reducible rfl) (by first | omega | with_reducible rfl) (by first | omega | with_reducible rfl) hL (by first | omega | with_reducible rfl) (by first | omega | with_reducible rfl)) gX5_readItem_X5_readNumber rfl rfl rfl (by decide +kernel) ⟨Nat.le_of_ble_eq_true rfl, Nat.le_of_ble_eq_true rfl⟩ rfl (by first | omega | with_reducible rfl) hr_54.1 rfl (Nat.le_of_ble_eq_true rfl) ⟨Nat.zero_le _, Nat.zero_le _⟩ dX5_readItem_88 rfl (fun g_55 hp_56 => ?_)
        obtain ⟨hr_57, hf_58⟩ := hp_56
        have ht_59 : vText cy B g_55 tb n L := vText_fr ht_50 (fun q h1 h2 => hf_58 q (by omega))
        have hd_60 : vDr cy B g_55 (rb + 2) sets dn dv dT dX dV dW := vDr_fr hd_51 (fun q h1 h2 => hf_58 q (by omega))
        have hs_61 : vSets cy B g_55 sets Cn := vSets_fr hs_52 (fun q h1 h2 => hf_58 q (by omega))
        have hfr_62 : ∀ q, (q < rb ∨ rb + 2 ≤ q) → g_55 q = g q := fun q hq => (hf_58 q (by omega)).trans (hfr_53 q hq)
        have hr_63 : vReader cy B g_55 rb sr (i6 n L pl) := by have h9 := hr_57; exact h9
        refine w_as (st' := [.int (zI (iV n L pl))]) (sc_i rfl rfl) ?_
        refine w_istore [(5, .int (zI (iV n L pl))), (3, .int (zI 0)), (4, .int (zI (iX n L pl))), (2, .int (zI (iT n L pl))), (0, .ref (B + rb)), (1, .ref (B + tb))] dX5_readItem_91 (by decide) rfl ?_
        refine w_aload_n dX5_readItem_93 rfl 4 rfl ?_
        refine w_aload_n dX5_readItem_94 rfl 5 rfl ?_
        refine w_bipush dX5_readItem_95 (by decide) ?_
        refine w_calli (As := [.ref (B + tb), .int (zI 59)]) (rest := []) (n := 2) (c_X5_readSign hr_63 ht_59 (by first | omega | with_reducible rfl) (by first | omega | with_reducible rfl) (by first | omega | with_reducible rfl) hL (by first | omega | with_reducible rfl) (by first | omega | with_reducible rfl) (by first | omega | with_reducible rfl)) gX5_readItem_X5_readSign rfl rfl rfl (by decide +kernel) ⟨Nat.le_of_ble_eq_true rfl, Nat.le_of_ble_eq_true rfl⟩ rfl (by first | omega | with_reducible rfl) hr_63.1 rfl (Nat.le_of_ble_eq_true rfl) ⟨Nat.zero_le _, Nat.zero_le _⟩ dX5_readItem_97 rfl (fun g_64 hp_65 => ?_)
        obtain ⟨hr_66, hf_67⟩ := hp_65
        have ht_68 : vText cy B g_64 tb n L := vText_fr ht_59 (fun q h1 h2 => hf_67 q (by omega))
        have hd_69 : vDr cy B g_64 (rb + 2) sets dn dv dT dX dV dW := vDr_fr hd_60 (fun q h1 h2 => hf_67 q (by omega))
        have hs_70 : vSets cy B g_64 sets Cn := vSets_fr hs_61 (fun q h1 h2 => hf_67 q (by omega))
        have hfr_71 : ∀ q, (q < rb ∨ rb + 2 ≤ q) → g_64 q = g q := fun q hq => (hf_67 q (by omega)).trans (hfr_62 q hq)
        have hr_72 : vReader cy B g_64 rb sr (i7 n L pl) := by have h9 := hr_66; exact h9
        refine w_ifeqB 111 dX5_readItem_100 (by decide) (fun c_100 => ?_) (fun c_100 => ?_)
        · refine w_iconst dX5_readItem_111 ?_
          refine w_istore_n [(3, .int (zI 0)), (5, .int (zI (iV n L pl))), (4, .int (zI (iX n L pl))), (2, .int (zI (iT n L pl))), (0, .ref (B + rb)), (1, .ref (B + tb))] dX5_readItem_112 rfl (by decide) rfl ?_
          refine w_iload_n dX5_readItem_113 rfl 0 rfl ?_
          refine w_if_eq 133 dX5_readItem_114 (by decide) (by first | omega | with_reducible rfl) (fun c_114 => ?_) (fun c_114 => ?_)
          · refine w_iconst dX5_readItem_133 ?_
            exact w_zret dX5_readItem_134 rfl rfl (by first | with_reducible rfl | omega) ⟨(i7 n L pl), hr_72, (by first | omega | assumption), hfr_71⟩
          · refine w_aload_n dX5_readItem_117 rfl 4 rfl ?_
            refine w_iload_n dX5_readItem_118 rfl 3 rfl ?_
            refine w_iload dX5_readItem_119 2 rfl ?_
            refine w_iload dX5_readItem_121 1 rfl ?_
            refine w_calli (As := [.int (zI (iT n L pl)), .int (zI (iX n L pl)), .int (zI (iV n L pl))]) (rest := []) (n := 3) (c_X5_addC_no1 hr_72 hd_69 hs_70 (by first | omega | with_reducible rfl) (by first | omega | with_reducible rfl) (by first | omega | with_reducible rfl) (by first | omega | with_reducible rfl) (by first | omega | with_reducible rfl) (by first | omega | with_reducible rfl) (by first | omega | with_reducible rfl) (by first | omega | with_reducible rfl) (by first | omega | with_reducible rfl) (by first | omega | with_reducible rfl) (by first | omega | with_reducible rfl)) gX5_readItem_X5_addColumn rfl rfl rfl (by decide +kernel) ⟨Nat.le_of_ble_eq_true rfl, Nat.le_of_ble_eq_true rfl⟩ rfl (by first | omega | with_reducible rfl) hr_72.1 rfl (Nat.le_of_ble_eq_true rfl) ⟨Nat.zero_le _, Nat.zero_le _⟩ dX5_readItem_123 rfl (fun g_73 hp_74 => ?_)
            subst g_73
            refine w_if_eq 133 dX5_readItem_126 (by decide) (by first | omega | with_reducible rfl) (fun c_126 => ?_) (fun c_126 => ?_)
            · refine w_iconst dX5_readItem_133 ?_
              exact w_zret dX5_readItem_134 rfl rfl (by first | with_reducible rfl | omega) ⟨(i7 n L pl), hr_72, (by first | omega | assumption), hfr_71⟩
            · refine w_iconst dX5_readItem_129 ?_
              refine w_goto 134 dX5_readItem_130 (by decide) ?_
              exact w_zret dX5_readItem_134 rfl rfl (by first | with_reducible rfl | omega) ⟨(i7 n L pl), hr_72, (by first | omega | assumption), hfr_71⟩
        · refine w_iload_n dX5_readItem_103 rfl 1 rfl ?_
          refine w_if_eq 111 dX5_readItem_104 (by decide) (by first | omega | with_reducible rfl) (fun c_104 => ?_) (fun c_104 => ?_)
          · refine w_iconst dX5_readItem_111 ?_
            refine w_istore_n [(3, .int (zI 0)), (5, .int (zI (iV n L pl))), (4, .int (zI (iX n L pl))), (2, .int (zI (iT n L pl))), (0, .ref (B + rb)), (1, .ref (B + tb))] dX5_readItem_112 rfl (by decide) rfl ?_
            refine w_iload_n dX5_readItem_113 rfl 0 rfl ?_
            refine w_if_eq 133 dX5_readItem_114 (by decide) (by first | omega | with_reducible rfl) (fun c_114 => ?_) (fun c_114 => ?_)
            · refine w_iconst dX5_readItem_133 ?_
              exact w_zret dX5_readItem_134 rfl rfl (by first | with_reducible rfl | omega) ⟨(i7 n L pl), hr_72, (by first | omega | assumption), hfr_71⟩
            · refine w_aload_n dX5_readItem_117 rfl 4 rfl ?_
              refine w_iload_n dX5_readItem_118 rfl 3 rfl ?_
              refine w_iload dX5_readItem_119 2 rfl ?_
              refine w_iload dX5_readItem_121 1 rfl ?_
              refine w_calli (As := [.int (zI (iT n L pl)), .int (zI (iX n L pl)), .int (zI (iV n L pl))]) (rest := []) (n := 3) (c_X5_addC_no1 hr_72 hd_69 hs_70 (by first | omega | with_reducible rfl) (by first | omega | with_reducible rfl) (by first | omega | with_reducible rfl) (by first | omega | with_reducible rfl) (by first | omega | with_reducible rfl) (by first | omega | with_reducible rfl) (by first | omega | with_reducible rfl) (by first | omega | with_reducible rfl) (by first | omega | with_reducible rfl) (by first | omega | with_reducible rfl) (by first | omega | with_reducible rfl)) gX5_readItem_X5_addColumn rfl rfl rfl (by decide +kernel) ⟨Nat.le_of_ble_eq_true rfl, Nat.le_of_ble_eq_true rfl⟩ rfl (by first | omega | with_reducible rfl) hr_72.1 rfl (Nat.le_of_ble_eq_true rfl) ⟨Nat.zero_le _, Nat.zero_le _⟩ dX5_readItem_123 rfl (fun g_75 hp_76 => ?_)
              subst g_75
              refine w_if_eq 133 dX5_readItem_126 (by decide) (by first | omega | with_reducible rfl) (fun c_126 => ?_) (fun c_126 => ?_)
              · refine w_iconst dX5_readItem_133 ?_
                exact w_zret dX5_readItem_134 rfl rfl (by first | with_reducible rfl | omega) ⟨(i7 n L pl), hr_72, (by first | omega | assumption), hfr_71⟩
              · refine w_iconst dX5_readItem_129 ?_
                refine w_goto 134 dX5_readItem_130 (by decide) ?_
                exact w_zret dX5_readItem_134 rfl rfl (by first | with_reducible rfl | omega) ⟨(i7 n L pl), hr_72, (by first | omega | assumption), hfr_71⟩
          · refine w_iconst dX5_readItem_107 ?_
            refine w_goto 112 dX5_readItem_108 (by decide) ?_
            refine w_istore_n [(3, .int (zI 1)), (5, .int (zI (iV n L pl))), (4, .int (zI (iX n L pl))), (2, .int (zI (iT n L pl))), (0, .ref (B + rb)), (1, .ref (B + tb))] dX5_readItem_112 rfl (by decide) rfl ?_
            refine w_iload_n dX5_readItem_113 rfl 0 rfl ?_
            refine w_if_eq 133 dX5_readItem_114 (by decide) (by first | omega | with_reducible rfl) (fun c_114 => ?_) (fun c_114 => ?_)
            · refine w_iconst dX5_readItem_133 ?_
              exact w_zret dX5_readItem_134 rfl rfl (by first | with_reducible rfl | omega) ⟨(i7 n L pl), hr_72, (by first | omega | assumption), hfr_71⟩
            · refine w_aload_n dX5_readItem_117 rfl 4 rfl ?_
              refine w_iload_n dX5_readItem_118 rfl 3 rfl ?_
              refine w_iload dX5_readItem_119 2 rfl ?_
              refine w_iload dX5_readItem_121 1 rfl ?_
              refine w_calli (As := [.int (zI (iT n L pl)), .int (zI (iX n L pl)), .int (zI (iV n L pl))]) (rest := []) (n := 3) (c_X5_addC_no1 hr_72 hd_69 hs_70 (by first | omega | with_reducible rfl) (by first | omega | with_reducible rfl) (by first | omega | with_reducible rfl) (by first | omega | with_reducible rfl) (by first | omega | with_reducible rfl) (by first | omega | with_reducible rfl) (by first | omega | with_reducible rfl) (by first | omega | with_reducible rfl) (by first | omega | with_reducible rfl) (by first | omega | with_reducible rfl) (by first | omega | with_reducible rfl)) gX5_readItem_X5_addColumn rfl rfl rfl (by decide +kernel) ⟨Nat.le_of_ble_eq_true rfl, Nat.le_of_ble_eq_true rfl⟩ rfl (by first | omega | with_reducible rfl) hr_72.1 rfl (Nat.le_of_ble_eq_true rfl) ⟨Nat.zero_le _, Nat.zero_le _⟩ dX5_readItem_123 rfl (fun g_77 hp_78 => ?_)
              subst g_77
              refine w_if_eq 133 dX5_readItem_126 (by decide) (by first | omega | with_reducible rfl) (fun c_126 => ?_) (fun c_126 => ?_)
              · refine w_iconst dX5_readItem_133 ?_
                exact w_zret dX5_readItem_134 rfl rfl (by first | with_reducible rfl | omega) ⟨(i7 n L pl), hr_72, (by first | omega | assumption), hfr_71⟩
              · refine w_iconst dX5_readItem_129 ?_
                refine w_goto 134 dX5_readItem_130 (by decide) ?_
                exact w_zret dX5_readItem_134 rfl rfl (by first | with_reducible rfl | omega) ⟨(i7 n L pl), hr_72, (by first | omega | assumption), hfr_71⟩
      · refine w_iload_n dX5_readItem_76 rfl 1 rfl ?_
        refine w_ifeqB 84 dX5_readItem_77 (by decide) (fun c_77 => ?_) (fun c_77 => ?_)
        · refine w_iconst dX5_readItem_84 ?_
          refine w_istore_n [(3, .int (zI 0)), (4, .int (zI (iX n L pl))), (2, .int (zI (iT n L pl))), (0, .ref (B + rb)), (1, .ref (B + tb))] dX5_readItem_85 rfl (by decide) rfl ?_
          refine w_aload_n dX5_readItem_86 rfl 3 rfl ?_
          refine w_aload_n dX5_readItem_87 rfl 4 rfl ?_
          refine w_calli (As := [.ref (B + tb)]) (rest := []) (n := 1) (c_X5_readNumber hr_54 ht_50 (by first | omega | with_reducible rfl) (by first | omega | with_reducible rfl) (by first | omega | with_reducible rfl) hL (by first | omega | with_reducible rfl) (by first | omega | with_reducible rfl)) gX5_readItem_X5_readNumber rfl rfl rfl (by decide +kernel) ⟨Nat.le_of_ble_eq_true rfl, Nat.le_of_ble_eq_true rfl⟩ rfl (by first | omega | with_reducible rfl) hr_54.1 rfl (Nat.le_of_ble_eq_true rfl) ⟨Nat.zero_le _, Nat.zero_le _⟩ dX5_readItem_88 rfl (fun g_79 hp_80 => ?_)
          obtain ⟨hr_81, hf_82⟩ := hp_80
          have ht_83 : vText cy B g_79 tb n L := vText_fr ht_50 (fun q h1 h2 => hf_82 q (by omega))
          have hd_84 : vDr cy B g_79 (rb + 2) sets dn dv dT dX dV dW := vDr_fr hd_51 (fun q h1 h2 => hf_82 q (by omega))
          have hs_85 : vSets cy B g_79 sets Cn := vSets_fr hs_52 (fun q h1 h2 => hf_82 q (by omega))
          have hfr_86 : ∀ q, (q < rb ∨ rb + 2 ≤ q) → g_79 q = g q := fun q hq => (hf_82 q (by omega)).trans (hfr_53 q hq)
          have hr_87 : vReader cy B g_79 rb sr (i6 n L pl) := by have h9 := hr_81; exact h9
          refine w_as (st' := [.int (zI (iV n L pl))]) (sc_i rfl rfl) ?_
          refine w_istore [(5, .int (zI (iV n L pl))), (3, .int (zI 0)), (4, .int (zI (iX n L pl))), (2, .int (zI (iT n L pl))), (0, .ref (B + rb)), (1, .ref (B + tb))] dX5_readItem_91 (by decide) rfl ?_
          refine w_aload_n dX5_readItem_93 rfl 4 rfl ?_
          refine w_aload_n dX5_readItem_94 rfl 5 rfl ?_
          refine w_bipush dX5_readItem_95 (by decide) ?_
          refine w_calli (As := [.ref (B + tb), .int (zI 59)]) (rest := []) (n := 2) (c_X5_readSign hr_87 ht_83 (by first | omega | with_reducible rfl) (by first | omega | with_reducible rfl) (by first | omega | with_reducible rfl) hL (by first | omega | with_reducible rfl) (by first | omega | with_reducible rfl) (by first | omega | with_reducible rfl)) gX5_readItem_X5_readSign rfl rfl rfl (by decide +kernel) ⟨Nat.le_of_ble_eq_true rfl, Nat.le_of_ble_eq_true rfl⟩ rfl (by first | omega | with_reducible rfl) hr_87.1 rfl (Nat.le_of_ble_eq_true rfl) ⟨Nat.zero_le _, Nat.zero_le _⟩ dX5_readItem_97 rfl (fun g_88 hp_89 => ?_)
          obtain ⟨hr_90, hf_91⟩ := hp_89
          have ht_92 : vText cy B g_88 tb n L := vText_fr ht_83 (fun q h1 h2 => hf_91 q (by omega))
          have hd_93 : vDr cy B g_88 (rb + 2) sets dn dv dT dX dV dW := vDr_fr hd_84 (fun q h1 h2 => hf_91 q (by omega))
          have hs_94 : vSets cy B g_88 sets Cn := vSets_fr hs_85 (fun q h1 h2 => hf_91 q (by omega))
          have hfr_95 : ∀ q, (q < rb ∨ rb + 2 ≤ q) → g_88 q = g q := fun q hq => (hf_91 q (by omega)).trans (hfr_86 q hq)
          have hr_96 : vReader cy B g_88 rb sr (i7 n L pl) := by have h9 := hr_90; exact h9
          refine w_ifeqB 111 dX5_readItem_100 (by decide) (fun c_100 => ?_) (fun c_100 => ?_)
          · refine w_iconst dX5_readItem_111 ?_
            refine w_istore_n [(3, .int (zI 0)), (5, .int (zI (iV n L pl))), (4, .int (zI (iX n L pl))), (2, .int (zI (iT n L pl))), (0, .ref (B + rb)), (1, .ref (B + tb))] dX5_readItem_112 rfl (by decide) rfl ?_
            refine w_iload_n dX5_readItem_113 rfl 0 rfl ?_
            refine w_if_eq 133 dX5_readItem_114 (by decide) (by first | omega | with_reducible rfl) (fun c_114 => ?_) (fun c_114 => ?_)
            · refine w_iconst dX5_readItem_133 ?_
              exact w_zret dX5_readItem_134 rfl rfl (by first | with_reducible rfl | omega) ⟨(i7 n L pl), hr_96, (by first | omega | assumption), hfr_95⟩
            · refine w_aload_n dX5_readItem_117 rfl 4 rfl ?_
              refine w_iload_n dX5_readItem_118 rfl 3 rfl ?_
              refine w_iload dX5_readItem_119 2 rfl ?_
              refine w_iload dX5_readItem_121 1 rfl ?_
              refine w_calli (As := [.int (zI (iT n L pl)), .int (zI (iX n L pl)), .int (zI (iV n L pl))]) (rest := []) (n := 3) (c_X5_addC_no1 hr_96 hd_93 hs_94 (by first | omega | with_reducible rfl) (by first | omega | with_reducible rfl) (by first | omega | with_reducible rfl) (by first | omega | with_reducible rfl) (by first | omega | with_reducible rfl) (by first | omega | with_reducible rfl) (by first | omega | with_reducible rfl) (by first | omega | with_reducible rfl) (by first | omega | with_reducible rfl) (by first | omega | with_reducible rfl) (by first | omega | with_reducible rfl)) gX5_readItem_X5_addColumn rfl rfl rfl (by decide +kernel) ⟨Nat.le_of_ble_eq_true rfl, Nat.le_of_ble_eq_true rfl⟩ rfl (by first | omega | with_reducible rfl) hr_96.1 rfl (Nat.le_of_ble_eq_true rfl) ⟨Nat.zero_le _, Nat.zero_le _⟩ dX5_readItem_123 rfl (fun g_97 hp_98 => ?_)
              subst g_97
              refine w_if_eq 133 dX5_readItem_126 (by decide) (by first | omega | with_reducible rfl) (fun c_126 => ?_) (fun c_126 => ?_)
              · refine w_iconst dX5_readItem_133 ?_
                exact w_zret dX5_readItem_134 rfl rfl (by first | with_reducible rfl | omega) ⟨(i7 n L pl), hr_96, (by first | omega | assumption), hfr_95⟩
              · refine w_iconst dX5_readItem_129 ?_
                refine w_goto 134 dX5_readItem_130 (by decide) ?_
                exact w_zret dX5_readItem_134 rfl rfl (by first | with_reducible rfl | omega) ⟨(i7 n L pl), hr_96, (by first | omega | assumption), hfr_95⟩
          · refine w_iload_n dX5_readItem_103 rfl 1 rfl ?_
            refine w_if_eq 111 dX5_readItem_104 (by decide) (by first | omega | with_reducible rfl) (fun c_104 => ?_) (fun c_104 => ?_)
            · refine w_iconst dX5_readItem_111 ?_
              refine w_istore_n [(3, .int (zI 0)), (5, .int (zI (iV n L pl))), (4, .int (zI (iX n L pl))), (2, .int (zI (iT n L pl))), (0, .ref (B + rb)), (1, .ref (B + tb))] dX5_readItem_112 rfl (by decide) rfl ?_
              refine w_iload_n dX5_readItem_113 rfl 0 rfl ?_
              refine w_if_eq 133 dX5_readItem_114 (by decide) (by first | omega | with_reducible rfl) (fun c_114 => ?_) (fun c_114 => ?_)
              · refine w_iconst dX5_readItem_133 ?_
                exact w_zret dX5_readItem_134 rfl rfl (by first | with_reducible rfl | omega) ⟨(i7 n L pl), hr_96, (by first | omega | assumption), hfr_95⟩
              · refine w_aload_n dX5_readItem_117 rfl 4 rfl ?_
                refine w_iload_n dX5_readItem_118 rfl 3 rfl ?_
                refine w_iload dX5_readItem_119 2 rfl ?_
                refine w_iload dX5_readItem_121 1 rfl ?_
                refine w_calli (As := [.int (zI (iT n L pl)), .int (zI (iX n L pl)), .int (zI (iV n L pl))]) (rest := []) (n := 3) (c_X5_addC_no1 hr_96 hd_93 hs_94 (by first | omega | with_reducible rfl) (by first | omega | with_reducible rfl) (by first | omega | with_reducible rfl) (by first | omega | with_reducible rfl) (by first | omega | with_reducible rfl) (by first | omega | with_reducible rfl) (by first | omega | with_reducible rfl) (by first | omega | with_reducible rfl) (by first | omega | with_reducible rfl) (by first | omega | with_reducible rfl) (by first | omega | with_reducible rfl)) gX5_readItem_X5_addColumn rfl rfl rfl (by decide +kernel) ⟨Nat.le_of_ble_eq_true rfl, Nat.le_of_ble_eq_true rfl⟩ rfl (by first | omega | with_reducible rfl) hr_96.1 rfl (Nat.le_of_ble_eq_true rfl) ⟨Nat.zero_le _, Nat.zero_le _⟩ dX5_readItem_123 rfl (fun g_99 hp_100 => ?_)
                subst g_99
                refine w_if_eq 133 dX5_readItem_126 (by decide) (by first | omega | with_reducible rfl) (fun c_126 => ?_) (fun c_126 => ?_)
                · refine w_iconst dX5_readItem_133 ?_
                  exact w_zret dX5_readItem_134 rfl rfl (by first | with_reducible rfl | omega) ⟨(i7 n L pl), hr_96, (by first | omega | assumption), hfr_95⟩
                · refine w_iconst dX5_readItem_129 ?_
                  refine w_goto 134 dX5_readItem_130 (by decide) ?_
                  exact w_zret dX5_readItem_134 rfl rfl (by first | with_reducible rfl | omega) ⟨(i7 n L pl), hr_96, (by first | omega | assumption), hfr_95⟩
            · refine w_iconst dX5_readItem_107 ?_
              refine w_goto 112 dX5_readItem_108 (by decide) ?_
              refine w_istore_n [(3, .int (zI 1)), (5, .int (zI (iV n L pl))), (4, .int (zI (iX n L pl))), (2, .int (zI (iT n L pl))), (0, .ref (B + rb)), (1, .ref (B + tb))] dX5_readItem_112 rfl (by decide) rfl ?_
              refine w_iload_n dX5_readItem_113 rfl 0 rfl ?_
              refine w_if_eq 133 dX5_readItem_114 (by decide) (by first | omega | with_reducible rfl) (fun c_114 => ?_) (fun c_114 => ?_)
              · refine w_iconst dX5_readItem_133 ?_
                exact w_zret dX5_readItem_134 rfl rfl (by first | with_reducible rfl | omega) ⟨(i7 n L pl), hr_96, (by first | omega | assumption), hfr_95⟩
              · refine w_aload_n dX5_readItem_117 rfl 4 rfl ?_
                refine w_iload_n dX5_readItem_118 rfl 3 rfl ?_
                refine w_iload dX5_readItem_119 2 rfl ?_
                refine w_iload dX5_readItem_121 1 rfl ?_
                refine w_calli (As := [.int (zI (iT n L pl)), .int (zI (iX n L pl)), .int (zI (iV n L pl))]) (rest := []) (n := 3) (c_X5_addC_no1 hr_96 hd_93 hs_94 (by first | omega | with_reducible rfl) (by first | omega | with_reducible rfl) (by first | omega | with_reducible rfl) (by first | omega | with_reducible rfl) (by first | omega | with_reducible rfl) (by first | omega | with_reducible rfl) (by first | omega | with_reducible rfl) (by first | omega | with_reducible rfl) (by first | omega | with_reducible rfl) (by first | omega | with_reducible rfl) (by first | omega | with_reducible rfl)) gX5_readItem_X5_addColumn rfl rfl rfl (by decide +kernel) ⟨Nat.le_of_ble_eq_true rfl, Nat.le_of_ble_eq_true rfl⟩ rfl (by first | omega | with_reducible rfl) hr_96.1 rfl (Nat.le_of_ble_eq_true rfl) ⟨Nat.zero_le _, Nat.zero_le _⟩ dX5_readItem_123 rfl (fun g_101 hp_102 => ?_)
                subst g_101
                refine w_if_eq 133 dX5_readItem_126 (by decide) (by first | omega | with_reducible rfl) (fun c_126 => ?_) (fun c_126 => ?_)
                · refine w_iconst dX5_readItem_133 ?_
                  exact w_zret dX5_readItem_134 rfl rfl (by first | with_reducible rfl | omega) ⟨(i7 n L pl), hr_96, (by first | omega | assumption), hfr_95⟩
                · refine w_iconst dX5_readItem_129 ?_
                  refine w_goto 134 dX5_readItem_130 (by decide) ?_
                  exact w_zret dX5_readItem_134 rfl rfl (by first | with_reducible rfl | omega) ⟨(i7 n L pl), hr_96, (by first | omega | assumption), hfr_95⟩
        · refine w_iconst dX5_readItem_80 ?_
          refine w_goto 85 dX5_readItem_81 (by decide) ?_
          refine w_istore_n [(3, .int (zI 1)), (4, .int (zI (iX n L pl))), (2, .int (zI (iT n L pl))), (0, .ref (B + rb)), (1, .ref (B + tb))] dX5_readItem_85 rfl (by decide) rfl ?_
          refine w_aload_n dX5_readItem_86 rfl 3 rfl ?_
          refine w_aload_n dX5_readItem_87 rfl 4 rfl ?_
          refine w_calli (As := [.ref (B + tb)]) (rest := []) (n := 1) (c_X5_readNumber hr_54 ht_50 (by first | omega | with_reducible rfl) (by first | omega | with_reducible rfl) (by first | omega | with_reducible rfl) hL (by first | omega | with_reducible rfl) (by first | omega | with_reducible rfl)) gX5_readItem_X5_readNumber rfl rfl rfl (by decide +kernel) ⟨Nat.le_of_ble_eq_true rfl, Nat.le_of_ble_eq_true rfl⟩ rfl (by first | omega | with_reducible rfl) hr_54.1 rfl (Nat.le_of_ble_eq_true rfl) ⟨Nat.zero_le _, Nat.zero_le _⟩ dX5_readItem_88 rfl (fun g_103 hp_104 => ?_)
          obtain ⟨hr_105, hf_106⟩ := hp_104
          have ht_107 : vText cy B g_103 tb n L := vText_fr ht_50 (fun q h1 h2 => hf_106 q (by omega))
          have hd_108 : vDr cy B g_103 (rb + 2) sets dn dv dT dX dV dW := vDr_fr hd_51 (fun q h1 h2 => hf_106 q (by omega))
          have hs_109 : vSets cy B g_103 sets Cn := vSets_fr hs_52 (fun q h1 h2 => hf_106 q (by omega))
          have hfr_110 : ∀ q, (q < rb ∨ rb + 2 ≤ q) → g_103 q = g q := fun q hq => (hf_106 q (by omega)).trans (hfr_53 q hq)
          have hr_111 : vReader cy B g_103 rb sr (i6 n L pl) := by have h9 := hr_105; exact h9
          refine w_as (st' := [.int (zI (iV n L pl))]) (sc_i rfl rfl) ?_
          refine w_istore [(5, .int (zI (iV n L pl))), (3, .int (zI 1)), (4, .int (zI (iX n L pl))), (2, .int (zI (iT n L pl))), (0, .ref (B + rb)), (1, .ref (B + tb))] dX5_readItem_91 (by decide) rfl ?_
          refine w_aload_n dX5_readItem_93 rfl 4 rfl ?_
          refine w_aload_n dX5_readItem_94 rfl 5 rfl ?_
          refine w_bipush dX5_readItem_95 (by decide) ?_
          refine w_calli (As := [.ref (B + tb), .int (zI 59)]) (rest := []) (n := 2) (c_X5_readSign hr_111 ht_107 (by first | omega | with_reducible rfl) (by first | omega | with_reducible rfl) (by first | omega | with_reducible rfl) hL (by first | omega | with_reducible rfl) (by first | omega | with_reducible rfl) (by first | omega | with_reducible rfl)) gX5_readItem_X5_readSign rfl rfl rfl (by decide +kernel) ⟨Nat.le_of_ble_eq_true rfl, Nat.le_of_ble_eq_true rfl⟩ rfl (by first | omega | with_reducible rfl) hr_111.1 rfl (Nat.le_of_ble_eq_true rfl) ⟨Nat.zero_le _, Nat.zero_le _⟩ dX5_readItem_97 rfl (fun g_112 hp_113 => ?_)
          obtain ⟨hr_114, hf_115⟩ := hp_113
          have ht_116 : vText cy B g_112 tb n L := vText_fr ht_107 (fun q h1 h2 => hf_115 q (by omega))
          have hd_117 : vDr cy B g_112 (rb + 2) sets dn dv dT dX dV dW := vDr_fr hd_108 (fun q h1 h2 => hf_115 q (by omega))
          have hs_118 : vSets cy B g_112 sets Cn := vSets_fr hs_109 (fun q h1 h2 => hf_115 q (by omega))
          have hfr_119 : ∀ q, (q < rb ∨ rb + 2 ≤ q) → g_112 q = g q := fun q hq => (hf_115 q (by omega)).trans (hfr_110 q hq)
          have hr_120 : vReader cy B g_112 rb sr (i7 n L pl) := by have h9 := hr_114; exact h9
          refine w_ifeqB 111 dX5_readItem_100 (by decide) (fun c_100 => ?_) (fun c_100 => ?_)
          · refine w_iconst dX5_readItem_111 ?_
            refine w_istore_n [(3, .int (zI 0)), (5, .int (zI (iV n L pl))), (4, .int (zI (iX n L pl))), (2, .int (zI (iT n L pl))), (0, .ref (B + rb)), (1, .ref (B + tb))] dX5_readItem_112 rfl (by decide) rfl ?_
            refine w_iload_n dX5_readItem_113 rfl 0 rfl ?_
            refine w_if_eq 133 dX5_readItem_114 (by decide) (by first | omega | with_reducible rfl) (fun c_114 => ?_) (fun c_114 => ?_)
            · refine w_iconst dX5_readItem_133 ?_
              exact w_zret dX5_readItem_134 rfl rfl (by first | with_reducible rfl | omega) ⟨(i7 n L pl), hr_120, (by first | omega | assumption), hfr_119⟩
            · refine w_aload_n dX5_readItem_117 rfl 4 rfl ?_
              refine w_iload_n dX5_readItem_118 rfl 3 rfl ?_
              refine w_iload dX5_readItem_119 2 rfl ?_
              refine w_iload dX5_readItem_121 1 rfl ?_
              refine w_calli (As := [.int (zI (iT n L pl)), .int (zI (iX n L pl)), .int (zI (iV n L pl))]) (rest := []) (n := 3) (c_X5_addC_no1 hr_120 hd_117 hs_118 (by first | omega | with_reducible rfl) (by first | omega | with_reducible rfl) (by first | omega | with_reducible rfl) (by first | omega | with_reducible rfl) (by first | omega | with_reducible rfl) (by first | omega | with_reducible rfl) (by first | omega | with_reducible rfl) (by first | omega | with_reducible rfl) (by first | omega | with_reducible rfl) (by first | omega | with_reducible rfl) (by first | omega | with_reducible rfl)) gX5_readItem_X5_addColumn rfl rfl rfl (by decide +kernel) ⟨Nat.le_of_ble_eq_true rfl, Nat.le_of_ble_eq_true rfl⟩ rfl (by first | omega | with_reducible rfl) hr_120.1 rfl (Nat.le_of_ble_eq_true rfl) ⟨Nat.zero_le _, Nat.zero_le _⟩ dX5_readItem_123 rfl (fun g_121 hp_122 => ?_)
              subst g_121
              refine w_if_eq 133 dX5_readItem_126 (by decide) (by first | omega | with_reducible rfl) (fun c_126 => ?_) (fun c_126 => ?_)
              · refine w_iconst dX5_readItem_133 ?_
                exact w_zret dX5_readItem_134 rfl rfl (by first | with_reducible rfl | omega) ⟨(i7 n L pl), hr_120, (by first | omega | assumption), hfr_119⟩
              · refine w_iconst dX5_readItem_129 ?_
                refine w_goto 134 dX5_readItem_130 (by decide) ?_
                exact w_zret dX5_readItem_134 rfl rfl (by first | with_reducible rfl | omega) ⟨(i7 n L pl), hr_120, (by first | omega | assumption), hfr_119⟩
          · refine w_iload_n dX5_readItem_103 rfl 1 rfl ?_
            refine w_if_eq 111 dX5_readItem_104 (by decide) (by first | omega | with_reducible rfl) (fun c_104 => ?_) (fun c_104 => ?_)
            · refine w_iconst dX5_readItem_111 ?_
              refine w_istore_n [(3, .int (zI 0)), (5, .int (zI (iV n L pl))), (4, .int (zI (iX n L pl))), (2, .int (zI (iT n L pl))), (0, .ref (B + rb)), (1, .ref (B + tb))] dX5_readItem_112 rfl (by decide) rfl ?_
              refine w_iload_n dX5_readItem_113 rfl 0 rfl ?_
              refine w_if_eq 133 dX5_readItem_114 (by decide) (by first | omega | with_reducible rfl) (fun c_114 => ?_) (fun c_114 => ?_)
              · refine w_iconst dX5_readItem_133 ?_
                exact w_zret dX5_readItem_134 rfl rfl (by first | with_reducible rfl | omega) ⟨(i7 n L pl), hr_120, (by first | omega | assumption), hfr_119⟩
              · refine w_aload_n dX5_readItem_117 rfl 4 rfl ?_
                refine w_iload_n dX5_readItem_118 rfl 3 rfl ?_
                refine w_iload dX5_readItem_119 2 rfl ?_
                refine w_iload dX5_readItem_121 1 rfl ?_
                refine w_calli (As := [.int (zI (iT n L pl)), .int (zI (iX n L pl)), .int (zI (iV n L pl))]) (rest := []) (n := 3) (c_X5_addC_no1 hr_120 hd_117 hs_118 (by first | omega | with_reducible rfl) (by first | omega | with_reducible rfl) (by first | omega | with_reducible rfl) (by first | omega | with_reducible rfl) (by first | omega | with_reducible rfl) (by first | omega | with_reducible rfl) (by first | omega | with_reducible rfl) (by first | omega | with_reducible rfl) (by first | omega | with_reducible rfl) (by first | omega | with_reducible rfl) (by first | omega | with_reducible rfl)) gX5_readItem_X5_addColumn rfl rfl rfl (by decide +kernel) ⟨Nat.le_of_ble_eq_true rfl, Nat.le_of_ble_eq_true rfl⟩ rfl (by first | omega | with_reducible rfl) hr_120.1 rfl (Nat.le_of_ble_eq_true rfl) ⟨Nat.zero_le _, Nat.zero_le _⟩ dX5_readItem_123 rfl (fun g_123 hp_124 => ?_)
                subst g_123
                refine w_if_eq 133 dX5_readItem_126 (by decide) (by first | omega | with_reducible rfl) (fun c_126 => ?_) (fun c_126 => ?_)
                · refine w_iconst dX5_readItem_133 ?_
                  exact w_zret dX5_readItem_134 rfl rfl (by first | with_reducible rfl | omega) ⟨(i7 n L pl), hr_120, (by first | omega | assumption), hfr_119⟩
                · refine w_iconst dX5_readItem_129 ?_
                  refine w_goto 134 dX5_readItem_130 (by decide) ?_
                  exact w_zret dX5_readItem_134 rfl rfl (by first | with_reducible rfl | omega) ⟨(i7 n L pl), hr_120, (by first | omega | assumption), hfr_119⟩
            · refine w_iconst dX5_readItem_107 ?_
              refine w_goto 112 dX5_readItem_108 (by decide) ?_
              refine w_istore_n [(3, .int (zI 1)), (5, .int (zI (iV n L pl))), (4, .int (zI (iX n L pl))), (2, .int (zI (iT n L pl))), (0, .ref (B + rb)), (1, .ref (B + tb))] dX5_readItem_112 rfl (by decide) rfl ?_
              refine w_iload_n dX5_readItem_113 rfl 0 rfl ?_
              refine w_if_eq 133 dX5_readItem_114 (by decide) (by first | omega | with_reducible rfl) (fun c_114 => ?_) (fun c_114 => ?_)
              · refine w_iconst dX5_readItem_133 ?_
                exact w_zret dX5_readItem_134 rfl rfl (by first | with_reducible rfl | omega) ⟨(i7 n L pl), hr_120, (by first | omega | assumption), hfr_119⟩
              · refine w_aload_n dX5_readItem_117 rfl 4 rfl ?_
                refine w_iload_n dX5_readItem_118 rfl 3 rfl ?_
                refine w_iload dX5_readItem_119 2 rfl ?_
                refine w_iload dX5_readItem_121 1 rfl ?_
                refine w_calli (As := [.int (zI (iT n L pl)), .int (zI (iX n L pl)), .int (zI (iV n L pl))]) (rest := []) (n := 3) (c_X5_addC_no1 hr_120 hd_117 hs_118 (by first | omega | with_reducible rfl) (by first | omega | with_reducible rfl) (by first | omega | with_reducible rfl) (by first | omega | with_reducible rfl) (by first | omega | with_reducible rfl) (by first | omega | with_reducible rfl) (by first | omega | with_reducible rfl) (by first | omega | with_reducible rfl) (by first | omega | with_reducible rfl) (by first | omega | with_reducible rfl) (by first | omega | with_reducible rfl)) gX5_readItem_X5_addColumn rfl rfl rfl (by decide +kernel) ⟨Nat.le_of_ble_eq_true rfl, Nat.le_of_ble_eq_true rfl⟩ rfl (by first | omega | with_reducible rfl) hr_120.1 rfl (Nat.le_of_ble_eq_true rfl) ⟨Nat.zero_le _, Nat.zero_le _⟩ dX5_readItem_123 rfl (fun g_125 hp_126 => ?_)
                subst g_125
                refine w_if_eq 133 dX5_readItem_126 (by decide) (by first | omega | with_reducible rfl) (fun c_126 => ?_) (fun c_126 => ?_)
                · refine w_iconst dX5_readItem_133 ?_
                  exact w_zret dX5_readItem_134 rfl rfl (by first | with_reducible rfl | omega) ⟨(i7 n L pl), hr_120, (by first | omega | assumption), hfr_119⟩
                · refine w_iconst dX5_readItem_129 ?_
                  refine w_goto 134 dX5_readItem_130 (by decide) ?_
                  exact w_zret dX5_readItem_134 rfl rfl (by first | with_reducible rfl | omega) ⟨(i7 n L pl), hr_120, (by first | omega | assumption), hfr_119⟩
    · have hr_127 : vReader cy B g_10 rb sr pl := by have h9 := hr_12; rw [if_neg c_40] at h9; exact h9
      refine w_iconst dX5_readItem_43 ?_
      exact w_zret dX5_readItem_44 rfl rfl (by first | with_reducible rfl | omega) ⟨pl, hr_127, (by first | omega | assumption), hfr_17⟩
  · exfalso; omega
