/-! ===== constructors ===== -/
def nO0 (cy : Nat → ClassId) (B : Nat) (g : Nat → va_E) (b : Nat) (f0 : Value) (f1 : Value) (f2 : Value) (f3 : Value) (f4 : Value) (f5 : Value) (f6 : Value) : Prop := g b = .inr (0, [f0, f1, f2, f3, f4, f5, f6])
theorem nO0_fr {cy : Nat → ClassId} {B : Nat} {g g' : Nat → va_E} {b : Nat} {f0 : Value} {f1 : Value} {f2 : Value} {f3 : Value} {f4 : Value} {f5 : Value} {f6 : Value} (h : nO0 cy B g b f0 f1 f2 f3 f4 f5 f6) (hq : ∀ q, b ≤ q → q < b + 1 → g' q = g q) : nO0 cy B g' b f0 f1 f2 f3 f4 f5 f6 := (hq _ (by omega) (by omega)).trans h
def nO1 (cy : Nat → ClassId) (B : Nat) (g : Nat → va_E) (b : Nat) (f0 : Value) (f1 : Value) (f2 : Value) : Prop := g b = .inr (1, [f0, f1, f2])
theorem nO1_fr {cy : Nat → ClassId} {B : Nat} {g g' : Nat → va_E} {b : Nat} {f0 : Value} {f1 : Value} {f2 : Value} (h : nO1 cy B g b f0 f1 f2) (hq : ∀ q, b ≤ q → q < b + 1 → g' q = g q) : nO1 cy B g' b f0 f1 f2 := (hq _ (by omega) (by omega)).trans h
def nO2 (cy : Nat → ClassId) (B : Nat) (g : Nat → va_E) (b : Nat) (f0 : Value) (f1 : Value) (f2 : Value) (f3 : Value) (f4 : Value) : Prop := g b = .inr (2, [f0, f1, f2, f3, f4])
theorem nO2_fr {cy : Nat → ClassId} {B : Nat} {g g' : Nat → va_E} {b : Nat} {f0 : Value} {f1 : Value} {f2 : Value} {f3 : Value} {f4 : Value} (h : nO2 cy B g b f0 f1 f2 f3 f4) (hq : ∀ q, b ≤ q → q < b + 1 → g' q = g q) : nO2 cy B g' b f0 f1 f2 f3 f4 := (hq _ (by omega) (by omega)).trans h
def nO3 (cy : Nat → ClassId) (B : Nat) (g : Nat → va_E) (b : Nat) (f0 : Value) (f1 : Value) (f2 : Value) (f3 : Value) : Prop := g b = .inr (3, [f0, f1, f2, f3])
theorem nO3_fr {cy : Nat → ClassId} {B : Nat} {g g' : Nat → va_E} {b : Nat} {f0 : Value} {f1 : Value} {f2 : Value} {f3 : Value} (h : nO3 cy B g b f0 f1 f2 f3) (hq : ∀ q, b ≤ q → q < b + 1 → g' q = g q) : nO3 cy B g' b f0 f1 f2 f3 := (hq _ (by omega) (by omega)).trans h
def nO4 (cy : Nat → ClassId) (B : Nat) (g : Nat → va_E) (b : Nat) (f0 : Value) (f1 : Value) (f2 : Value) (f3 : Value) (f4 : Value) (f5 : Value) (f6 : Value) : Prop := g b = .inr (4, [f0, f1, f2, f3, f4, f5, f6])
theorem nO4_fr {cy : Nat → ClassId} {B : Nat} {g g' : Nat → va_E} {b : Nat} {f0 : Value} {f1 : Value} {f2 : Value} {f3 : Value} {f4 : Value} {f5 : Value} {f6 : Value} (h : nO4 cy B g b f0 f1 f2 f3 f4 f5 f6) (hq : ∀ q, b ≤ q → q < b + 1 → g' q = g q) : nO4 cy B g' b f0 f1 f2 f3 f4 f5 f6 := (hq _ (by omega) (by omega)).trans h
def nO5 (cy : Nat → ClassId) (B : Nat) (g : Nat → va_E) (b : Nat) (f0 : Value) (f1 : Value) (f2 : Value) : Prop := g b = .inr (5, [f0, f1, f2])
theorem nO5_fr {cy : Nat → ClassId} {B : Nat} {g g' : Nat → va_E} {b : Nat} {f0 : Value} {f1 : Value} {f2 : Value} (h : nO5 cy B g b f0 f1 f2) (hq : ∀ q, b ≤ q → q < b + 1 → g' q = g q) : nO5 cy B g' b f0 f1 f2 := (hq _ (by omega) (by omega)).trans h
def nO6 (cy : Nat → ClassId) (B : Nat) (g : Nat → va_E) (b : Nat) (f0 : Value) : Prop := g b = .inr (6, [f0])
theorem nO6_fr {cy : Nat → ClassId} {B : Nat} {g g' : Nat → va_E} {b : Nat} {f0 : Value} (h : nO6 cy B g b f0) (hq : ∀ q, b ≤ q → q < b + 1 → g' q = g q) : nO6 cy B g' b f0 := (hq _ (by omega) (by omega)).trans h
def nO7 (cy : Nat → ClassId) (B : Nat) (g : Nat → va_E) (b : Nat) (f0 : Value) (f1 : Value) (f2 : Value) (f3 : Value) : Prop := g b = .inr (7, [f0, f1, f2, f3])
theorem nO7_fr {cy : Nat → ClassId} {B : Nat} {g g' : Nat → va_E} {b : Nat} {f0 : Value} {f1 : Value} {f2 : Value} {f3 : Value} (h : nO7 cy B g b f0 f1 f2 f3) (hq : ∀ q, b ≤ q → q < b + 1 → g' q = g q) : nO7 cy B g' b f0 f1 f2 f3 := (hq _ (by omega) (by omega)).trans h
def nO8 (cy : Nat → ClassId) (B : Nat) (g : Nat → va_E) (b : Nat) (f0 : Value) (f1 : Value) (f2 : Value) (f3 : Value) (f4 : Value) (f5 : Value) (f6 : Value) : Prop := g b = .inr (8, [f0, f1, f2, f3, f4, f5, f6])
theorem nO8_fr {cy : Nat → ClassId} {B : Nat} {g g' : Nat → va_E} {b : Nat} {f0 : Value} {f1 : Value} {f2 : Value} {f3 : Value} {f4 : Value} {f5 : Value} {f6 : Value} (h : nO8 cy B g b f0 f1 f2 f3 f4 f5 f6) (hq : ∀ q, b ≤ q → q < b + 1 → g' q = g q) : nO8 cy B g' b f0 f1 f2 f3 f4 f5 f6 := (hq _ (by omega) (by omega)).trans h
def nO9 (cy : Nat → ClassId) (B : Nat) (g : Nat → va_E) (b : Nat) (f0 : Value) (f1 : Value) : Prop := g b = .inr (9, [f0, f1])
theorem nO9_fr {cy : Nat → ClassId} {B : Nat} {g g' : Nat → va_E} {b : Nat} {f0 : Value} {f1 : Value} (h : nO9 cy B g b f0 f1) (hq : ∀ q, b ≤ q → q < b + 1 → g' q = g q) : nO9 cy B g' b f0 f1 := (hq _ (by omega) (by omega)).trans h
def nO10 (cy : Nat → ClassId) (B : Nat) (g : Nat → va_E) (b : Nat) (f0 : Value) (f1 : Value) (f2 : Value) (f3 : Value) (f4 : Value) (f5 : Value) : Prop := g b = .inr (10, [f0, f1, f2, f3, f4, f5])
theorem nO10_fr {cy : Nat → ClassId} {B : Nat} {g g' : Nat → va_E} {b : Nat} {f0 : Value} {f1 : Value} {f2 : Value} {f3 : Value} {f4 : Value} {f5 : Value} (h : nO10 cy B g b f0 f1 f2 f3 f4 f5) (hq : ∀ q, b ≤ q → q < b + 1 → g' q = g q) : nO10 cy B g' b f0 f1 f2 f3 f4 f5 := (hq _ (by omega) (by omega)).trans h
def nO11 (cy : Nat → ClassId) (B : Nat) (g : Nat → va_E) (b : Nat) (f0 : Value) : Prop := g b = .inr (11, [f0])
theorem nO11_fr {cy : Nat → ClassId} {B : Nat} {g g' : Nat → va_E} {b : Nat} {f0 : Value} (h : nO11 cy B g b f0) (hq : ∀ q, b ≤ q → q < b + 1 → g' q = g q) : nO11 cy B g' b f0 := (hq _ (by omega) (by omega)).trans h
def vCA (cy : Nat → ClassId) (B : Nat) (g : Nat → va_E) (b : Nat) (n : Nat) (W : Int → Int) : Prop := g b = cI (cy 0) n W
theorem vCA_fr {cy : Nat → ClassId} {B : Nat} {g g' : Nat → va_E} {b : Nat} {n : Nat} {W : Int → Int} (h : vCA cy B g b n W) (hq : ∀ q, b ≤ q → q < b + 1 → g' q = g q) : vCA cy B g' b n W := (hq _ (by omega) (by omega)).trans h
def vQ3 (cy : Nat → ClassId) (B : Nat) (g : Nat → va_E) (b : Nat) (n : Nat) (i : Nat) (bb : Nat) (w : Nat) : Prop := g b = .inl (cy 3, n, .inr (.inr (.inr (.inr (aR B i bb w)))))
theorem vQ3_fr {cy : Nat → ClassId} {B : Nat} {g g' : Nat → va_E} {b : Nat} {n : Nat} {i : Nat} {bb : Nat} {w : Nat} (h : vQ3 cy B g b n i bb w) (hq : ∀ q, b ≤ q → q < b + 1 → g' q = g q) : vQ3 cy B g' b n i bb w := (hq _ (by omega) (by omega)).trans h
def vQ4 (cy : Nat → ClassId) (B : Nat) (g : Nat → va_E) (b : Nat) (n : Nat) (i : Nat) (bb : Nat) (w : Nat) : Prop := g b = .inl (cy 4, n, .inr (.inr (.inr (.inr (aR B i bb w)))))
theorem vQ4_fr {cy : Nat → ClassId} {B : Nat} {g g' : Nat → va_E} {b : Nat} {n : Nat} {i : Nat} {bb : Nat} {w : Nat} (h : vQ4 cy B g b n i bb w) (hq : ∀ q, b ≤ q → q < b + 1 → g' q = g q) : vQ4 cy B g' b n i bb w := (hq _ (by omega) (by omega)).trans h
def vMJ5 (cy : Nat → ClassId) (B : Nat) (g : Nat → va_E) (b : Nat) (W : Nat → Int → Int) : Prop := g b = cR (cy 6) B 5 (b + 1) 1 ∧ (∀ k : Nat, k < 5 → g (b + (k + 1)) = cJ (cy 2) 13 (W k))
theorem vMJ5_fr {cy : Nat → ClassId} {B : Nat} {g g' : Nat → va_E} {b : Nat} {W : Nat → Int → Int} (h : vMJ5 cy B g b W) (hq : ∀ q, b ≤ q → q < b + 6 → g' q = g q) : vMJ5 cy B g' b W := ⟨(hq _ (by omega) (by omega)).trans h.1, fun k hk => (hq _ (by omega) (by omega)).trans (h.2 k hk)⟩
def vMJ8 (cy : Nat → ClassId) (B : Nat) (g : Nat → va_E) (b : Nat) (W : Nat → Int → Int) : Prop := g b = cR (cy 6) B 8 (b + 1) 1 ∧ (∀ k : Nat, k < 8 → g (b + (k + 1)) = cJ (cy 2) 366 (W k))
theorem vMJ8_fr {cy : Nat → ClassId} {B : Nat} {g g' : Nat → va_E} {b : Nat} {W : Nat → Int → Int} (h : vMJ8 cy B g b W) (hq : ∀ q, b ≤ q → q < b + 9 → g' q = g q) : vMJ8 cy B g' b W := ⟨(hq _ (by omega) (by omega)).trans h.1, fun k hk => (hq _ (by omega) (by omega)).trans (h.2 k hk)⟩
def vMJ13 (cy : Nat → ClassId) (B : Nat) (g : Nat → va_E) (b : Nat) (W : Nat → Int → Int) : Prop := g b = cR (cy 6) B 13 (b + 1) 1 ∧ (∀ k : Nat, k < 13 → g (b + (k + 1)) = cJ (cy 2) 13 (W k))
theorem vMJ13_fr {cy : Nat → ClassId} {B : Nat} {g g' : Nat → va_E} {b : Nat} {W : Nat → Int → Int} (h : vMJ13 cy B g b W) (hq : ∀ q, b ≤ q → q < b + 14 → g' q = g q) : vMJ13 cy B g' b W := ⟨(hq _ (by omega) (by omega)).trans h.1, fun k hk => (hq _ (by omega) (by omega)).trans (h.2 k hk)⟩
def vMI6 (cy : Nat → ClassId) (B : Nat) (g : Nat → va_E) (b : Nat) (W : Nat → Int → Int) : Prop := g b = cR (cy 5) B 6 (b + 1) 1 ∧ (∀ k : Nat, k < 6 → g (b + (k + 1)) = cI (cy 1) 10 (W k))
theorem vMI6_fr {cy : Nat → ClassId} {B : Nat} {g g' : Nat → va_E} {b : Nat} {W : Nat → Int → Int} (h : vMI6 cy B g b W) (hq : ∀ q, b ≤ q → q < b + 7 → g' q = g q) : vMI6 cy B g' b W := ⟨(hq _ (by omega) (by omega)).trans h.1, fun k hk => (hq _ (by omega) (by omega)).trans (h.2 k hk)⟩
def vReaderD (cy : Nat → ClassId) (B : Nat) (g : Nat → va_E) (b sets : Nat) : Prop := vReader cy B g b 0 0 ∧ vDr cy B g (b + 2) sets (fun _ => 0) (fun _ => 1) (fun _ _ => 0) (fun _ _ => 0) (fun _ _ => 0) (fun _ _ _ => 0)
theorem vReaderD_fr {cy : Nat → ClassId} {B : Nat} {g g' : Nat → va_E} {b sets : Nat} (h : vReaderD cy B g b sets) (hq : ∀ q, b ≤ q → q < b + 32 → g' q = g q) : vReaderD cy B g' b sets := ⟨vReader_fr h.1 (fun q h1 h2 => hq q h1 (by omega)), vDr_fr h.2 (fun q h1 h2 => hq q (by omega) (by omega))⟩
def SetI (t u : Nat) (Cn : Nat → Int → Int) : Prop := ∀ r w : Nat, Cn r (w : Int) = if r < t ∨ (r = t ∧ w < u) then ((ch r w : Nat) : Int) else 0
theorem SetI_0 : SetI 0 0 (fun _ _ => 0) := fun r w => by
  show (0 : Int) = _
  rw [if_neg (by omega)]
theorem SetI_1 {t : Nat} {Cn : Nat → Int → Int} (h : SetI t 0 Cn) : SetI t 1 (uF Cn t (uZ (Cn t) 0 1)) := fun r w => by
  by_cases hr : r = t
  · subst hr
    rw [uF_same]
    unfold uZ
    by_cases hw : w = 0
    · subst hw
      rw [if_pos (by omega), if_pos (by omega)]
      cases r <;> rfl
    · rw [if_neg (by omega), h r w, if_neg (by omega), if_neg (by omega)]
  · rw [uF_ne hr, h r w]
    by_cases h1 : r < t
    · rw [if_pos (Or.inl h1), if_pos (Or.inl h1)]
    · rw [if_neg (by omega), if_neg (by omega)]
theorem SetI_u {t u : Nat} {Cn : Nat → Int → Int} (hu : 1 ≤ u ∧ u ≤ t) (h : SetI t u Cn) : SetI t (u + 1) (uF Cn t (uZ (Cn t) ((u : Nat) : Int) ((Cn (t - 1) (((u : Nat) : Int) - 1)) + (Cn (t - 1) ((u : Nat) : Int))))) := fun r w => by
  by_cases hr : r = t
  · subst hr
    rw [uF_same]
    unfold uZ
    by_cases hw : w = u
    · subst hw
      rw [if_pos rfl, if_pos (Or.inr ⟨rfl, by omega⟩), show ((w : Nat) : Int) - 1 = ((w - 1 : Nat) : Int) by omega, h, h, if_pos (by omega), if_pos (by omega)]
      obtain ⟨r', rfl⟩ : ∃ r', r = r' + 1 := ⟨r - 1, by omega⟩
      obtain ⟨w', rfl⟩ : ∃ w', w = w' + 1 := ⟨w - 1, by omega⟩
      show ((ch r' w' : Nat) : Int) + ((ch r' (w' + 1) : Nat) : Int) = ((ch r' w' + ch r' (w' + 1) : Nat) : Int)
      omega
    · rw [if_neg (by omega), h r w]
      by_cases h1 : w < u
      · rw [if_pos (Or.inr ⟨rfl, h1⟩), if_pos (Or.inr ⟨rfl, by omega⟩)]
      · rw [if_neg (by omega), if_neg (by omega)]
  · rw [uF_ne hr, h r w]
    by_cases h1 : r < t
    · rw [if_pos (Or.inl h1), if_pos (Or.inl h1)]
    · rw [if_neg (by omega), if_neg (by omega)]
theorem SetI_n {t : Nat} {Cn : Nat → Int → Int} (h : SetI t (t + 1) Cn) : SetI (t + 1) 0 Cn := fun r w => by
  rw [h r w]
  by_cases h1 : r < t
  · rw [if_pos (Or.inl h1), if_pos (by omega)]
  · by_cases h2 : r = t
    · subst h2
      rw [if_pos (by omega : r < r + 1 ∨ (r = r + 1 ∧ w < 0))]
      by_cases h3 : w < r + 1
      · rw [if_pos (Or.inr ⟨rfl, h3⟩)]
      · rw [if_neg (by omega), ch_out (by omega)]
        rfl
    · rw [if_neg (by omega), if_neg (by omega)]
theorem SetI_le {t u : Nat} {Cn : Nat → Int → Int} (h : SetI t u Cn) (r w : Nat) : 0 ≤ Cn r (w : Int) ∧ (r ≤ 13 → Cn r (w : Int) ≤ 8192) := by
  rw [h r w]
  have h1 := ch_le r w
  split
  · refine ⟨by omega, fun h2 => ?_⟩
    have h3 : 2 ^ r ≤ 2 ^ 13 := Nat.pow_le_pow_right (by omega) h2
    have h4 : (2 : Nat) ^ 13 = 8192 := by decide
    omega
  · exact ⟨by omega, fun _ => by omega⟩
set_option maxHeartbeats 4000000 in
set_option maxRecDepth 100000 in
theorem c_X9_init {l : Launch} {D : va_G} {cy : Nat → ClassId} {B : Nat} {g : Nat → va_E} {b : Nat}  (h0 : nO9 cy B g b (.null) (.int (zI 0))) : CTc2 l yX9_init wsX9_init (rmc 1 12 1 200) D cy B (b + 1) g [.ref (B + b)] 1 200 (fun g' => vText cy B g' b 0 (fun _ => 0) ∧ ∀ q, q < b → g' q = g q) := by
  refine WW_of2 (cc := cX9_init) (maxL := 1) (ret := none) (own := RX9) (by decide) rfl rfl (Nat.le_of_ble_eq_true rfl) rfl ?_
  intro pp ee ss mm bl me co hmn hao
  have hfr_0 : ∀ q, q < b → g q = g q := fun _ _ => rfl
  refine w_aload_n dX9_init_0 rfl 0 rfl ?_
  refine w_objInit (List.mem_of_getElem? (i := 1) rfl) (List.mem_of_getElem? (i := 2) rfl) (List.mem_of_getElem? (i := 3) rfl) dX9_init_1 (Nat.le_of_ble_eq_true rfl) (Nat.le_of_ble_eq_true rfl) (by decide) ?_
  refine w_aload_n dX9_init_4 rfl 0 rfl ?_
  refine w_sipush dX9_init_5 (by decide) ?_
  refine w_newC (n := 200) (by omega) (by omega) (List.mem_of_getElem? (i := 4) rfl) (Nat.le_of_ble_eq_true rfl) (Nat.le_of_ble_eq_true rfl) dX9_init_8 (fun g_1 he_2 hn_3 => ?_)
  have h0_4 : nO9 cy B g_1 b (.null) (.int (zI 0)) := nO9_fr h0 (fun q h1 h2 => hn_3 q (by omega))
  have hfr_5 : ∀ q, q < b → g_1 q = g q := fun q hq => (hn_3 q (by omega)).trans (hfr_0 q hq)
  have a1_6 : vCA cy B g_1 (b + 1) 200 (fun _ => 0) := he_2
  refine w_putF (i := 0) (T := TX9) (NF := 2) b (by first | omega | with_reducible rfl) h0_4 rfl (fun _ h => (List.mem_cons_of_mem _ (List.mem_append_right _ h))) tyX9 tyX9_ok nmX9 (by decide) (List.mem_of_getElem? (i := 5) rfl) rfl hmn rfl rfl rfl (Nat.le_of_ble_eq_true rfl) dX9_init_10 (fun g_7 he_8 hn_9 => ?_)
  have h0_10 : nO9 cy B g_7 b (.ref (B + (b + 1))) (.int (zI 0)) := he_8
  have a1_11 : vCA cy B g_7 (b + 1) 200 (fun _ => 0) := vCA_fr a1_6 (fun q h1 h2 => hn_9 q (by omega))
  have hfr_12 : ∀ q, q < b → g_7 q = g q := fun q hq => (hn_9 q (by omega)).trans (hfr_5 q hq)
  refine w_aload_n dX9_init_13 rfl 0 rfl ?_
  refine w_iconst dX9_init_14 ?_
  refine w_put (i := 1) (T := TX9) (NF := 2) b (by first | omega | with_reducible rfl) h0_10 rfl (fun _ h => (List.mem_cons_of_mem _ (List.mem_append_right _ h))) tyX9 tyX9_ok nmX9 (by decide) (List.mem_of_getElem? (i := 6) rfl) rfl rfl rfl (Nat.le_of_ble_eq_true rfl) dX9_init_15 (fun g_13 he_14 hn_15 => ?_)
  have h0_16 : nO9 cy B g_13 b (.ref (B + (b + 1))) (.int (zI 0)) := he_14
  have a1_17 : vCA cy B g_13 (b + 1) 200 (fun _ => 0) := vCA_fr a1_11 (fun q h1 h2 => hn_15 q (by omega))
  have hfr_18 : ∀ q, q < b → g_13 q = g q := fun q hq => (hn_15 q (by omega)).trans (hfr_12 q hq)
  exact w_vret dX9_init_18 rfl ⟨⟨h0_16, a1_17⟩, hfr_18⟩
set_option maxHeartbeats 4000000 in
set_option maxRecDepth 100000 in
theorem c_X1_init {l : Launch} {D : va_G} {cy : Nat → ClassId} {B : Nat} {g : Nat → va_E} {b : Nat}  (h0 : nO1 cy B g b (.null) (.null) (.int (zI 0))) : CTc2 l yX1_init wsX1_init (rmc 1 12 2 3242) D cy B (b + 1) g [.ref (B + b)] 2 3242 (fun g' => vJoint cy B g' b (fun _ => 0) (fun _ => 0) 0 ∧ ∀ q, q < b → g' q = g q) := by
  refine WW_of2 (cc := cX1_init) (maxL := 1) (ret := none) (own := RX1) (by decide) rfl rfl (Nat.le_of_ble_eq_true rfl) rfl ?_
  intro pp ee ss mm bl me co hmn hao
  have hfr_0 : ∀ q, q < b → g q = g q := fun _ _ => rfl
  refine w_aload_n dX1_init_0 rfl 0 rfl ?_
  refine w_objInit (List.mem_of_getElem? (i := 1) rfl) (List.mem_of_getElem? (i := 2) rfl) (List.mem_of_getElem? (i := 3) rfl) dX1_init_1 (Nat.le_of_ble_eq_true rfl) (Nat.le_of_ble_eq_true rfl) (by decide) ?_
  refine w_aload_n dX1_init_4 rfl 0 rfl ?_
  refine w_sipush dX1_init_5 (by decide) ?_
  refine w_newJ (n := 1621) (by omega) (by omega) (List.mem_of_getElem? (i := 4) rfl) (Nat.le_of_ble_eq_true rfl) (Nat.le_of_ble_eq_true rfl) dX1_init_8 (fun g_1 he_2 hn_3 => ?_)
  have h0_4 : nO1 cy B g_1 b (.null) (.null) (.int (zI 0)) := nO1_fr h0 (fun q h1 h2 => hn_3 q (by omega))
  have hfr_5 : ∀ q, q < b → g_1 q = g q := fun q hq => (hn_3 q (by omega)).trans (hfr_0 q hq)
  have a1_6 : vLA cy B g_1 (b + 1) 1621 (fun _ => 0) := he_2
  refine w_putF (i := 0) (T := TX1) (NF := 3) b (by first | omega | with_reducible rfl) h0_4 rfl (fun _ h => (List.mem_cons_of_mem _ (List.mem_append_right _ h))) tyX1 tyX1_ok nmX1 (by decide) (List.mem_of_getElem? (i := 5) rfl) rfl hmn rfl rfl rfl (Nat.le_of_ble_eq_true rfl) dX1_init_10 (fun g_7 he_8 hn_9 => ?_)
  have h0_10 : nO1 cy B g_7 b (.ref (B + (b + 1))) (.null) (.int (zI 0)) := he_8
  have a1_11 : vLA cy B g_7 (b + 1) 1621 (fun _ => 0) := vLA_fr a1_6 (fun q h1 h2 => hn_9 q (by omega))
  have hfr_12 : ∀ q, q < b → g_7 q = g q := fun q hq => (hn_9 q (by omega)).trans (hfr_5 q hq)
  refine w_aload_n dX1_init_13 rfl 0 rfl ?_
  refine w_sipush dX1_init_14 (by decide) ?_
  refine w_newJ (n := 1621) (by omega) (by omega) (List.mem_of_getElem? (i := 4) rfl) (Nat.le_of_ble_eq_true rfl) (Nat.le_of_ble_eq_true rfl) dX1_init_17 (fun g_13 he_14 hn_15 => ?_)
  have h0_16 : nO1 cy B g_13 b (.ref (B + (b + 1))) (.null) (.int (zI 0)) := nO1_fr h0_10 (fun q h1 h2 => hn_15 q (by omega))
  have a1_17 : vLA cy B g_13 (b + 1) 1621 (fun _ => 0) := vLA_fr a1_11 (fun q h1 h2 => hn_15 q (by omega))
  have hfr_18 : ∀ q, q < b → g_13 q = g q := fun q hq => (hn_15 q (by omega)).trans (hfr_12 q hq)
  have a2_19 : vLA cy B g_13 (b + 2) 1621 (fun _ => 0) := he_14
  refine w_putF (i := 1) (T := TX1) (NF := 3) b (by first | omega | with_reducible rfl) h0_16 rfl (fun _ h => (List.mem_cons_of_mem _ (List.mem_append_right _ h))) tyX1 tyX1_ok nmX1 (by decide) (List.mem_of_getElem? (i := 6) rfl) rfl hmn rfl rfl rfl (Nat.le_of_ble_eq_true rfl) dX1_init_19 (fun g_20 he_21 hn_22 => ?_)
  have h0_23 : nO1 cy B g_20 b (.ref (B + (b + 1))) (.ref (B + (b + 2))) (.int (zI 0)) := he_21
  have a1_24 : vLA cy B g_20 (b + 1) 1621 (fun _ => 0) := vLA_fr a1_17 (fun q h1 h2 => hn_22 q (by omega))
  have a2_25 : vLA cy B g_20 (b + 2) 1621 (fun _ => 0) := vLA_fr a2_19 (fun q h1 h2 => hn_22 q (by omega))
  have hfr_26 : ∀ q, q < b → g_20 q = g q := fun q hq => (hn_22 q (by omega)).trans (hfr_18 q hq)
  refine w_aload_n dX1_init_22 rfl 0 rfl ?_
  refine w_iconst dX1_init_23 ?_
  refine w_put (i := 2) (T := TX1) (NF := 3) b (by first | omega | with_reducible rfl) h0_23 rfl (fun _ h => (List.mem_cons_of_mem _ (List.mem_append_right _ h))) tyX1 tyX1_ok nmX1 (by decide) (List.mem_of_getElem? (i := 7) rfl) rfl rfl rfl (Nat.le_of_ble_eq_true rfl) dX1_init_24 (fun g_27 he_28 hn_29 => ?_)
  have h0_30 : nO1 cy B g_27 b (.ref (B + (b + 1))) (.ref (B + (b + 2))) (.int (zI 0)) := he_28
  have a1_31 : vLA cy B g_27 (b + 1) 1621 (fun _ => 0) := vLA_fr a1_24 (fun q h1 h2 => hn_29 q (by omega))
  have a2_32 : vLA cy B g_27 (b + 2) 1621 (fun _ => 0) := vLA_fr a2_25 (fun q h1 h2 => hn_29 q (by omega))
  have hfr_33 : ∀ q, q < b → g_27 q = g q := fun q hq => (hn_29 q (by omega)).trans (hfr_26 q hq)
  exact w_vret dX1_init_27 rfl ⟨⟨h0_30, a1_31, a2_32⟩, hfr_33⟩
set_option maxHeartbeats 4000000 in
set_option maxRecDepth 100000 in
theorem c_X3_init {l : Launch} {D : va_G} {cy : Nat → ClassId} {B : Nat} {g : Nat → va_E} {b : Nat}  (h0 : nO3 cy B g b (.null) (.null) (.int (zI 0)) (.int (zI 0))) : CTc2 l yX3_init wsX3_init (rmc 1 12 8 72) D cy B (b + 1) g [.ref (B + b)] 8 72 (fun g' => vPast cy B g' b (fun _ => 0) (fun _ _ => 0) 0 0 ∧ ∀ q, q < b → g' q = g q) := by
  refine WW_of2 (cc := cX3_init) (maxL := 1) (ret := none) (own := RX3) (by decide) rfl rfl (Nat.le_of_ble_eq_true rfl) rfl ?_
  intro pp ee ss mm bl me co hmn hao
  have hfr_0 : ∀ q, q < b → g q = g q := fun _ _ => rfl
  refine w_aload_n dX3_init_0 rfl 0 rfl ?_
  refine w_objInit (List.mem_of_getElem? (i := 1) rfl) (List.mem_of_getElem? (i := 2) rfl) (List.mem_of_getElem? (i := 3) rfl) dX3_init_1 (Nat.le_of_ble_eq_true rfl) (Nat.le_of_ble_eq_true rfl) (by decide) ?_
  refine w_aload_n dX3_init_4 rfl 0 rfl ?_
  refine w_bipush dX3_init_5 (by decide) ?_
  refine w_newI (n := 6) (by omega) (by omega) (List.mem_of_getElem? (i := 4) rfl) (Nat.le_of_ble_eq_true rfl) (Nat.le_of_ble_eq_true rfl) dX3_init_7 (fun g_1 he_2 hn_3 => ?_)
  have h0_4 : nO3 cy B g_1 b (.null) (.null) (.int (zI 0)) (.int (zI 0)) := nO3_fr h0 (fun q h1 h2 => hn_3 q (by omega))
  have hfr_5 : ∀ q, q < b → g_1 q = g q := fun q hq => (hn_3 q (by omega)).trans (hfr_0 q hq)
  have a1_6 : vIA cy B g_1 (b + 1) 6 (fun _ => 0) := he_2
  refine w_putF (i := 0) (T := TX3) (NF := 4) b (by first | omega | with_reducible rfl) h0_4 rfl (fun _ h => (List.mem_cons_of_mem _ (List.mem_append_right _ h))) tyX3 tyX3_ok nmX3 (by decide) (List.mem_of_getElem? (i := 5) rfl) rfl hmn rfl rfl rfl (Nat.le_of_ble_eq_true rfl) dX3_init_9 (fun g_7 he_8 hn_9 => ?_)
  have h0_10 : nO3 cy B g_7 b (.ref (B + (b + 1))) (.null) (.int (zI 0)) (.int (zI 0)) := he_8
  have a1_11 : vIA cy B g_7 (b + 1) 6 (fun _ => 0) := vIA_fr a1_6 (fun q h1 h2 => hn_9 q (by omega))
  have hfr_12 : ∀ q, q < b → g_7 q = g q := fun q hq => (hn_9 q (by omega)).trans (hfr_5 q hq)
  refine w_aload_n dX3_init_12 rfl 0 rfl ?_
  refine w_bipush dX3_init_13 (by decide) ?_
  refine w_bipush dX3_init_15 (by decide) ?_
  refine w_mnaI (n := 6) (k := 10) hao (by omega) (by omega) (by omega) (by omega) (List.mem_of_getElem? (i := 6) rfl) (List.mem_of_getElem? (i := 4) rfl) (Nat.le_of_ble_eq_true rfl) (Nat.le_of_ble_eq_true rfl) dX3_init_17 (fun g_13 he_14 hm_16 hn_15 => ?_)
  have h0_17 : nO3 cy B g_13 b (.ref (B + (b + 1))) (.null) (.int (zI 0)) (.int (zI 0)) := nO3_fr h0_10 (fun q h1 h2 => hn_15 q (by omega))
  have a1_18 : vIA cy B g_13 (b + 1) 6 (fun _ => 0) := vIA_fr a1_11 (fun q h1 h2 => hn_15 q (by omega))
  have hfr_19 : ∀ q, q < b → g_13 q = g q := fun q hq => (hn_15 q (by omega)).trans (hfr_12 q hq)
  have a2_20 : vMI6 cy B g_13 (b + 2) (fun _ _ => 0) := ⟨he_14, hm_16⟩
  refine w_putF (i := 1) (T := TX3) (NF := 4) b (by first | omega | with_reducible rfl) h0_17 rfl (fun _ h => (List.mem_cons_of_mem _ (List.mem_append_right _ h))) tyX3 tyX3_ok nmX3 (by decide) (List.mem_of_getElem? (i := 7) rfl) rfl hmn rfl rfl rfl (Nat.le_of_ble_eq_true rfl) dX3_init_21 (fun g_21 he_22 hn_23 => ?_)
  have h0_24 : nO3 cy B g_21 b (.ref (B + (b + 1))) (.ref (B + (b + 2))) (.int (zI 0)) (.int (zI 0)) := he_22
  have a1_25 : vIA cy B g_21 (b + 1) 6 (fun _ => 0) := vIA_fr a1_18 (fun q h1 h2 => hn_23 q (by omega))
  have a2_26 : vMI6 cy B g_21 (b + 2) (fun _ _ => 0) := vMI6_fr a2_20 (fun q h1 h2 => hn_23 q (by omega))
  have hfr_27 : ∀ q, q < b → g_21 q = g q := fun q hq => (hn_23 q (by omega)).trans (hfr_19 q hq)
  refine w_aload_n dX3_init_24 rfl 0 rfl ?_
  refine w_iconst dX3_init_25 ?_
  refine w_put (i := 2) (T := TX3) (NF := 4) b (by first | omega | with_reducible rfl) h0_24 rfl (fun _ h => (List.mem_cons_of_mem _ (List.mem_append_right _ h))) tyX3 tyX3_ok nmX3 (by decide) (List.mem_of_getElem? (i := 8) rfl) rfl rfl rfl (Nat.le_of_ble_eq_true rfl) dX3_init_26 (fun g_28 he_29 hn_30 => ?_)
  have h0_31 : nO3 cy B g_28 b (.ref (B + (b + 1))) (.ref (B + (b + 2))) (.int (zI 0)) (.int (zI 0)) := he_29
  have a1_32 : vIA cy B g_28 (b + 1) 6 (fun _ => 0) := vIA_fr a1_25 (fun q h1 h2 => hn_30 q (by omega))
  have a2_33 : vMI6 cy B g_28 (b + 2) (fun _ _ => 0) := vMI6_fr a2_26 (fun q h1 h2 => hn_30 q (by omega))
  have hfr_34 : ∀ q, q < b → g_28 q = g q := fun q hq => (hn_30 q (by omega)).trans (hfr_27 q hq)
  refine w_aload_n dX3_init_29 rfl 0 rfl ?_
  refine w_iconst dX3_init_30 ?_
  refine w_put (i := 3) (T := TX3) (NF := 4) b (by first | omega | with_reducible rfl) h0_31 rfl (fun _ h => (List.mem_cons_of_mem _ (List.mem_append_right _ h))) tyX3 tyX3_ok nmX3 (by decide) (List.mem_of_getElem? (i := 9) rfl) rfl rfl rfl (Nat.le_of_ble_eq_true rfl) dX3_init_31 (fun g_35 he_36 hn_37 => ?_)
  have h0_38 : nO3 cy B g_35 b (.ref (B + (b + 1))) (.ref (B + (b + 2))) (.int (zI 0)) (.int (zI 0)) := he_36
  have a1_39 : vIA cy B g_35 (b + 1) 6 (fun _ => 0) := vIA_fr a1_32 (fun q h1 h2 => hn_37 q (by omega))
  have a2_40 : vMI6 cy B g_35 (b + 2) (fun _ _ => 0) := vMI6_fr a2_33 (fun q h1 h2 => hn_37 q (by omega))
  have hfr_41 : ∀ q, q < b → g_35 q = g q := fun q hq => (hn_37 q (by omega)).trans (hfr_34 q hq)
  exact w_vret dX3_init_34 rfl ⟨⟨h0_38, a1_39, a2_40.1, (fun k hk => by have h9 := a2_40.2 k hk; rw [show b + 2 + (k + 1) = b + (k + 3) by omega] at h9; exact h9)⟩, hfr_41⟩
set_option maxHeartbeats 4000000 in
set_option maxRecDepth 100000 in
theorem c_X0_init {l : Launch} {D : va_G} {cy : Nat → ClassId} {B : Nat} {g : Nat → va_E} {b : Nat} {sets : Nat} (h0 : nO0 cy B g b (.null) (.null) (.null) (.null) (.null) (.int (zI 0)) (.int (zI 0))) : CTc2 l yX0_init wsX0_init (rmc 1 12 9 85) D cy B (b + 1) g [.ref (B + b), .ref (B + sets)] 9 85 (fun g' => vCol cy B g' b sets 0 1 (fun _ => 0) (fun _ => 0) (fun _ => 0) (fun _ _ => 0) ∧ ∀ q, q < b → g' q = g q) := by
  refine WW_of2 (cc := cX0_init) (maxL := 2) (ret := none) (own := RX0) (by decide) rfl rfl (Nat.le_of_ble_eq_true rfl) rfl ?_
  intro pp ee ss mm bl me co hmn hao
  have hfr_0 : ∀ q, q < b → g q = g q := fun _ _ => rfl
  refine w_aload_n dX0_init_0 rfl 0 rfl ?_
  refine w_objInit (List.mem_of_getElem? (i := 1) rfl) (List.mem_of_getElem? (i := 2) rfl) (List.mem_of_getElem? (i := 3) rfl) dX0_init_1 (Nat.le_of_ble_eq_true rfl) (Nat.le_of_ble_eq_true rfl) (by decide) ?_
  refine w_aload_n dX0_init_4 rfl 0 rfl ?_
  refine w_aload_n dX0_init_5 rfl 1 rfl ?_
  refine w_putF (i := 0) (T := TX0) (NF := 7) b (by first | omega | with_reducible rfl) h0 rfl (fun _ h => (List.mem_cons_of_mem _ (List.mem_append_right _ h))) tyX0 tyX0_ok nmX0 (by decide) (List.mem_of_getElem? (i := 4) rfl) rfl hmn rfl rfl rfl (Nat.le_of_ble_eq_true rfl) dX0_init_6 (fun g_1 he_2 hn_3 => ?_)
  have h0_4 : nO0 cy B g_1 b (.ref (B + sets)) (.null) (.null) (.null) (.null) (.int (zI 0)) (.int (zI 0)) := he_2
  have hfr_5 : ∀ q, q < b → g_1 q = g q := fun q hq => (hn_3 q (by omega)).trans (hfr_0 q hq)
  refine w_aload_n dX0_init_9 rfl 0 rfl ?_
  refine w_iconst dX0_init_10 ?_
  refine w_newI (n := 5) (by omega) (by omega) (List.mem_of_getElem? (i := 5) rfl) (Nat.le_of_ble_eq_true rfl) (Nat.le_of_ble_eq_true rfl) dX0_init_11 (fun g_6 he_7 hn_8 => ?_)
  have h0_9 : nO0 cy B g_6 b (.ref (B + sets)) (.null) (.null) (.null) (.null) (.int (zI 0)) (.int (zI 0)) := nO0_fr h0_4 (fun q h1 h2 => hn_8 q (by omega))
  have hfr_10 : ∀ q, q < b → g_6 q = g q := fun q hq => (hn_8 q (by omega)).trans (hfr_5 q hq)
  have a1_11 : vIA cy B g_6 (b + 1) 5 (fun _ => 0) := he_7
  refine w_putF (i := 1) (T := TX0) (NF := 7) b (by first | omega | with_reducible rfl) h0_9 rfl (fun _ h => (List.mem_cons_of_mem _ (List.mem_append_right _ h))) tyX0 tyX0_ok nmX0 (by decide) (List.mem_of_getElem? (i := 6) rfl) rfl hmn rfl rfl rfl (Nat.le_of_ble_eq_true rfl) dX0_init_13 (fun g_12 he_13 hn_14 => ?_)
  have h0_15 : nO0 cy B g_12 b (.ref (B + sets)) (.ref (B + (b + 1))) (.null) (.null) (.null) (.int (zI 0)) (.int (zI 0)) := he_13
  have a1_16 : vIA cy B g_12 (b + 1) 5 (fun _ => 0) := vIA_fr a1_11 (fun q h1 h2 => hn_14 q (by omega))
  have hfr_17 : ∀ q, q < b → g_12 q = g q := fun q hq => (hn_14 q (by omega)).trans (hfr_10 q hq)
  refine w_aload_n dX0_init_16 rfl 0 rfl ?_
  refine w_iconst dX0_init_17 ?_
  refine w_newI (n := 5) (by omega) (by omega) (List.mem_of_getElem? (i := 5) rfl) (Nat.le_of_ble_eq_true rfl) (Nat.le_of_ble_eq_true rfl) dX0_init_18 (fun g_18 he_19 hn_20 => ?_)
  have h0_21 : nO0 cy B g_18 b (.ref (B + sets)) (.ref (B + (b + 1))) (.null) (.null) (.null) (.int (zI 0)) (.int (zI 0)) := nO0_fr h0_15 (fun q h1 h2 => hn_20 q (by omega))
  have a1_22 : vIA cy B g_18 (b + 1) 5 (fun _ => 0) := vIA_fr a1_16 (fun q h1 h2 => hn_20 q (by omega))
  have hfr_23 : ∀ q, q < b → g_18 q = g q := fun q hq => (hn_20 q (by omega)).trans (hfr_17 q hq)
  have a2_24 : vIA cy B g_18 (b + 2) 5 (fun _ => 0) := he_19
  refine w_putF (i := 2) (T := TX0) (NF := 7) b (by first | omega | with_reducible rfl) h0_21 rfl (fun _ h => (List.mem_cons_of_mem _ (List.mem_append_right _ h))) tyX0 tyX0_ok nmX0 (by decide) (List.mem_of_getElem? (i := 7) rfl) rfl hmn rfl rfl rfl (Nat.le_of_ble_eq_true rfl) dX0_init_20 (fun g_25 he_26 hn_27 => ?_)
  have h0_28 : nO0 cy B g_25 b (.ref (B + sets)) (.ref (B + (b + 1))) (.ref (B + (b + 2))) (.null) (.null) (.int (zI 0)) (.int (zI 0)) := he_26
  have a1_29 : vIA cy B g_25 (b + 1) 5 (fun _ => 0) := vIA_fr a1_22 (fun q h1 h2 => hn_27 q (by omega))
  have a2_30 : vIA cy B g_25 (b + 2) 5 (fun _ => 0) := vIA_fr a2_24 (fun q h1 h2 => hn_27 q (by omega))
  have hfr_31 : ∀ q, q < b → g_25 q = g q := fun q hq => (hn_27 q (by omega)).trans (hfr_23 q hq)
  refine w_aload_n dX0_init_23 rfl 0 rfl ?_
  refine w_iconst dX0_init_24 ?_
  refine w_newI (n := 5) (by omega) (by omega) (List.mem_of_getElem? (i := 5) rfl) (Nat.le_of_ble_eq_true rfl) (Nat.le_of_ble_eq_true rfl) dX0_init_25 (fun g_32 he_33 hn_34 => ?_)
  have h0_35 : nO0 cy B g_32 b (.ref (B + sets)) (.ref (B + (b + 1))) (.ref (B + (b + 2))) (.null) (.null) (.int (zI 0)) (.int (zI 0)) := nO0_fr h0_28 (fun q h1 h2 => hn_34 q (by omega))
  have a1_36 : vIA cy B g_32 (b + 1) 5 (fun _ => 0) := vIA_fr a1_29 (fun q h1 h2 => hn_34 q (by omega))
  have a2_37 : vIA cy B g_32 (b + 2) 5 (fun _ => 0) := vIA_fr a2_30 (fun q h1 h2 => hn_34 q (by omega))
  have hfr_38 : ∀ q, q < b → g_32 q = g q := fun q hq => (hn_34 q (by omega)).trans (hfr_31 q hq)
  have a3_39 : vIA cy B g_32 (b + 3) 5 (fun _ => 0) := he_33
  refine w_putF (i := 3) (T := TX0) (NF := 7) b (by first | omega | with_reducible rfl) h0_35 rfl (fun _ h => (List.mem_cons_of_mem _ (List.mem_append_right _ h))) tyX0 tyX0_ok nmX0 (by decide) (List.mem_of_getElem? (i := 8) rfl) rfl hmn rfl rfl rfl (Nat.le_of_ble_eq_true rfl) dX0_init_27 (fun g_40 he_41 hn_42 => ?_)
  have h0_43 : nO0 cy B g_40 b (.ref (B + sets)) (.ref (B + (b + 1))) (.ref (B + (b + 2))) (.ref (B + (b + 3))) (.null) (.int (zI 0)) (.int (zI 0)) := he_41
  have a1_44 : vIA cy B g_40 (b + 1) 5 (fun _ => 0) := vIA_fr a1_36 (fun q h1 h2 => hn_42 q (by omega))
  have a2_45 : vIA cy B g_40 (b + 2) 5 (fun _ => 0) := vIA_fr a2_37 (fun q h1 h2 => hn_42 q (by omega))
  have a3_46 : vIA cy B g_40 (b + 3) 5 (fun _ => 0) := vIA_fr a3_39 (fun q h1 h2 => hn_42 q (by omega))
  have hfr_47 : ∀ q, q < b → g_40 q = g q := fun q hq => (hn_42 q (by omega)).trans (hfr_38 q hq)
  refine w_aload_n dX0_init_30 rfl 0 rfl ?_
  refine w_iconst dX0_init_31 ?_
  refine w_bipush dX0_init_32 (by decide) ?_
  refine w_mnaJ (n := 5) (k := 13) hao (by omega) (by omega) (by omega) (by omega) (List.mem_of_getElem? (i := 9) rfl) (List.mem_of_getElem? (i := 10) rfl) (Nat.le_of_ble_eq_true rfl) (Nat.le_of_ble_eq_true rfl) dX0_init_34 (fun g_48 he_49 hm_51 hn_50 => ?_)
  have h0_52 : nO0 cy B g_48 b (.ref (B + sets)) (.ref (B + (b + 1))) (.ref (B + (b + 2))) (.ref (B + (b + 3))) (.null) (.int (zI 0)) (.int (zI 0)) := nO0_fr h0_43 (fun q h1 h2 => hn_50 q (by omega))
  have a1_53 : vIA cy B g_48 (b + 1) 5 (fun _ => 0) := vIA_fr a1_44 (fun q h1 h2 => hn_50 q (by omega))
  have a2_54 : vIA cy B g_48 (b + 2) 5 (fun _ => 0) := vIA_fr a2_45 (fun q h1 h2 => hn_50 q (by omega))
  have a3_55 : vIA cy B g_48 (b + 3) 5 (fun _ => 0) := vIA_fr a3_46 (fun q h1 h2 => hn_50 q (by omega))
  have hfr_56 : ∀ q, q < b → g_48 q = g q := fun q hq => (hn_50 q (by omega)).trans (hfr_47 q hq)
  have a4_57 : vMJ5 cy B g_48 (b + 4) (fun _ _ => 0) := ⟨he_49, hm_51⟩
  refine w_putF (i := 4) (T := TX0) (NF := 7) b (by first | omega | with_reducible rfl) h0_52 rfl (fun _ h => (List.mem_cons_of_mem _ (List.mem_append_right _ h))) tyX0 tyX0_ok nmX0 (by decide) (List.mem_of_getElem? (i := 11) rfl) rfl hmn rfl rfl rfl (Nat.le_of_ble_eq_true rfl) dX0_init_38 (fun g_58 he_59 hn_60 => ?_)
  have h0_61 : nO0 cy B g_58 b (.ref (B + sets)) (.ref (B + (b + 1))) (.ref (B + (b + 2))) (.ref (B + (b + 3))) (.ref (B + (b + 4))) (.int (zI 0)) (.int (zI 0)) := he_59
  have a1_62 : vIA cy B g_58 (b + 1) 5 (fun _ => 0) := vIA_fr a1_53 (fun q h1 h2 => hn_60 q (by omega))
  have a2_63 : vIA cy B g_58 (b + 2) 5 (fun _ => 0) := vIA_fr a2_54 (fun q h1 h2 => hn_60 q (by omega))
  have a3_64 : vIA cy B g_58 (b + 3) 5 (fun _ => 0) := vIA_fr a3_55 (fun q h1 h2 => hn_60 q (by omega))
  have a4_65 : vMJ5 cy B g_58 (b + 4) (fun _ _ => 0) := vMJ5_fr a4_57 (fun q h1 h2 => hn_60 q (by omega))
  have hfr_66 : ∀ q, q < b → g_58 q = g q := fun q hq => (hn_60 q (by omega)).trans (hfr_56 q hq)
  refine w_aload_n dX0_init_41 rfl 0 rfl ?_
  refine w_iconst dX0_init_42 ?_
  refine w_put (i := 5) (T := TX0) (NF := 7) b (by first | omega | with_reducible rfl) h0_61 rfl (fun _ h => (List.mem_cons_of_mem _ (List.mem_append_right _ h))) tyX0 tyX0_ok nmX0 (by decide) (List.mem_of_getElem? (i := 12) rfl) rfl rfl rfl (Nat.le_of_ble_eq_true rfl) dX0_init_43 (fun g_67 he_68 hn_69 => ?_)
  have h0_70 : nO0 cy B g_67 b (.ref (B + sets)) (.ref (B + (b + 1))) (.ref (B + (b + 2))) (.ref (B + (b + 3))) (.ref (B + (b + 4))) (.int (zI 0)) (.int (zI 0)) := he_68
  have a1_71 : vIA cy B g_67 (b + 1) 5 (fun _ => 0) := vIA_fr a1_62 (fun q h1 h2 => hn_69 q (by omega))
  have a2_72 : vIA cy B g_67 (b + 2) 5 (fun _ => 0) := vIA_fr a2_63 (fun q h1 h2 => hn_69 q (by omega))
  have a3_73 : vIA cy B g_67 (b + 3) 5 (fun _ => 0) := vIA_fr a3_64 (fun q h1 h2 => hn_69 q (by omega))
  have a4_74 : vMJ5 cy B g_67 (b + 4) (fun _ _ => 0) := vMJ5_fr a4_65 (fun q h1 h2 => hn_69 q (by omega))
  have hfr_75 : ∀ q, q < b → g_67 q = g q := fun q hq => (hn_69 q (by omega)).trans (hfr_66 q hq)
  refine w_aload_n dX0_init_46 rfl 0 rfl ?_
  refine w_iconst dX0_init_47 ?_
  refine w_put (i := 6) (T := TX0) (NF := 7) b (by first | omega | with_reducible rfl) h0_70 rfl (fun _ h => (List.mem_cons_of_mem _ (List.mem_append_right _ h))) tyX0 tyX0_ok nmX0 (by decide) (List.mem_of_getElem? (i := 13) rfl) rfl rfl rfl (Nat.le_of_ble_eq_true rfl) dX0_init_48 (fun g_76 he_77 hn_78 => ?_)
  have h0_79 : nO0 cy B g_76 b (.ref (B + sets)) (.ref (B + (b + 1))) (.ref (B + (b + 2))) (.ref (B + (b + 3))) (.ref (B + (b + 4))) (.int (zI 0)) (.int (zI 1)) := he_77
  have a1_80 : vIA cy B g_76 (b + 1) 5 (fun _ => 0) := vIA_fr a1_71 (fun q h1 h2 => hn_78 q (by omega))
  have a2_81 : vIA cy B g_76 (b + 2) 5 (fun _ => 0) := vIA_fr a2_72 (fun q h1 h2 => hn_78 q (by omega))
  have a3_82 : vIA cy B g_76 (b + 3) 5 (fun _ => 0) := vIA_fr a3_73 (fun q h1 h2 => hn_78 q (by omega))
  have a4_83 : vMJ5 cy B g_76 (b + 4) (fun _ _ => 0) := vMJ5_fr a4_74 (fun q h1 h2 => hn_78 q (by omega))
  have hfr_84 : ∀ q, q < b → g_76 q = g q := fun q hq => (hn_78 q (by omega)).trans (hfr_75 q hq)
  exact w_vret dX0_init_51 rfl ⟨⟨h0_79, a1_80, a2_81, a3_82, a4_83.1, (fun k hk => by have h9 := a4_83.2 k hk; rw [show b + 4 + (k + 1) = b + (k + 5) by omega] at h9; exact h9)⟩, hfr_84⟩
set_option maxHeartbeats 4000000 in
set_option maxRecDepth 100000 in
theorem c_X2_init {l : Launch} {D : va_G} {cy : Nat → ClassId} {B : Nat} {g : Nat → va_E} {b : Nat} {cb : Nat} (h0 : nO2 cy B g b (.null) (.null) (.null) (.int (zI 0)) (.int (zI 0))) : CTc2 l yX2_init wsX2_init (rmc 1 12 10 2942) D cy B (b + 1) g [.ref (B + b), .ref (B + cb)] 10 2942 (fun g' => vNet cy B g' b cb (fun _ => 0) 0 0 (fun _ _ => 0) ∧ ∀ q, q < b → g' q = g q) := by
  refine WW_of2 (cc := cX2_init) (maxL := 2) (ret := none) (own := RX2) (by decide) rfl rfl (Nat.le_of_ble_eq_true rfl) rfl ?_
  intro pp ee ss mm bl me co hmn hao
  have hfr_0 : ∀ q, q < b → g q = g q := fun _ _ => rfl
  refine w_aload_n dX2_init_0 rfl 0 rfl ?_
  refine w_objInit (List.mem_of_getElem? (i := 1) rfl) (List.mem_of_getElem? (i := 2) rfl) (List.mem_of_getElem? (i := 3) rfl) dX2_init_1 (Nat.le_of_ble_eq_true rfl) (Nat.le_of_ble_eq_true rfl) (by decide) ?_
  refine w_aload_n dX2_init_4 rfl 0 rfl ?_
  refine w_aload_n dX2_init_5 rfl 1 rfl ?_
  refine w_putF (i := 0) (T := TX2) (NF := 5) b (by first | omega | with_reducible rfl) h0 rfl (fun _ h => (List.mem_cons_of_mem _ (List.mem_append_right _ h))) tyX2 tyX2_ok nmX2 (by decide) (List.mem_of_getElem? (i := 4) rfl) rfl hmn rfl rfl rfl (Nat.le_of_ble_eq_true rfl) dX2_init_6 (fun g_1 he_2 hn_3 => ?_)
  have h0_4 : nO2 cy B g_1 b (.ref (B + cb)) (.null) (.null) (.int (zI 0)) (.int (zI 0)) := he_2
  have hfr_5 : ∀ q, q < b → g_1 q = g q := fun q hq => (hn_3 q (by omega)).trans (hfr_0 q hq)
  refine w_aload_n dX2_init_9 rfl 0 rfl ?_
  refine w_bipush dX2_init_10 (by decide) ?_
  refine w_sipush dX2_init_12 (by decide) ?_
  refine w_mnaJ (n := 8) (k := 366) hao (by omega) (by omega) (by omega) (by omega) (List.mem_of_getElem? (i := 5) rfl) (List.mem_of_getElem? (i := 6) rfl) (Nat.le_of_ble_eq_true rfl) (Nat.le_of_ble_eq_true rfl) dX2_init_15 (fun g_6 he_7 hm_9 hn_8 => ?_)
  have h0_10 : nO2 cy B g_6 b (.ref (B + cb)) (.null) (.null) (.int (zI 0)) (.int (zI 0)) := nO2_fr h0_4 (fun q h1 h2 => hn_8 q (by omega))
  have hfr_11 : ∀ q, q < b → g_6 q = g q := fun q hq => (hn_8 q (by omega)).trans (hfr_5 q hq)
  have a1_12 : vMJ8 cy B g_6 (b + 1) (fun _ _ => 0) := ⟨he_7, hm_9⟩
  refine w_putF (i := 1) (T := TX2) (NF := 5) b (by first | omega | with_reducible rfl) h0_10 rfl (fun _ h => (List.mem_cons_of_mem _ (List.mem_append_right _ h))) tyX2 tyX2_ok nmX2 (by decide) (List.mem_of_getElem? (i := 7) rfl) rfl hmn rfl rfl rfl (Nat.le_of_ble_eq_true rfl) dX2_init_19 (fun g_13 he_14 hn_15 => ?_)
  have h0_16 : nO2 cy B g_13 b (.ref (B + cb)) (.ref (B + (b + 1))) (.null) (.int (zI 0)) (.int (zI 0)) := he_14
  have a1_17 : vMJ8 cy B g_13 (b + 1) (fun _ _ => 0) := vMJ8_fr a1_12 (fun q h1 h2 => hn_15 q (by omega))
  have hfr_18 : ∀ q, q < b → g_13 q = g q := fun q hq => (hn_15 q (by omega)).trans (hfr_11 q hq)
  refine w_aload_n dX2_init_22 rfl 0 rfl ?_
  refine w_bipush dX2_init_23 (by decide) ?_
  refine w_newI (n := 6) (by omega) (by omega) (List.mem_of_getElem? (i := 8) rfl) (Nat.le_of_ble_eq_true rfl) (Nat.le_of_ble_eq_true rfl) dX2_init_25 (fun g_19 he_20 hn_21 => ?_)
  have h0_22 : nO2 cy B g_19 b (.ref (B + cb)) (.ref (B + (b + 1))) (.null) (.int (zI 0)) (.int (zI 0)) := nO2_fr h0_16 (fun q h1 h2 => hn_21 q (by omega))
  have a1_23 : vMJ8 cy B g_19 (b + 1) (fun _ _ => 0) := vMJ8_fr a1_17 (fun q h1 h2 => hn_21 q (by omega))
  have hfr_24 : ∀ q, q < b → g_19 q = g q := fun q hq => (hn_21 q (by omega)).trans (hfr_18 q hq)
  have a10_25 : vIA cy B g_19 (b + 10) 6 (fun _ => 0) := he_20
  refine w_putF (i := 2) (T := TX2) (NF := 5) b (by first | omega | with_reducible rfl) h0_22 rfl (fun _ h => (List.mem_cons_of_mem _ (List.mem_append_right _ h))) tyX2 tyX2_ok nmX2 (by decide) (List.mem_of_getElem? (i := 9) rfl) rfl hmn rfl rfl rfl (Nat.le_of_ble_eq_true rfl) dX2_init_27 (fun g_26 he_27 hn_28 => ?_)
  have h0_29 : nO2 cy B g_26 b (.ref (B + cb)) (.ref (B + (b + 1))) (.ref (B + (b + 10))) (.int (zI 0)) (.int (zI 0)) := he_27
  have a1_30 : vMJ8 cy B g_26 (b + 1) (fun _ _ => 0) := vMJ8_fr a1_23 (fun q h1 h2 => hn_28 q (by omega))
  have a10_31 : vIA cy B g_26 (b + 10) 6 (fun _ => 0) := vIA_fr a10_25 (fun q h1 h2 => hn_28 q (by omega))
  have hfr_32 : ∀ q, q < b → g_26 q = g q := fun q hq => (hn_28 q (by omega)).trans (hfr_24 q hq)
  refine w_aload_n dX2_init_30 rfl 0 rfl ?_
  refine w_iconst dX2_init_31 ?_
  refine w_put (i := 3) (T := TX2) (NF := 5) b (by first | omega | with_reducible rfl) h0_29 rfl (fun _ h => (List.mem_cons_of_mem _ (List.mem_append_right _ h))) tyX2 tyX2_ok nmX2 (by decide) (List.mem_of_getElem? (i := 10) rfl) rfl rfl rfl (Nat.le_of_ble_eq_true rfl) dX2_init_32 (fun g_33 he_34 hn_35 => ?_)
  have h0_36 : nO2 cy B g_33 b (.ref (B + cb)) (.ref (B + (b + 1))) (.ref (B + (b + 10))) (.int (zI 0)) (.int (zI 0)) := he_34
  have a1_37 : vMJ8 cy B g_33 (b + 1) (fun _ _ => 0) := vMJ8_fr a1_30 (fun q h1 h2 => hn_35 q (by omega))
  have a10_38 : vIA cy B g_33 (b + 10) 6 (fun _ => 0) := vIA_fr a10_31 (fun q h1 h2 => hn_35 q (by omega))
  have hfr_39 : ∀ q, q < b → g_33 q = g q := fun q hq => (hn_35 q (by omega)).trans (hfr_32 q hq)
  refine w_aload_n dX2_init_35 rfl 0 rfl ?_
  refine w_iconst dX2_init_36 ?_
  refine w_put (i := 4) (T := TX2) (NF := 5) b (by first | omega | with_reducible rfl) h0_36 rfl (fun _ h => (List.mem_cons_of_mem _ (List.mem_append_right _ h))) tyX2 tyX2_ok nmX2 (by decide) (List.mem_of_getElem? (i := 11) rfl) rfl rfl rfl (Nat.le_of_ble_eq_true rfl) dX2_init_37 (fun g_40 he_41 hn_42 => ?_)
  have h0_43 : nO2 cy B g_40 b (.ref (B + cb)) (.ref (B + (b + 1))) (.ref (B + (b + 10))) (.int (zI 0)) (.int (zI 0)) := he_41
  have a1_44 : vMJ8 cy B g_40 (b + 1) (fun _ _ => 0) := vMJ8_fr a1_37 (fun q h1 h2 => hn_42 q (by omega))
  have a10_45 : vIA cy B g_40 (b + 10) 6 (fun _ => 0) := vIA_fr a10_38 (fun q h1 h2 => hn_42 q (by omega))
  have hfr_46 : ∀ q, q < b → g_40 q = g q := fun q hq => (hn_42 q (by omega)).trans (hfr_39 q hq)
  exact w_vret dX2_init_40 rfl ⟨⟨h0_43, a1_44.1, (fun k hk => by have h9 := a1_44.2 k hk; rw [show b + 1 + (k + 1) = b + (k + 2) by omega] at h9; exact h9), a10_45⟩, hfr_46⟩
set_option maxHeartbeats 4000000 in
set_option maxRecDepth 100000 in
theorem c_X4_init {l : Launch} {D : va_G} {cy : Nat → ClassId} {B : Nat} {g : Nat → va_E} {b : Nat} {cb nb : Nat} (h0 : nO4 cy B g b (.null) (.null) (.long (zJ 0)) (.long (zJ 0)) (.int (zI 0)) (.int (zI 0)) (.int (zI 0))) : CTc2 l yX4_init wsX4_init (rmc 1 12 0 0) D cy B (b + 1) g [.ref (B + b), .ref (B + cb), .ref (B + nb)] 0 0 (fun g' => vRare cy B g' b cb nb 0 0 0 0 0 ∧ ∀ q, q < b → g' q = g q) := by
  refine WW_of2 (cc := cX4_init) (maxL := 3) (ret := none) (own := RX4) (by decide) rfl rfl (Nat.le_of_ble_eq_true rfl) rfl ?_
  intro pp ee ss mm bl me co hmn hao
  have hfr_0 : ∀ q, q < b → g q = g q := fun _ _ => rfl
  refine w_aload_n dX4_init_0 rfl 0 rfl ?_
  refine w_objInit (List.mem_of_getElem? (i := 1) rfl) (List.mem_of_getElem? (i := 2) rfl) (List.mem_of_getElem? (i := 3) rfl) dX4_init_1 (Nat.le_of_ble_eq_true rfl) (Nat.le_of_ble_eq_true rfl) (by decide) ?_
  refine w_aload_n dX4_init_4 rfl 0 rfl ?_
  refine w_aload_n dX4_init_5 rfl 1 rfl ?_
  refine w_putF (i := 0) (T := TX4) (NF := 7) b (by first | omega | with_reducible rfl) h0 rfl (fun _ h => (List.mem_cons_of_mem _ (List.mem_append_right _ h))) tyX4 tyX4_ok nmX4 (by decide) (List.mem_of_getElem? (i := 4) rfl) rfl hmn rfl rfl rfl (Nat.le_of_ble_eq_true rfl) dX4_init_6 (fun g_1 he_2 hn_3 => ?_)
  have h0_4 : nO4 cy B g_1 b (.ref (B + cb)) (.null) (.long (zJ 0)) (.long (zJ 0)) (.int (zI 0)) (.int (zI 0)) (.int (zI 0)) := he_2
  have hfr_5 : ∀ q, q < b → g_1 q = g q := fun q hq => (hn_3 q (by omega)).trans (hfr_0 q hq)
  refine w_aload_n dX4_init_9 rfl 0 rfl ?_
  refine w_aload_n dX4_init_10 rfl 2 rfl ?_
  refine w_putF (i := 1) (T := TX4) (NF := 7) b (by first | omega | with_reducible rfl) h0_4 rfl (fun _ h => (List.mem_cons_of_mem _ (List.mem_append_right _ h))) tyX4 tyX4_ok nmX4 (by decide) (List.mem_of_getElem? (i := 5) rfl) rfl hmn rfl rfl rfl (Nat.le_of_ble_eq_true rfl) dX4_init_11 (fun g_6 he_7 hn_8 => ?_)
  have h0_9 : nO4 cy B g_6 b (.ref (B + cb)) (.ref (B + nb)) (.long (zJ 0)) (.long (zJ 0)) (.int (zI 0)) (.int (zI 0)) (.int (zI 0)) := he_7
  have hfr_10 : ∀ q, q < b → g_6 q = g q := fun q hq => (hn_8 q (by omega)).trans (hfr_5 q hq)
  refine w_aload_n dX4_init_14 rfl 0 rfl ?_
  refine w_iconst dX4_init_15 ?_
  refine w_put (i := 6) (T := TX4) (NF := 7) b (by first | omega | with_reducible rfl) h0_9 rfl (fun _ h => (List.mem_cons_of_mem _ (List.mem_append_right _ h))) tyX4 tyX4_ok nmX4 (by decide) (List.mem_of_getElem? (i := 6) rfl) rfl rfl rfl (Nat.le_of_ble_eq_true rfl) dX4_init_16 (fun g_11 he_12 hn_13 => ?_)
  have h0_14 : nO4 cy B g_11 b (.ref (B + cb)) (.ref (B + nb)) (.long (zJ 0)) (.long (zJ 0)) (.int (zI 0)) (.int (zI 0)) (.int (zI 0)) := he_12
  have hfr_15 : ∀ q, q < b → g_11 q = g q := fun q hq => (hn_13 q (by omega)).trans (hfr_10 q hq)
  exact w_vret dX4_init_19 rfl ⟨h0_14, hfr_15⟩
set_option maxHeartbeats 4000000 in
set_option maxRecDepth 100000 in
theorem c_X8_init {l : Launch} {D : va_G} {cy : Nat → ClassId} {B : Nat} {g : Nat → va_E} {b : Nat} {cb nb : Nat} (h0 : nO8 cy B g b (.null) (.null) (.null) (.null) (.int (zI 0)) (.int (zI 0)) (.int (zI 0))) : CTc2 l yX8_init wsX8_init (rmc 1 12 2 1082) D cy B (b + 1) g [.ref (B + b), .ref (B + cb), .ref (B + nb)] 2 1082 (fun g' => vSum cy B g' b cb nb (fun _ => 0) (fun _ => 0) 0 0 0 ∧ ∀ q, q < b → g' q = g q) := by
  refine WW_of2 (cc := cX8_init) (maxL := 3) (ret := none) (own := RX8) (by decide) rfl rfl (Nat.le_of_ble_eq_true rfl) rfl ?_
  intro pp ee ss mm bl me co hmn hao
  have hfr_0 : ∀ q, q < b → g q = g q := fun _ _ => rfl
  refine w_aload_n dX8_init_0 rfl 0 rfl ?_
  refine w_objInit (List.mem_of_getElem? (i := 1) rfl) (List.mem_of_getElem? (i := 2) rfl) (List.mem_of_getElem? (i := 3) rfl) dX8_init_1 (Nat.le_of_ble_eq_true rfl) (Nat.le_of_ble_eq_true rfl) (by decide) ?_
  refine w_aload_n dX8_init_4 rfl 0 rfl ?_
  refine w_aload_n dX8_init_5 rfl 1 rfl ?_
  refine w_putF (i := 0) (T := TX8) (NF := 7) b (by first | omega | with_reducible rfl) h0 rfl (fun _ h => (List.mem_cons_of_mem _ (List.mem_append_right _ h))) tyX8 tyX8_ok nmX8 (by decide) (List.mem_of_getElem? (i := 4) rfl) rfl hmn rfl rfl rfl (Nat.le_of_ble_eq_true rfl) dX8_init_6 (fun g_1 he_2 hn_3 => ?_)
  have h0_4 : nO8 cy B g_1 b (.ref (B + cb)) (.null) (.null) (.null) (.int (zI 0)) (.int (zI 0)) (.int (zI 0)) := he_2
  have hfr_5 : ∀ q, q < b → g_1 q = g q := fun q hq => (hn_3 q (by omega)).trans (hfr_0 q hq)
  refine w_aload_n dX8_init_9 rfl 0 rfl ?_
  refine w_aload_n dX8_init_10 rfl 2 rfl ?_
  refine w_putF (i := 1) (T := TX8) (NF := 7) b (by first | omega | with_reducible rfl) h0_4 rfl (fun _ h => (List.mem_cons_of_mem _ (List.mem_append_right _ h))) tyX8 tyX8_ok nmX8 (by decide) (List.mem_of_getElem? (i := 5) rfl) rfl hmn rfl rfl rfl (Nat.le_of_ble_eq_true rfl) dX8_init_11 (fun g_6 he_7 hn_8 => ?_)
  have h0_9 : nO8 cy B g_6 b (.ref (B + cb)) (.ref (B + nb)) (.null) (.null) (.int (zI 0)) (.int (zI 0)) (.int (zI 0)) := he_7
  have hfr_10 : ∀ q, q < b → g_6 q = g q := fun q hq => (hn_8 q (by omega)).trans (hfr_5 q hq)
  refine w_aload_n dX8_init_14 rfl 0 rfl ?_
  refine w_sipush dX8_init_15 (by decide) ?_
  refine w_newJ (n := 541) (by omega) (by omega) (List.mem_of_getElem? (i := 6) rfl) (Nat.le_of_ble_eq_true rfl) (Nat.le_of_ble_eq_true rfl) dX8_init_18 (fun g_11 he_12 hn_13 => ?_)
  have h0_14 : nO8 cy B g_11 b (.ref (B + cb)) (.ref (B + nb)) (.null) (.null) (.int (zI 0)) (.int (zI 0)) (.int (zI 0)) := nO8_fr h0_9 (fun q h1 h2 => hn_13 q (by omega))
  have hfr_15 : ∀ q, q < b → g_11 q = g q := fun q hq => (hn_13 q (by omega)).trans (hfr_10 q hq)
  have a1_16 : vLA cy B g_11 (b + 1) 541 (fun _ => 0) := he_12
  refine w_putF (i := 2) (T := TX8) (NF := 7) b (by first | omega | with_reducible rfl) h0_14 rfl (fun _ h => (List.mem_cons_of_mem _ (List.mem_append_right _ h))) tyX8 tyX8_ok nmX8 (by decide) (List.mem_of_getElem? (i := 7) rfl) rfl hmn rfl rfl rfl (Nat.le_of_ble_eq_true rfl) dX8_init_20 (fun g_17 he_18 hn_19 => ?_)
  have h0_20 : nO8 cy B g_17 b (.ref (B + cb)) (.ref (B + nb)) (.ref (B + (b + 1))) (.null) (.int (zI 0)) (.int (zI 0)) (.int (zI 0)) := he_18
  have a1_21 : vLA cy B g_17 (b + 1) 541 (fun _ => 0) := vLA_fr a1_16 (fun q h1 h2 => hn_19 q (by omega))
  have hfr_22 : ∀ q, q < b → g_17 q = g q := fun q hq => (hn_19 q (by omega)).trans (hfr_15 q hq)
  refine w_aload_n dX8_init_23 rfl 0 rfl ?_
  refine w_sipush dX8_init_24 (by decide) ?_
  refine w_newI (n := 541) (by omega) (by omega) (List.mem_of_getElem? (i := 8) rfl) (Nat.le_of_ble_eq_true rfl) (Nat.le_of_ble_eq_true rfl) dX8_init_27 (fun g_23 he_24 hn_25 => ?_)
  have h0_26 : nO8 cy B g_23 b (.ref (B + cb)) (.ref (B + nb)) (.ref (B + (b + 1))) (.null) (.int (zI 0)) (.int (zI 0)) (.int (zI 0)) := nO8_fr h0_20 (fun q h1 h2 => hn_25 q (by omega))
  have a1_27 : vLA cy B g_23 (b + 1) 541 (fun _ => 0) := vLA_fr a1_21 (fun q h1 h2 => hn_25 q (by omega))
  have hfr_28 : ∀ q, q < b → g_23 q = g q := fun q hq => (hn_25 q (by omega)).trans (hfr_22 q hq)
  have a2_29 : vIA cy B g_23 (b + 2) 541 (fun _ => 0) := he_24
  refine w_putF (i := 3) (T := TX8) (NF := 7) b (by first | omega | with_reducible rfl) h0_26 rfl (fun _ h => (List.mem_cons_of_mem _ (List.mem_append_right _ h))) tyX8 tyX8_ok nmX8 (by decide) (List.mem_of_getElem? (i := 9) rfl) rfl hmn rfl rfl rfl (Nat.le_of_ble_eq_true rfl) dX8_init_29 (fun g_30 he_31 hn_32 => ?_)
  have h0_33 : nO8 cy B g_30 b (.ref (B + cb)) (.ref (B + nb)) (.ref (B + (b + 1))) (.ref (B + (b + 2))) (.int (zI 0)) (.int (zI 0)) (.int (zI 0)) := he_31
  have a1_34 : vLA cy B g_30 (b + 1) 541 (fun _ => 0) := vLA_fr a1_27 (fun q h1 h2 => hn_32 q (by omega))
  have a2_35 : vIA cy B g_30 (b + 2) 541 (fun _ => 0) := vIA_fr a2_29 (fun q h1 h2 => hn_32 q (by omega))
  have hfr_36 : ∀ q, q < b → g_30 q = g q := fun q hq => (hn_32 q (by omega)).trans (hfr_28 q hq)
  refine w_aload_n dX8_init_32 rfl 0 rfl ?_
  refine w_iconst dX8_init_33 ?_
  refine w_put (i := 4) (T := TX8) (NF := 7) b (by first | omega | with_reducible rfl) h0_33 rfl (fun _ h => (List.mem_cons_of_mem _ (List.mem_append_right _ h))) tyX8 tyX8_ok nmX8 (by decide) (List.mem_of_getElem? (i := 10) rfl) rfl rfl rfl (Nat.le_of_ble_eq_true rfl) dX8_init_34 (fun g_37 he_38 hn_39 => ?_)
  have h0_40 : nO8 cy B g_37 b (.ref (B + cb)) (.ref (B + nb)) (.ref (B + (b + 1))) (.ref (B + (b + 2))) (.int (zI 0)) (.int (zI 0)) (.int (zI 0)) := he_38
  have a1_41 : vLA cy B g_37 (b + 1) 541 (fun _ => 0) := vLA_fr a1_34 (fun q h1 h2 => hn_39 q (by omega))
  have a2_42 : vIA cy B g_37 (b + 2) 541 (fun _ => 0) := vIA_fr a2_35 (fun q h1 h2 => hn_39 q (by omega))
  have hfr_43 : ∀ q, q < b → g_37 q = g q := fun q hq => (hn_39 q (by omega)).trans (hfr_36 q hq)
  refine w_aload_n dX8_init_37 rfl 0 rfl ?_
  refine w_iconst dX8_init_38 ?_
  refine w_put (i := 5) (T := TX8) (NF := 7) b (by first | omega | with_reducible rfl) h0_40 rfl (fun _ h => (List.mem_cons_of_mem _ (List.mem_append_right _ h))) tyX8 tyX8_ok nmX8 (by decide) (List.mem_of_getElem? (i := 11) rfl) rfl rfl rfl (Nat.le_of_ble_eq_true rfl) dX8_init_39 (fun g_44 he_45 hn_46 => ?_)
  have h0_47 : nO8 cy B g_44 b (.ref (B + cb)) (.ref (B + nb)) (.ref (B + (b + 1))) (.ref (B + (b + 2))) (.int (zI 0)) (.int (zI 0)) (.int (zI 0)) := he_45
  have a1_48 : vLA cy B g_44 (b + 1) 541 (fun _ => 0) := vLA_fr a1_41 (fun q h1 h2 => hn_46 q (by omega))
  have a2_49 : vIA cy B g_44 (b + 2) 541 (fun _ => 0) := vIA_fr a2_42 (fun q h1 h2 => hn_46 q (by omega))
  have hfr_50 : ∀ q, q < b → g_44 q = g q := fun q hq => (hn_46 q (by omega)).trans (hfr_43 q hq)
  refine w_aload_n dX8_init_42 rfl 0 rfl ?_
  refine w_iconst dX8_init_43 ?_
  refine w_put (i := 6) (T := TX8) (NF := 7) b (by first | omega | with_reducible rfl) h0_47 rfl (fun _ h => (List.mem_cons_of_mem _ (List.mem_append_right _ h))) tyX8 tyX8_ok nmX8 (by decide) (List.mem_of_getElem? (i := 12) rfl) rfl rfl rfl (Nat.le_of_ble_eq_true rfl) dX8_init_44 (fun g_51 he_52 hn_53 => ?_)
  have h0_54 : nO8 cy B g_51 b (.ref (B + cb)) (.ref (B + nb)) (.ref (B + (b + 1))) (.ref (B + (b + 2))) (.int (zI 0)) (.int (zI 0)) (.int (zI 0)) := he_52
  have a1_55 : vLA cy B g_51 (b + 1) 541 (fun _ => 0) := vLA_fr a1_48 (fun q h1 h2 => hn_53 q (by omega))
  have a2_56 : vIA cy B g_51 (b + 2) 541 (fun _ => 0) := vIA_fr a2_49 (fun q h1 h2 => hn_53 q (by omega))
  have hfr_57 : ∀ q, q < b → g_51 q = g q := fun q hq => (hn_53 q (by omega)).trans (hfr_50 q hq)
  exact w_vret dX8_init_47 rfl ⟨⟨h0_54, a1_55, a2_56⟩, hfr_57⟩
set_option maxHeartbeats 4000000 in
set_option maxRecDepth 100000 in
theorem c_X6_init {l : Launch} {D : va_G} {cy : Nat → ClassId} {B : Nat} {g : Nat → va_E} {b : Nat}  (h0 : nO6 cy B g b (.null)) : CTc2 l yX6_init wsX6_init (rmc 1 12 14 182) D cy B (b + 1) g [.ref (B + b)] 14 182 (fun g' => (∃ Cn : Nat → Int → Int, vSets cy B g' b Cn ∧ SetI 13 0 Cn) ∧ ∀ q, q < b → g' q = g q) := by
  refine WW_of2 (cc := cX6_init) (maxL := 3) (ret := none) (own := RX6) (by decide) rfl rfl (Nat.le_of_ble_eq_true rfl) rfl ?_
  intro pp ee ss mm bl me co hmn hao
  have hfr_0 : ∀ q, q < b → g q = g q := fun _ _ => rfl
  refine w_aload_n dX6_init_0 rfl 0 rfl ?_
  refine w_objInit (List.mem_of_getElem? (i := 1) rfl) (List.mem_of_getElem? (i := 2) rfl) (List.mem_of_getElem? (i := 3) rfl) dX6_init_1 (Nat.le_of_ble_eq_true rfl) (Nat.le_of_ble_eq_true rfl) (by decide) ?_
  refine w_aload_n dX6_init_4 rfl 0 rfl ?_
  refine w_bipush dX6_init_5 (by decide) ?_
  refine w_bipush dX6_init_7 (by decide) ?_
  refine w_mnaJ (n := 13) (k := 13) hao (by omega) (by omega) (by omega) (by omega) (List.mem_of_getElem? (i := 4) rfl) (List.mem_of_getElem? (i := 5) rfl) (Nat.le_of_ble_eq_true rfl) (Nat.le_of_ble_eq_true rfl) dX6_init_9 (fun g_1 he_2 hm_4 hn_3 => ?_)
  have h0_5 : nO6 cy B g_1 b (.null) := nO6_fr h0 (fun q h1 h2 => hn_3 q (by omega))
  have hfr_6 : ∀ q, q < b → g_1 q = g q := fun q hq => (hn_3 q (by omega)).trans (hfr_0 q hq)
  have a1_7 : vMJ13 cy B g_1 (b + 1) (fun _ _ => 0) := ⟨he_2, hm_4⟩
  refine w_putF (i := 0) (T := TX6) (NF := 1) b (by first | omega | with_reducible rfl) h0_5 rfl (fun _ h => (List.mem_cons_of_mem _ (List.mem_append_right _ h))) tyX6 tyX6_ok nmX6 (by decide) (List.mem_of_getElem? (i := 6) rfl) rfl hmn rfl rfl rfl (Nat.le_of_ble_eq_true rfl) dX6_init_13 (fun g_8 he_9 hn_10 => ?_)
  have h0_11 : nO6 cy B g_8 b (.ref (B + (b + 1))) := he_9
  have a1_12 : vMJ13 cy B g_8 (b + 1) (fun _ _ => 0) := vMJ13_fr a1_7 (fun q h1 h2 => hn_10 q (by omega))
  have hfr_13 : ∀ q, q < b → g_8 q = g q := fun q hq => (hn_10 q (by omega)).trans (hfr_6 q hq)
  have hs_14 : vSets cy B g_8 b (fun _ _ => 0) := ⟨h0_11, a1_12.1, (fun k hk => by have h9 := a1_12.2 k hk; rw [show b + 1 + (k + 1) = b + (k + 2) by omega] at h9; exact h9)⟩
  refine w_iconst dX6_init_16 ?_
  refine w_istore_n [(1, .int (zI 0)), (0, .ref (B + b))] dX6_init_17 rfl (by decide) rfl ?_
  refine w_sub [(0, .ref (B + b)), (1, .int (zI 0))] [1, 0] rfl ?_
  refine w_lv (lv' := [(0, .ref (B + b)), (1, .int (zI ((0 : Nat) : Int)))]) (lc_s (lc_i (by first | omega | with_reducible rfl) rfl)) ?_
  refine w_loop3 (fun (t : Nat) (Cn : Nat → Int → Int) (gl_15 : (Nat → va_E)) => vSets cy B gl_15 b Cn ∧ (∀ q, q < b → gl_15 q = g q) ∧ t ≤ 13 ∧ SetI t 0 Cn) (fun (t : Nat) (Cn : Nat → Int → Int) (gl_15 : (Nat → va_E)) => 13 - t) (fun (t : Nat) (Cn : Nat → Int → Int) (gl_15 : (Nat → va_E)) => gl_15) (fun (t : Nat) (Cn : Nat → Int → Int) (gl_15 : (Nat → va_E)) => [(0, .ref (B + b)), (1, .int (zI ((t : Nat) : Int)))]) ?_ 0 (fun _ _ => 0) g_8 ⟨hs_14, hfr_13, (by first | omega | with_reducible rfl), SetI_0⟩
  rintro t Cn gl_15 ⟨hs_16, hfr_17, hk, hI⟩ ih_18
  refine w_iload_n dX6_init_18 rfl 1 rfl ?_
  refine w_bipush dX6_init_19 (by decide) ?_
  refine w_icmp_gt 83 dX6_init_21 (by decide) (by first | omega | with_reducible rfl) (by first | omega | with_reducible rfl) (fun c_21 => ?_) (fun c_21 => ?_)
  · exact w_vret dX6_init_83 rfl ⟨⟨_, hs_16, (by have h9 := hI; rwa [show t = 13 by omega] at h9)⟩, hfr_17⟩
  · refine w_aload_n dX6_init_24 rfl 0 rfl ?_
    refine w_get (i := 0) (T := TX6) (NF := 1) b (by first | omega | with_reducible rfl) hs_16.1 rfl (fun _ h => (List.mem_cons_of_mem _ (List.mem_append_right _ h))) (by decide) (List.mem_of_getElem? (i := 6) rfl) rfl dX6_init_25 ?_
    refine w_iload_n dX6_init_28 rfl 1 rfl ?_
    refine w_aald (j := t) (k' := (b + (t + 2))) (b + 1) (by first | omega | with_reducible rfl) hs_16.2.1 rfl rfl (by first | omega | with_reducible rfl) (by first | omega | with_reducible rfl) (by first | omega | with_reducible rfl) dX6_init_29 ?_
    refine w_iconst dX6_init_30 ?_
    refine w_lconst1 dX6_init_31 ?_
    refine w_last (b + (t + 2)) (by first | omega | with_reducible rfl) (hs_16.2.2 t (by first | omega | with_reducible rfl)) (by first | omega | with_reducible rfl) dX6_init_32 (fun g_18 he_19 hn_20 => ?_)
    have hs_21 : vSets cy B g_18 b (uF Cn t (uZ (Cn t) 0 1)) := ⟨((hn_20 _ (by omega)).trans hs_16.1), ((hn_20 _ (by omega)).trans hs_16.2.1), (fam_put (F := fun z9 => cJ (cy 2) 13 z9) (P := Cn) (b := b) (o := 2) hs_16.2.2 he_19 hn_20)⟩
    have hfr_22 : ∀ q, q < b → g_18 q = g q := fun q hq => (hn_20 q (by omega)).trans (hfr_17 q hq)
    refine w_iconst dX6_init_33 ?_
    refine w_istore_n [(2, .int (zI 1)), (0, .ref (B + b)), (1, .int (zI ((t : Nat) : Int)))] dX6_init_34 rfl (by decide) rfl ?_
    refine w_sub [(0, .ref (B + b)), (1, .int (zI ((t : Nat) : Int))), (2, .int (zI 1))] [1, 2, 0] rfl ?_
    refine w_lv (lv' := [(0, .ref (B + b)), (1, .int (zI ((t : Nat) : Int))), (2, .int (zI ((1 : Nat) : Int)))]) (lc_s (lc_s (lc_i (by first | omega | with_reducible rfl) rfl))) ?_
    refine w_loop3 (fun (u : Nat) (C1 : Nat → Int → Int) (gl_23 : (Nat → va_E)) => vSets cy B gl_23 b C1 ∧ (∀ q, q < b → gl_23 q = g q) ∧ (1 ≤ u ∧ u ≤ t + 1) ∧ SetI t u C1) (fun (u : Nat) (C1 : Nat → Int → Int) (gl_23 : (Nat → va_E)) => t + 1 - u) (fun (u : Nat) (C1 : Nat → Int → Int) (gl_23 : (Nat → va_E)) => gl_23) (fun (u : Nat) (C1 : Nat → Int → Int) (gl_23 : (Nat → va_E)) => [(0, .ref (B + b)), (1, .int (zI ((t : Nat) : Int))), (2, .int (zI ((u : Nat) : Int)))]) ?_ 1 (uF Cn t (uZ (Cn t) 0 1)) g_18 ⟨hs_21, hfr_22, (by first | omega | with_reducible rfl), (SetI_1 hI)⟩
    rintro u C1 gl_23 ⟨hs_24, hfr_25, hu, hJ⟩ ih_35
    refine w_iload_n dX6_init_35 rfl 2 rfl ?_
    refine w_iload_n dX6_init_36 rfl 1 rfl ?_
    refine w_icmp_gt 77 dX6_init_37 (by decide) (by first | omega | with_reducible rfl) (by first | omega | with_reducible rfl) (fun c_37 => ?_) (fun c_37 => ?_)
    · refine w_iinc 1 [(1, .int (zI (((t : Nat) : Int) + 1))), (0, .ref (B + b)), (2, .int (zI ((u : Nat) : Int)))] dX6_init_77 rfl (by decide) rfl ?_
      refine w_goto 18 dX6_init_80 (by decide) ?_
      refine w_sub [(0, .ref (B + b)), (1, .int (zI (((t : Nat) : Int) + 1)))] [1, 0] rfl ?_
      refine w_lv (lv' := [(0, .ref (B + b)), (1, .int (zI (((t + 1) : Nat) : Int)))]) (lc_s (lc_i (by first | omega | with_reducible rfl) rfl)) ?_
      exact ih_18 (t + 1) C1 gl_23 ⟨hs_24, hfr_25, (by first | omega | with_reducible rfl), (SetI_n (by have h9 := hJ; rwa [show u = t + 1 by omega] at h9))⟩ (by first | omega | with_reducible rfl)
    · refine w_aload_n dX6_init_40 rfl 0 rfl ?_
      refine w_get (i := 0) (T := TX6) (NF := 1) b (by first | omega | with_reducible rfl) hs_24.1 rfl (fun _ h => (List.mem_cons_of_mem _ (List.mem_append_right _ h))) (by decide) (List.mem_of_getElem? (i := 6) rfl) rfl dX6_init_41 ?_
      refine w_iload_n dX6_init_44 rfl 1 rfl ?_
      refine w_aald (j := t) (k' := (b + (t + 2))) (b + 1) (by first | omega | with_reducible rfl) hs_24.2.1 rfl rfl (by first | omega | with_reducible rfl) (by first | omega | with_reducible rfl) (by first | omega | with_reducible rfl) dX6_init_45 ?_
      refine w_iload_n dX6_init_46 rfl 2 rfl ?_
      refine w_aload_n dX6_init_47 rfl 0 rfl ?_
      refine w_get (i := 0) (T := TX6) (NF := 1) b (by first | omega | with_reducible rfl) hs_24.1 rfl (fun _ h => (List.mem_cons_of_mem _ (List.mem_append_right _ h))) (by decide) (List.mem_of_getElem? (i := 6) rfl) rfl dX6_init_48 ?_
      refine w_iload_n dX6_init_51 rfl 1 rfl ?_
      refine w_iconst dX6_init_52 ?_
      refine w_isub dX6_init_53 ?_
      refine w_aald (j := (t - 1)) (k' := (b + ((t - 1) + 2))) (b + 1) (by first | omega | with_reducible rfl) hs_24.2.1 rfl rfl (by first | omega | with_reducible rfl) (by first | omega | with_reducible rfl) (by first | omega | with_reducible rfl) dX6_init_54 ?_
      refine w_iload_n dX6_init_55 rfl 2 rfl ?_
      refine w_iconst dX6_init_56 ?_
      refine w_isub dX6_init_57 ?_
      refine w_lald (b + ((t - 1) + 2)) (by first | omega | with_reducible rfl) (hs_24.2.2 (t - 1) (by first | omega | with_reducible rfl)) (by first | omega | with_reducible rfl) dX6_init_58 ?_
      refine w_aload_n dX6_init_59 rfl 0 rfl ?_
      refine w_get (i := 0) (T := TX6) (NF := 1) b (by first | omega | with_reducible rfl) hs_24.1 rfl (fun _ h => (List.mem_cons_of_mem _ (List.mem_append_right _ h))) (by decide) (List.mem_of_getElem? (i := 6) rfl) rfl dX6_init_60 ?_
      refine w_iload_n dX6_init_63 rfl 1 rfl ?_
      refine w_iconst dX6_init_64 ?_
      refine w_isub dX6_init_65 ?_
      refine w_aald (j := (t - 1)) (k' := (b + ((t - 1) + 2))) (b + 1) (by first | omega | with_reducible rfl) hs_24.2.1 rfl rfl (by first | omega | with_reducible rfl) (by first | omega | with_reducible rfl) (by first | omega | with_reducible rfl) dX6_init_66 ?_
      refine w_iload_n dX6_init_67 rfl 2 rfl ?_
      refine w_lald (b + ((t - 1) + 2)) (by first | omega | with_reducible rfl) (hs_24.2.2 (t - 1) (by first | omega | with_reducible rfl)) (by first | omega | with_reducible rfl) dX6_init_68 ?_
      refine w_ladd dX6_init_69 ?_
      refine w_last (b + (t + 2)) (by first | omega | with_reducible rfl) (hs_24.2.2 t (by first | omega | with_reducible rfl)) (by first | omega | with_reducible rfl) dX6_init_70 (fun g_26 he_27 hn_28 => ?_)
      have hs_29 : vSets cy B g_26 b (uF C1 t (uZ (C1 t) ((u : Nat) : Int) (((C1 (t - 1)) (((u : Nat) : Int) - 1)) + ((C1 (t - 1)) ((u : Nat) : Int))))) := ⟨((hn_28 _ (by omega)).trans hs_24.1), ((hn_28 _ (by omega)).trans hs_24.2.1), (fam_put (F := fun z9 => cJ (cy 2) 13 z9) (P := C1) (b := b) (o := 2) hs_24.2.2 he_27 hn_28)⟩
      have hfr_30 : ∀ q, q < b → g_26 q = g q := fun q hq => (hn_28 q (by omega)).trans (hfr_25 q hq)
      refine w_iinc 2 [(2, .int (zI (((u : Nat) : Int) + 1))), (0, .ref (B + b)), (1, .int (zI ((t : Nat) : Int)))] dX6_init_71 rfl (by decide) rfl ?_
      refine w_goto 35 dX6_init_74 (by decide) ?_
      refine w_sub [(0, .ref (B + b)), (1, .int (zI ((t : Nat) : Int))), (2, .int (zI (((u : Nat) : Int) + 1)))] [1, 2, 0] rfl ?_
      refine w_lv (lv' := [(0, .ref (B + b)), (1, .int (zI ((t : Nat) : Int))), (2, .int (zI (((u + 1) : Nat) : Int)))]) (lc_s (lc_s (lc_i (by first | omega | with_reducible rfl) rfl))) ?_
      exact ih_35 (u + 1) (uF C1 t (uZ (C1 t) ((u : Nat) : Int) (((C1 (t - 1)) (((u : Nat) : Int) - 1)) + ((C1 (t - 1)) ((u : Nat) : Int))))) g_26 ⟨hs_29, hfr_30, (by first | omega | with_reducible rfl), (SetI_u (by omega) hJ)⟩ (by first | omega | with_reducible rfl)
