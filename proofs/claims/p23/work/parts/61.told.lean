/-! ===== MarginTables: what is told ===== -/
section I2C
variable {p : Program} {l : Launch} {e : Env} {R : Room} {s : State} {m : MethodId} {args : Array Value} {below : List Frame} {meth : Method} {c : Code} {Q : State → Prop} {cc : ByteArray} {nL : Nat} {ret : Option FieldType} {own : String} {Ts : List Cond} {D : va_G} {cy : Nat → ClassId} {B N cells slots : Nat} {g : Nat → va_E} {pc : Nat} {lv : List (Nat × Value)} {st : List Value}
theorem w_i2c {a : Int} (hd : decode cc pc = .ok (.i2c, 1)) (ha : 0 ≤ a ∧ a < 65536) (kk : WW p l e R s m args below meth c Q cc nL ret own Ts D cy B N cells slots g (pc + 1) lv (.int (zI a) :: st)) : WW p l e R s m args below meth c Q cc nL ret own Ts D cy B N cells slots g pc lv (.int (zI a) :: st) := fun C hb hz H locs ls hP hS hl => lv_i2c C.1 C.2.1 hd (lg_i2c_word (by rw [zI_toInt (by omega)]; omega) (by rw [zI_toInt (by omega)]; omega)) (kk C hb hz H locs ls hP hS hl)
end I2C
theorem cok_nil : cok [] := ⟨by decide, fun j h1 h2 => by
  have : (([] : List Co).length : Int) = 0 := rfl
  omega⟩
theorem gD_c {α : Type} {l : List α} {x d : α} {j : Int} (h : 0 ≤ j) : (l ++ [x]).getD j.toNat d = if j = l.length then x else l.getD j.toNat d := by
  obtain ⟨k, rfl⟩ := Int.eq_ofNat_of_zero_le h
  rw [Int.toNat_natCast]
  by_cases hk : k = l.length
  · subst hk
    rw [if_pos rfl]
    exact gD_e
  · rw [if_neg (by omega)]
    rcases Nat.lt_or_ge k l.length with q | q
    · exact gD_l q
    · rw [List.getD_eq_getElem?_getD, List.getD_eq_getElem?_getD, List.getElem?_eq_none (by simp; omega), List.getElem?_eq_none q]
theorem cok_c {x : List Co} {t a v : Int} (h : cok x) (hl : x.length < 5) (hv : 1 ≤ t ∧ t ≤ 12 ∧ 0 ≤ a ∧ a ≤ t ∧ 0 ≤ v ∧ v ≤ 9) : cok (x ++ [(t, a, v)]) := ⟨by rw [List.length_append]; exact hl, fun j h1 h2 => by
  rw [List.length_append] at h2
  have h3 : ((x.length + [(t, a, v)].length : Nat) : Int) = x.length + 1 := rfl
  unfold coT coX coV
  rw [gD_c h1]
  by_cases hj : j = x.length
  · rw [if_pos hj]
    exact ⟨⟨hv.1, hv.2.1⟩, ⟨hv.2.2.1, hv.2.2.2.1⟩, hv.2.2.2.2⟩
  · rw [if_neg hj]
    exact h.2 j h1 (by omega)⟩
theorem psI_cok {n : Nat} {L : Int → Int} {p : Int} {S : St} {v : Int × St} (h : psI n L p S = some v) (hS : ∀ x ∈ S, cok x) : ∀ x ∈ v.2, cok x := by
  unfold psI at h
  by_cases h1 : inA n L p = 115
  · rw [if_pos h1] at h
    by_cases h2 : inA n L (p + 1) = 59 ∧ S.length < 3
    · rw [if_pos h2] at h
      have hv := Option.some.inj h
      subst hv
      intro x hx
      rcases List.mem_append.mp hx with q | q
      · exact hS x q
      · have : x = [] := by simpa using q
        rw [this]
        exact cok_nil
    · rw [if_neg h2] at h
      exact absurd h (by simp)
  · rw [if_neg h1] at h
    by_cases h2 : vcol n L p ∧ 0 < S.length ∧ (S.getLastD []).length < 5
    · rw [if_pos h2] at h
      have hv := Option.some.inj h
      subst hv
      intro x hx
      rcases S.eq_nil_or_concat with h0 | ⟨A, y, hAx⟩
      · have := h2.2.1
        rw [h0] at this
        exact absurd this (by simp)
      · rw [List.concat_eq_append] at hAx
        subst hAx
        have hx' : x ∈ addc (A ++ [y]) (iT n L p, iX n L p, iV n L p) := hx
        rw [addc_eq] at hx'
        have h3 := h2.2.2
        rw [List.getLastD_concat] at h3
        rcases List.mem_append.mp hx' with q | q
        · exact hS x (List.mem_append_left _ q)
        · have : x = y ++ [(iT n L p, iX n L p, iV n L p)] := by simpa using q
          rw [this]
          exact cok_c (hS y (List.mem_append_right _ (by simp))) h3 h2.1.2
    · rw [if_neg h2] at h
      exact absurd h (by simp)
theorem psF_cok {n : Nat} {L : Int → Int} : ∀ {f : Nat} {p : Int} {S : St}, (∀ x ∈ S, cok x) → ∀ x ∈ (psF n L f p S).2, cok x
  | 0, p, S, h => h
  | f + 1, p, S, h => by
    by_cases h1 : p < n
    · cases hq : psI n L p S with
      | none => rw [psF_no h1 hq]; exact h
      | some v => rw [psF_go h1 hq]; exact psF_cok (psI_cok hq h)
    · rw [psF_end h1]
      exact h
theorem getD_mem {α : Type} {l : List α} {k : Nat} {d : α} (h : k < l.length) : l.getD k d ∈ l := by
  rw [List.getD_eq_getElem?_getD, List.getElem?_eq_getElem h]
  exact List.getElem_mem h
abbrev lyd (S : St) : Prop := (∀ k : Nat, k < S.length → 2 ≤ (S.getD k []).length) ∧ 0 < S.length
def trn (c : List Co) : Nat → List Co
  | 0 => c
  | k + 1 => upX (trn c k) ((k : Nat) : Int) (coT c ((k : Nat) : Int) - coX c ((k : Nat) : Int))
theorem trn_len (c : List Co) : ∀ k, (trn c k).length = c.length
  | 0 => rfl
  | k + 1 => by rw [trn, upX_len, trn_len c k]
theorem trn_at {c : List Co} : ∀ {k : Nat}, k ≤ c.length → ∀ i : Int, 0 ≤ i → coT (trn c k) i = coT c i ∧ coX (trn c k) i = (if i < k then coT c i - coX c i else coX c i) ∧ coV (trn c k) i = coV c i
  | 0, _, i, hi => by
    rw [if_neg (by omega)]
    exact ⟨rfl, rfl, rfl⟩
  | k + 1, hk, i, hi => by
    obtain ⟨a1, a2, a3⟩ := trn_at (c := c) (k := k) (by omega) i hi
    obtain ⟨b1, b2, b3⟩ := upX_at (c := trn c k) (j := ((k : Nat) : Int)) (x := coT c ((k : Nat) : Int) - coX c ((k : Nat) : Int)) (by rw [trn_len]; omega) i hi
    rw [trn, b1, b2, b3, a1, a2, a3]
    refine ⟨rfl, ?_, rfl⟩
    by_cases h : i = k
    · subst h
      rw [if_pos rfl, if_pos (by omega)]
    · rw [if_neg h]
      by_cases h2 : i < k
      · rw [if_pos h2, if_pos (by omega)]
      · rw [if_neg h2, if_neg (by omega)]
theorem trn_cok {c : List Co} (hc : cok c) : ∀ {k : Nat}, k ≤ c.length → cok (trn c k) := fun {k} hk => ⟨by rw [trn_len]; exact hc.1, fun j h1 h2 => by
  rw [trn_len] at h2
  obtain ⟨a1, a2, a3⟩ := trn_at hk j h1
  have h := hc.2 j h1 h2
  rw [a1, a2, a3]
  refine ⟨h.1, ?_, h.2.2⟩
  split <;> omega⟩
def cnt1 (c : List Co) (what : Int) : Int := if what = 1 then ((c.length : Nat) : Int) else if what = 2 then sm (coT c) c.length else if what = 3 then ((coR c : Nat) : Int) else coS c
def cntS (cs : Nat → List Co) (what : Int) : Nat → Int
  | 0 => 0
  | k + 1 => cntS cs what k + cnt1 (cs k) what
set_option maxHeartbeats 4000000 in
set_option maxRecDepth 100000 in
theorem n_X10_write {l : Launch} {D : va_G} {cy : Nat → ClassId} {B N : Nat} {g : Nat → va_E} {la : Nat} {n : Nat} {L : Int → Int} {x : Int} (ht0 : vTop cy B g 0 la) (htx : vText cy B g 16 n L) (hN : 141 ≤ N) (hn : n ≤ 200) (h_x : -2147483648 ≤ x ∧ x < 2147483648) (hb : x < 32 ∨ 126 < x) : CTi l yX10_write wsX10_write (rmo 1 21) D cy B N g [.ref (B + 0), .int (zI x)] (-1) (fun g' => g' = g) := by
  refine WW_of (cc := cX10_write) (maxL := 2) (ret := (some .int)) (own := RX10) (by decide) rfl rfl (Nat.le_of_ble_eq_true rfl) rfl ?_
  intro pp ee ss mm bl me co hmn
  refine w_iload_n dX10_write_0 rfl 1 rfl ?_
  refine w_bipush dX10_write_1 (by decide) ?_
  refine w_icmp_lt 12 dX10_write_3 (by decide) (by first | omega | with_reducible rfl) (by first | omega | with_reducible rfl) (fun c_3 => ?_) (fun c_3 => ?_)
  · refine w_iconst dX10_write_12 ?_
    exact w_iret dX10_write_13 rfl (by first | with_reducible rfl | omega | (split <;> omega)) rfl
  · refine w_iload_n dX10_write_6 rfl 1 rfl ?_
    refine w_bipush dX10_write_7 (by decide) ?_
    refine w_icmp_le 14 dX10_write_9 (by decide) (by first | omega | with_reducible rfl) (by first | omega | with_reducible rfl) (fun c_9 => ?_) (fun c_9 => ?_)
    · exfalso; omega
    · refine w_iconst dX10_write_12 ?_
      exact w_iret dX10_write_13 rfl (by first | with_reducible rfl | omega | (split <;> omega)) rfl
set_option maxHeartbeats 4000000 in
set_option maxRecDepth 100000 in
theorem f_X10_write {l : Launch} {D : va_G} {cy : Nat → ClassId} {B N : Nat} {g : Nat → va_E} {la : Nat} {n : Nat} {L : Int → Int} {x : Int} (ht0 : vTop cy B g 0 la) (htx : vText cy B g 16 n L) (hN : 141 ≤ N) (hn : n ≤ 200) (h_x : -2147483648 ≤ x ∧ x < 2147483648) (hb : 32 ≤ x ∧ x ≤ 126) (hf : n = 200) : CTi l yX10_write wsX10_write (rmo 1 21) D cy B N g [.ref (B + 0), .int (zI x)] (-3) (fun g' => g' = g) := by
  refine WW_of (cc := cX10_write) (maxL := 2) (ret := (some .int)) (own := RX10) (by decide) rfl rfl (Nat.le_of_ble_eq_true rfl) rfl ?_
  intro pp ee ss mm bl me co hmn
  refine w_iload_n dX10_write_0 rfl 1 rfl ?_
  refine w_bipush dX10_write_1 (by decide) ?_
  refine w_icmp_lt 12 dX10_write_3 (by decide) (by first | omega | with_reducible rfl) (by first | omega | with_reducible rfl) (fun c_3 => ?_) (fun c_3 => ?_)
  · exfalso; omega
  · refine w_iload_n dX10_write_6 rfl 1 rfl ?_
    refine w_bipush dX10_write_7 (by decide) ?_
    refine w_icmp_le 14 dX10_write_9 (by decide) (by first | omega | with_reducible rfl) (by first | omega | with_reducible rfl) (fun c_9 => ?_) (fun c_9 => ?_)
    · refine w_aload_n dX10_write_14 rfl 0 rfl ?_
      refine w_get (i := 0) (T := TX10) (NF := 6) 0 (by first | omega | with_reducible rfl) ht0 rfl (fun _ h => (List.mem_cons_of_mem _ (List.mem_append_left _ (List.mem_append_right _ h)))) (by decide) (List.mem_of_getElem? (i := 1) rfl) rfl dX10_write_15 ?_
      refine w_calli (As := []) (rest := []) (n := 0) (c_X9_isFull htx (by first | omega | with_reducible rfl) (by first | omega | with_reducible rfl)) gX10_write_X9_isFull rfl rfl rfl (by decide +kernel) ⟨Nat.le_of_ble_eq_true rfl, Nat.le_of_ble_eq_true rfl⟩ rfl (by first | omega | with_reducible rfl) htx.1 rfl (Nat.le_of_ble_eq_true rfl) ⟨Nat.zero_le _, Nat.zero_le _⟩ dX10_write_18 rfl (fun g_1 hp_2 => ?_)
      subst g_1
      refine w_ifeqB 27 dX10_write_21 (by decide) (fun c_21 => ?_) (fun c_21 => ?_)
      · exfalso; omega
      · refine w_bipush dX10_write_24 (by decide) ?_
        exact w_iret dX10_write_26 rfl (by first | with_reducible rfl | omega | (split <;> omega)) rfl
    · exfalso; omega
set_option maxHeartbeats 4000000 in
set_option maxRecDepth 100000 in
theorem y_X10_write {l : Launch} {D : va_G} {cy : Nat → ClassId} {B N : Nat} {g : Nat → va_E} {la : Nat} {n : Nat} {L : Int → Int} {x : Int} (ht0 : vTop cy B g 0 la) (htx : vText cy B g 16 n L) (hN : 141 ≤ N) (hn : n ≤ 200) (h_x : -2147483648 ≤ x ∧ x < 2147483648) (hb : 32 ≤ x ∧ x ≤ 126) (hf : n < 200) : CTi l yX10_write wsX10_write (rmo 1 21) D cy B N g [.ref (B + 0), .int (zI x)] (((n + 1) : Nat) : Int) (fun g' => vText cy B g' 16 (n + 1) (uZ L ((n : Nat) : Int) x) ∧ (∀ q, (q < 16 ∨ 16 + 2 ≤ q) → g' q = g q)) := by
  refine WW_of (cc := cX10_write) (maxL := 2) (ret := (some .int)) (own := RX10) (by decide) rfl rfl (Nat.le_of_ble_eq_true rfl) rfl ?_
  intro pp ee ss mm bl me co hmn
  have hfr_0 : ∀ q, (q < 16 ∨ 16 + 2 ≤ q) → g q = g q := fun _ _ => rfl
  refine w_iload_n dX10_write_0 rfl 1 rfl ?_
  refine w_bipush dX10_write_1 (by decide) ?_
  refine w_icmp_lt 12 dX10_write_3 (by decide) (by first | omega | with_reducible rfl) (by first | omega | with_reducible rfl) (fun c_3 => ?_) (fun c_3 => ?_)
  · exfalso; omega
  · refine w_iload_n dX10_write_6 rfl 1 rfl ?_
    refine w_bipush dX10_write_7 (by decide) ?_
    refine w_icmp_le 14 dX10_write_9 (by decide) (by first | omega | with_reducible rfl) (by first | omega | with_reducible rfl) (fun c_9 => ?_) (fun c_9 => ?_)
    · refine w_aload_n dX10_write_14 rfl 0 rfl ?_
      refine w_get (i := 0) (T := TX10) (NF := 6) 0 (by first | omega | with_reducible rfl) ht0 rfl (fun _ h => (List.mem_cons_of_mem _ (List.mem_append_left _ (List.mem_append_right _ h)))) (by decide) (List.mem_of_getElem? (i := 1) rfl) rfl dX10_write_15 ?_
      refine w_calli (As := []) (rest := []) (n := 0) (c_X9_isFull htx (by first | omega | with_reducible rfl) (by first | omega | with_reducible rfl)) gX10_write_X9_isFull rfl rfl rfl (by decide +kernel) ⟨Nat.le_of_ble_eq_true rfl, Nat.le_of_ble_eq_true rfl⟩ rfl (by first | omega | with_reducible rfl) htx.1 rfl (Nat.le_of_ble_eq_true rfl) ⟨Nat.zero_le _, Nat.zero_le _⟩ dX10_write_18 rfl (fun g_1 hp_2 => ?_)
      subst g_1
      refine w_ifeqB 27 dX10_write_21 (by decide) (fun c_21 => ?_) (fun c_21 => ?_)
      · refine w_aload_n dX10_write_27 rfl 0 rfl ?_
        refine w_get (i := 0) (T := TX10) (NF := 6) 0 (by first | omega | with_reducible rfl) ht0 rfl (fun _ h => (List.mem_cons_of_mem _ (List.mem_append_left _ (List.mem_append_right _ h)))) (by decide) (List.mem_of_getElem? (i := 1) rfl) rfl dX10_write_28 ?_
        refine w_iload_n dX10_write_31 rfl 1 rfl ?_
        refine w_i2c dX10_write_32 (by first | omega | with_reducible rfl) ?_
        refine w_callv (As := [.int (zI x)]) (rest := []) (n := 1) (c_X9_append htx (by first | omega | with_reducible rfl) (by first | omega | with_reducible rfl) (by first | omega | with_reducible rfl)) gX10_write_X9_append rfl rfl rfl (by decide +kernel) ⟨Nat.le_of_ble_eq_true rfl, Nat.le_of_ble_eq_true rfl⟩ rfl (by first | omega | with_reducible rfl) htx.1 rfl (Nat.le_of_ble_eq_true rfl) ⟨Nat.zero_le _, Nat.zero_le _⟩ dX10_write_33 rfl (fun g_3 hp_4 => ?_)
        obtain ⟨htx_5, hf_6⟩ := hp_4
        have ht0_7 : vTop cy B g_3 0 la := vTop_fr ht0 (fun q h1 h2 => hf_6 q (by omega))
        have hfr_8 : ∀ q, (q < 16 ∨ 16 + 2 ≤ q) → g_3 q = g q := fun q hq => (hf_6 q (by omega)).trans (hfr_0 q hq)
        refine w_aload_n dX10_write_36 rfl 0 rfl ?_
        refine w_get (i := 0) (T := TX10) (NF := 6) 0 (by first | omega | with_reducible rfl) ht0_7 rfl (fun _ h => (List.mem_cons_of_mem _ (List.mem_append_left _ (List.mem_append_right _ h)))) (by decide) (List.mem_of_getElem? (i := 1) rfl) rfl dX10_write_37 ?_
        refine w_calli (As := []) (rest := []) (n := 0) (c_X9_size htx_5 (by first | omega | with_reducible rfl)) gX10_write_X9_size rfl rfl rfl (by decide +kernel) ⟨Nat.le_of_ble_eq_true rfl, Nat.le_of_ble_eq_true rfl⟩ rfl (by first | omega | with_reducible rfl) htx_5.1 rfl (Nat.le_of_ble_eq_true rfl) ⟨Nat.zero_le _, Nat.zero_le _⟩ dX10_write_40 rfl (fun g_9 hp_10 => ?_)
        subst g_9
        exact w_iret dX10_write_43 rfl (by first | with_reducible rfl | omega | (split <;> omega)) ⟨htx_5, hfr_8⟩
      · exfalso; omega
    · exfalso; omega

set_option maxHeartbeats 4000000 in
set_option maxRecDepth 100000 in
theorem c_X10_wipe {l : Launch} {D : va_G} {cy : Nat → ClassId} {B N : Nat} {g : Nat → va_E} {la : Nat} {n : Nat} {L : Int → Int} (ht0 : vTop cy B g 0 la) (htx : vText cy B g 16 n L) (hN : 141 ≤ N) : CTi l yX10_wipe wsX10_wipe (rmo 1 20) D cy B N g [.ref (B + 0)] ((n : Nat) : Int) (fun g' => vText cy B g' 16 0 L ∧ (∀ q, (q < 16 ∨ 16 + 2 ≤ q) → g' q = g q)) := by
  refine WW_of (cc := cX10_wipe) (maxL := 2) (ret := (some .int)) (own := RX10) (by decide) rfl rfl (Nat.le_of_ble_eq_true rfl) rfl ?_
  intro pp ee ss mm bl me co hmn
  have hfr_0 : ∀ q, (q < 16 ∨ 16 + 2 ≤ q) → g q = g q := fun _ _ => rfl
  refine w_aload_n dX10_wipe_0 rfl 0 rfl ?_
  refine w_get (i := 0) (T := TX10) (NF := 6) 0 (by first | omega | with_reducible rfl) ht0 rfl (fun _ h => (List.mem_cons_of_mem _ (List.mem_append_left _ (List.mem_append_right _ h)))) (by decide) (List.mem_of_getElem? (i := 1) rfl) rfl dX10_wipe_1 ?_
  refine w_calli (As := []) (rest := []) (n := 0) (c_X9_size htx (by first | omega | with_reducible rfl)) gX10_wipe_X9_size rfl rfl rfl (by decide +kernel) ⟨Nat.le_of_ble_eq_true rfl, Nat.le_of_ble_eq_true rfl⟩ rfl (by first | omega | with_reducible rfl) htx.1 rfl (Nat.le_of_ble_eq_true rfl) ⟨Nat.zero_le _, Nat.zero_le _⟩ dX10_wipe_4 rfl (fun g_1 hp_2 => ?_)
  subst g_1
  refine w_istore_n [(1, .int (zI ((n : Nat) : Int))), (0, .ref (B + 0))] dX10_wipe_7 rfl (by decide) rfl ?_
  refine w_aload_n dX10_wipe_8 rfl 1 rfl ?_
  refine w_get (i := 0) (T := TX10) (NF := 6) 0 (by first | omega | with_reducible rfl) ht0 rfl (fun _ h => (List.mem_cons_of_mem _ (List.mem_append_left _ (List.mem_append_right _ h)))) (by decide) (List.mem_of_getElem? (i := 1) rfl) rfl dX10_wipe_9 ?_
  refine w_callv (As := []) (rest := []) (n := 0) (c_X9_clear htx (by first | omega | with_reducible rfl)) gX10_wipe_X9_clear rfl rfl rfl (by decide +kernel) ⟨Nat.le_of_ble_eq_true rfl, Nat.le_of_ble_eq_true rfl⟩ rfl (by first | omega | with_reducible rfl) htx.1 rfl (Nat.le_of_ble_eq_true rfl) ⟨Nat.zero_le _, Nat.zero_le _⟩ dX10_wipe_12 rfl (fun g_3 hp_4 => ?_)
  obtain ⟨htx_5, hf_6⟩ := hp_4
  have ht0_7 : vTop cy B g_3 0 la := vTop_fr ht0 (fun q h1 h2 => hf_6 q (by omega))
  have hfr_8 : ∀ q, (q < 16 ∨ 16 + 2 ≤ q) → g_3 q = g q := fun q hq => (hf_6 q (by omega)).trans (hfr_0 q hq)
  refine w_iload_n dX10_wipe_15 rfl 0 rfl ?_
  exact w_iret dX10_wipe_16 rfl (by first | with_reducible rfl | omega | (split <;> omega)) ⟨htx_5, hfr_8⟩

set_option maxHeartbeats 4000000 in
set_option maxRecDepth 100000 in
theorem c_X10_fault {l : Launch} {D : va_G} {cy : Nat → ClassId} {B N : Nat} {g : Nat → va_E} {la : Nat} {n : Nat} {L : Int → Int} {sr : Nat} {pl : Int} {dn : Nat → Nat} {dv : Nat → Int} {dT dX dV : Nat → Int → Int} {dW : Nat → Nat → Int → Int} {Cn : Nat → Int → Int} (ht0 : vTop cy B g 0 la) (htx : vText cy B g 16 n L) (hr : vReader cy B g 18 sr pl) (hd : vDr cy B g (18 + 2) 1 dn dv dT dX dV dW) (hst : vSets cy B g 1 Cn) (hN : 141 ≤ N) (hn : n ≤ 200) (hL : ∀ i : Int, 0 ≤ i → i < n → 0 ≤ L i ∧ L i < 65536) : CTi l yX10_fault wsX10_fault (rmo 5 118) D cy B N g [.ref (B + 0)] (if (psF n L 200 0 []).1 < 0 then -4 else (psF n L 200 0 []).1) (fun g' => ∃ sr1 : Nat, ∃ pl1 : Int, ∃ dn1 : Nat → Nat, ∃ dv1 : Nat → Int, ∃ dT1 : Nat → Int → Int, ∃ dX1 : Nat → Int → Int, ∃ dV1 : Nat → Int → Int, ∃ dW1 : Nat → Nat → Int → Int, vReader cy B g' 18 sr1 pl1 ∧ vDr cy B g' (18 + 2) 1 dn1 dv1 dT1 dX1 dV1 dW1 ∧ (∀ q, (q < 18 ∨ 18 + 32 ≤ q) → g' q = g q)) := by
  refine WW_of (cc := cX10_fault) (maxL := 2) (ret := (some .int)) (own := RX10) (by decide) rfl rfl (Nat.le_of_ble_eq_true rfl) rfl ?_
  intro pp ee ss mm bl me co hmn
  have hfr_0 : ∀ q, (q < 18 ∨ 18 + 32 ≤ q) → g q = g q := fun _ _ => rfl
  refine w_aload_n dX10_fault_0 rfl 0 rfl ?_
  refine w_get (i := 1) (T := TX10) (NF := 6) 0 (by first | omega | with_reducible rfl) ht0 rfl (fun _ h => (List.mem_cons_of_mem _ (List.mem_append_left _ (List.mem_append_left _ (List.mem_append_left _ (List.mem_append_left _ (List.mem_append_right _ h))))))) (by decide) (List.mem_of_getElem? (i := 1) rfl) rfl dX10_fault_1 ?_
  refine w_aload_n dX10_fault_4 rfl 0 rfl ?_
  refine w_get (i := 0) (T := TX10) (NF := 6) 0 (by first | omega | with_reducible rfl) ht0 rfl (fun _ h => (List.mem_cons_of_mem _ (List.mem_append_left _ (List.mem_append_left _ (List.mem_append_left _ (List.mem_append_left _ (List.mem_append_right _ h))))))) (by decide) (List.mem_of_getElem? (i := 2) rfl) rfl dX10_fault_5 ?_
  refine w_calli (As := [.ref (B + 16)]) (rest := []) (n := 1) (c_X5_faultOf hr htx hd hst (by first | omega | with_reducible rfl) (by first | omega | with_reducible rfl) (by first | omega | with_reducible rfl) hL (by first | omega | with_reducible rfl) (by first | omega | with_reducible rfl) (by first | omega | with_reducible rfl) (by first | omega | with_reducible rfl) (by first | omega | with_reducible rfl)) gX10_fault_X5_faultOf rfl rfl rfl (by decide +kernel) ⟨Nat.le_of_ble_eq_true rfl, Nat.le_of_ble_eq_true rfl⟩ rfl (by first | omega | with_reducible rfl) hr.1 rfl (Nat.le_of_ble_eq_true rfl) ⟨Nat.zero_le _, Nat.zero_le _⟩ dX10_fault_8 rfl (fun g_1 hp_2 => ?_)
  obtain ⟨sr1_3, pl1_4, dn1_5, dv1_6, dT1_7, dX1_8, dV1_9, dW1_10, hr_11, hd_12, hsr1_8, hfin_8, hf_13⟩ := hp_2
  have hpS := psF_S (n := n) (L := L) (f := 200) (p := 0) (S := []) (by omega) (by decide)
  have ht0_14 : vTop cy B g_1 0 la := vTop_fr ht0 (fun q h1 h2 => hf_13 q (by omega))
  have htx_15 : vText cy B g_1 16 n L := vText_fr htx (fun q h1 h2 => hf_13 q (by omega))
  have hst_16 : vSets cy B g_1 1 Cn := vSets_fr hst (fun q h1 h2 => hf_13 q (by omega))
  have hfr_17 : ∀ q, (q < 18 ∨ 18 + 32 ≤ q) → g_1 q = g q := fun q hq => (hf_13 q (by omega)).trans (hfr_0 q hq)
  refine w_istore_n [(1, .int (zI ((psF n L 200 0 []).1))), (0, .ref (B + 0))] dX10_fault_11 rfl (by decide) rfl ?_
  refine w_iload_n dX10_fault_12 rfl 0 rfl ?_
  refine w_if_ge 21 dX10_fault_13 (by decide) (by first | omega | with_reducible rfl) (fun c_13 => ?_) (fun c_13 => ?_)
  · refine w_iload_n dX10_fault_21 rfl 0 rfl ?_
    exact w_iret dX10_fault_22 rfl (by first | rw [if_pos (by omega)] | rw [if_neg (by omega)]) ⟨sr1_3, pl1_4, dn1_5, dv1_6, dT1_7, dX1_8, dV1_9, dW1_10, hr_11, hd_12, hfr_17⟩
  · refine w_bipush dX10_fault_16 (by decide) ?_
    refine w_goto 22 dX10_fault_18 (by decide) ?_
    exact w_iret dX10_fault_22 rfl (by first | rw [if_pos (by omega)] | rw [if_neg (by omega)]) ⟨sr1_3, pl1_4, dn1_5, dv1_6, dT1_7, dX1_8, dV1_9, dW1_10, hr_11, hd_12, hfr_17⟩

set_option maxHeartbeats 4000000 in
set_option maxRecDepth 100000 in
theorem n_X10_takeText {l : Launch} {D : va_G} {cy : Nat → ClassId} {B N : Nat} {g : Nat → va_E} {la : Nat} {n : Nat} {L : Int → Int} {sr : Nat} {pl : Int} {dn : Nat → Nat} {dv : Nat → Int} {dT dX dV : Nat → Int → Int} {dW : Nat → Nat → Int → Int} {Cn : Nat → Int → Int} {nx sz : Nat} {wh : Int → Int} {Rw : Nat → Int → Int} {cs : Nat → List Co} {Ms : Nat → Int} {fs : Nat → Nat} {MM : Int} (ht0 : vTop cy B g 0 la) (hsa : vSA cy B g 62 ) (htx : vText cy B g 16 n L) (hr : vReader cy B g 18 sr pl) (hd : vDr cy B g (18 + 2) 1 dn dv dT dX dV dW) (hst : vSets cy B g 1 Cn) (hp : vPast cy B g 50 wh Rw nx sz) (hss : vSWs cy B g 63 cs Ms fs) (hN : 141 ≤ N) (hla : la ≤ 3) (hn : n ≤ 200) (hL : ∀ i : Int, 0 ≤ i → i < n → 0 ≤ L i ∧ L i < 65536) (hCn : ∀ t x : Nat, t ≤ 12 → x ≤ 12 → setA Cn ((t : Nat) : Int) ((x : Nat) : Int) = ((ch t x : Nat) : Int)) (hMs : ∀ i : Nat, Ms i ≤ MM) (hno : ¬ ((psF n L 200 0 []).1 = -1 ∧ lyd (psF n L 200 0 []).2)) : CTi l yX10_takeText wsX10_takeText (rmo 5 118) D cy B N g [.ref (B + 0)] 0 (fun g' => ∃ sr1 : Nat, ∃ pl1 : Int, ∃ dn1 : Nat → Nat, ∃ dv1 : Nat → Int, ∃ dT1 : Nat → Int → Int, ∃ dX1 : Nat → Int → Int, ∃ dV1 : Nat → Int → Int, ∃ dW1 : Nat → Nat → Int → Int, vReader cy B g' 18 sr1 pl1 ∧ vDr cy B g' (18 + 2) 1 dn1 dv1 dT1 dX1 dV1 dW1 ∧ (∀ q, (q < 18 ∨ 18 + 32 ≤ q) → g' q = g q)) := by
  refine WW_of (cc := cX10_takeText) (maxL := 3) (ret := (some .boolean)) (own := RX10) (by decide) rfl rfl (Nat.le_of_ble_eq_true rfl) rfl ?_
  intro pp ee ss mm bl me co hmn
  have hfr_0 : ∀ q, (q < 18 ∨ 18 + 32 ≤ q) → g q = g q := fun _ _ => rfl
  refine w_aload_n dX10_takeText_0 rfl 0 rfl ?_
  refine w_get (i := 1) (T := TX10) (NF := 6) 0 (by first | omega | with_reducible rfl) ht0 rfl (fun _ h => (List.mem_cons_of_mem _ (List.mem_append_left _ (List.mem_append_left _ (List.mem_append_left _ (List.mem_append_left _ (List.mem_append_left _ (List.mem_append_left _ (List.mem_append_right _ h))))))))) (by decide) (List.mem_of_getElem? (i := 1) rfl) rfl dX10_takeText_1 ?_
  refine w_aload_n dX10_takeText_4 rfl 0 rfl ?_
  refine w_get (i := 0) (T := TX10) (NF := 6) 0 (by first | omega | with_reducible rfl) ht0 rfl (fun _ h => (List.mem_cons_of_mem _ (List.mem_append_left _ (List.mem_append_left _ (List.mem_append_left _ (List.mem_append_left _ (List.mem_append_left _ (List.mem_append_left _ (List.mem_append_right _ h))))))))) (by decide) (List.mem_of_getElem? (i := 2) rfl) rfl dX10_takeText_5 ?_
  refine w_calli (As := [.ref (B + 16)]) (rest := []) (n := 1) (c_X5_faultOf hr htx hd hst (by first | omega | with_reducible rfl) (by first | omega | with_reducible rfl) (by first | omega | with_reducible rfl) hL (by first | omega | with_reducible rfl) (by first | omega | with_reducible rfl) (by first | omega | with_reducible rfl) (by first | omega | with_reducible rfl) (by first | omega | with_reducible rfl)) gX10_takeText_X5_faultOf rfl rfl rfl (by decide +kernel) ⟨Nat.le_of_ble_eq_true rfl, Nat.le_of_ble_eq_true rfl⟩ rfl (by first | omega | with_reducible rfl) hr.1 rfl (Nat.le_of_ble_eq_true rfl) ⟨Nat.zero_le _, Nat.zero_le _⟩ dX10_takeText_8 rfl (fun g_1 hp_2 => ?_)
  obtain ⟨sr1_3, pl1_4, dn1_5, dv1_6, dT1_7, dX1_8, dV1_9, dW1_10, hr_11, hd_12, hsr1_8, hfin_8, hf_13⟩ := hp_2
  have hpS := psF_S (n := n) (L := L) (f := 200) (p := 0) (S := []) (by omega) (by decide)
  have ht0_14 : vTop cy B g_1 0 la := vTop_fr ht0 (fun q h1 h2 => hf_13 q (by omega))
  have hsa_15 : vSA cy B g_1 62  := vSA_fr hsa (fun q h1 h2 => hf_13 q (by omega))
  have htx_16 : vText cy B g_1 16 n L := vText_fr htx (fun q h1 h2 => hf_13 q (by omega))
  have hst_17 : vSets cy B g_1 1 Cn := vSets_fr hst (fun q h1 h2 => hf_13 q (by omega))
  have hp_18 : vPast cy B g_1 50 wh Rw nx sz := vPast_fr hp (fun q h1 h2 => hf_13 q (by omega))
  have hss_19 : vSWs cy B g_1 63 cs Ms fs := vSWs_fr hss (fun q h1 h2 => hf_13 q (by omega))
  have hfr_20 : ∀ q, (q < 18 ∨ 18 + 32 ≤ q) → g_1 q = g q := fun q hq => (hf_13 q (by omega)).trans (hfr_0 q hq)
  refine w_if_ge 24 dX10_takeText_11 (by decide) (by first | omega | with_reducible rfl) (fun c_11 => ?_) (fun c_11 => ?_)
  · refine w_iconst dX10_takeText_24 ?_
    exact w_zret dX10_takeText_25 rfl rfl (by first | with_reducible rfl | omega | (split <;> omega)) ⟨sr1_3, pl1_4, dn1_5, dv1_6, dT1_7, dX1_8, dV1_9, dW1_10, hr_11, hd_12, hfr_20⟩
  · have hf1 : (psF n L 200 0 []).1 = -1 := by omega
    obtain ⟨hs1, hRD1⟩ := hfin_8 hf1
    refine w_aload_n dX10_takeText_14 rfl 0 rfl ?_
    refine w_get (i := 1) (T := TX10) (NF := 6) 0 (by first | omega | with_reducible rfl) ht0_14 rfl (fun _ h => (List.mem_cons_of_mem _ (List.mem_append_left _ (List.mem_append_left _ (List.mem_append_left _ (List.mem_append_left _ (List.mem_append_left _ (List.mem_append_left _ (List.mem_append_right _ h))))))))) (by decide) (List.mem_of_getElem? (i := 1) rfl) rfl dX10_takeText_15 ?_
    refine w_calli (As := []) (rest := []) (n := 0) (c_X5_canBeLaid hr_11 hd_12 (by first | omega | with_reducible rfl) (by first | omega | with_reducible rfl) hRD1 hs1 hpS.1) gX10_takeText_X5_canBeLaid rfl rfl rfl (by decide +kernel) ⟨Nat.le_of_ble_eq_true rfl, Nat.le_of_ble_eq_true rfl⟩ rfl (by first | omega | with_reducible rfl) hr_11.1 rfl (Nat.le_of_ble_eq_true rfl) ⟨Nat.zero_le _, Nat.zero_le _⟩ dX10_takeText_18 rfl (fun g_21 hp_22 => ?_)
    subst g_21
    refine w_ifneB 26 dX10_takeText_21 (by decide) (fun c_21 => ?_) (fun c_21 => ?_)
    · exact absurd ⟨hf1, c_21⟩ hno
    · refine w_iconst dX10_takeText_24 ?_
      exact w_zret dX10_takeText_25 rfl rfl (by first | with_reducible rfl | omega | (split <;> omega)) ⟨sr1_3, pl1_4, dn1_5, dv1_6, dT1_7, dX1_8, dV1_9, dW1_10, hr_11, hd_12, hfr_20⟩
set_option maxHeartbeats 4000000 in
set_option maxRecDepth 100000 in
theorem y_X10_takeText {l : Launch} {D : va_G} {cy : Nat → ClassId} {B N : Nat} {g : Nat → va_E} {la : Nat} {n : Nat} {L : Int → Int} {sr : Nat} {pl : Int} {dn : Nat → Nat} {dv : Nat → Int} {dT dX dV : Nat → Int → Int} {dW : Nat → Nat → Int → Int} {Cn : Nat → Int → Int} {nx sz : Nat} {wh : Int → Int} {Rw : Nat → Int → Int} {cs : Nat → List Co} {Ms : Nat → Int} {fs : Nat → Nat} {MM : Int} (ht0 : vTop cy B g 0 la) (hsa : vSA cy B g 62 ) (htx : vText cy B g 16 n L) (hr : vReader cy B g 18 sr pl) (hd : vDr cy B g (18 + 2) 1 dn dv dT dX dV dW) (hst : vSets cy B g 1 Cn) (hp : vPast cy B g 50 wh Rw nx sz) (hss : vSWs cy B g 63 cs Ms fs) (hN : 141 ≤ N) (hla : la ≤ 3) (hn : n ≤ 200) (hL : ∀ i : Int, 0 ≤ i → i < n → 0 ≤ L i ∧ L i < 65536) (hCn : ∀ t x : Nat, t ≤ 12 → x ≤ 12 → setA Cn ((t : Nat) : Int) ((x : Nat) : Int) = ((ch t x : Nat) : Int)) (hMs : ∀ i : Nat, Ms i ≤ MM) (hf1 : (psF n L 200 0 []).1 = -1) (hly : lyd (psF n L 200 0 []).2) : CTi l yX10_takeText wsX10_takeText (rmo 5 118) D cy B N g [.ref (B + 0)] 1 (fun g' => ∃ sr1 : Nat, ∃ pl1 : Int, ∃ dn1 : Nat → Nat, ∃ dv1 : Nat → Int, ∃ dT1 : Nat → Int → Int, ∃ dX1 : Nat → Int → Int, ∃ dV1 : Nat → Int → Int, ∃ dW1 : Nat → Nat → Int → Int, ∃ cs1 : Nat → List Co, ∃ Ms1 : Nat → Int, ∃ fs1 : Nat → Nat, vTop cy B g' 0 ((psF n L 200 0 []).2.length) ∧ vReader cy B g' 18 sr1 pl1 ∧ vDr cy B g' (18 + 2) 1 dn1 dv1 dT1 dX1 dV1 dW1 ∧ vPast cy B g' 50 wh Rw nx 0 ∧ vSWs cy B g' 63 cs1 Ms1 fs1 ∧ (∀ i : Nat, i < (psF n L 200 0 []).2.length → cs1 i = (psF n L 200 0 []).2.getD i []) ∧ (∀ i : Nat, Ms1 i ≤ MM + 6) ∧ (∀ q, ((0 < q ∧ q < 18) ∨ (59 ≤ q ∧ q < 63) ∨ 141 ≤ q) → g' q = g q)) := by
  refine WW_of (cc := cX10_takeText) (maxL := 3) (ret := (some .boolean)) (own := RX10) (by decide) rfl rfl (Nat.le_of_ble_eq_true rfl) rfl ?_
  intro pp ee ss mm bl me co hmn
  have hfr_0 : ∀ q, ((0 < q ∧ q < 18) ∨ (59 ≤ q ∧ q < 63) ∨ 141 ≤ q) → g q = g q := fun _ _ => rfl
  refine w_aload_n dX10_takeText_0 rfl 0 rfl ?_
  refine w_get (i := 1) (T := TX10) (NF := 6) 0 (by first | omega | with_reducible rfl) ht0 rfl (fun _ h => (List.mem_cons_of_mem _ (List.mem_append_left _ (List.mem_append_left _ (List.mem_append_left _ (List.mem_append_left _ (List.mem_append_left _ (List.mem_append_left _ (List.mem_append_right _ h))))))))) (by decide) (List.mem_of_getElem? (i := 1) rfl) rfl dX10_takeText_1 ?_
  refine w_aload_n dX10_takeText_4 rfl 0 rfl ?_
  refine w_get (i := 0) (T := TX10) (NF := 6) 0 (by first | omega | with_reducible rfl) ht0 rfl (fun _ h => (List.mem_cons_of_mem _ (List.mem_append_left _ (List.mem_append_left _ (List.mem_append_left _ (List.mem_append_left _ (List.mem_append_left _ (List.mem_append_left _ (List.mem_append_right _ h))))))))) (by decide) (List.mem_of_getElem? (i := 2) rfl) rfl dX10_takeText_5 ?_
  refine w_calli (As := [.ref (B + 16)]) (rest := []) (n := 1) (c_X5_faultOf hr htx hd hst (by first | omega | with_reducible rfl) (by first | omega | with_reducible rfl) (by first | omega | with_reducible rfl) hL (by first | omega | with_reducible rfl) (by first | omega | with_reducible rfl) (by first | omega | with_reducible rfl) (by first | omega | with_reducible rfl) (by first | omega | with_reducible rfl)) gX10_takeText_X5_faultOf rfl rfl rfl (by decide +kernel) ⟨Nat.le_of_ble_eq_true rfl, Nat.le_of_ble_eq_true rfl⟩ rfl (by first | omega | with_reducible rfl) hr.1 rfl (Nat.le_of_ble_eq_true rfl) ⟨Nat.zero_le _, Nat.zero_le _⟩ dX10_takeText_8 rfl (fun g_1 hp_2 => ?_)
  obtain ⟨sr1_3, pl1_4, dn1_5, dv1_6, dT1_7, dX1_8, dV1_9, dW1_10, hr_11, hd_12, hsr1_8, hfin_8, hf_13⟩ := hp_2
  have hpS := psF_S (n := n) (L := L) (f := 200) (p := 0) (S := []) (by omega) (by decide)
  have ht0_14 : vTop cy B g_1 0 la := vTop_fr ht0 (fun q h1 h2 => hf_13 q (by omega))
  have hsa_15 : vSA cy B g_1 62  := vSA_fr hsa (fun q h1 h2 => hf_13 q (by omega))
  have htx_16 : vText cy B g_1 16 n L := vText_fr htx (fun q h1 h2 => hf_13 q (by omega))
  have hst_17 : vSets cy B g_1 1 Cn := vSets_fr hst (fun q h1 h2 => hf_13 q (by omega))
  have hp_18 : vPast cy B g_1 50 wh Rw nx sz := vPast_fr hp (fun q h1 h2 => hf_13 q (by omega))
  have hss_19 : vSWs cy B g_1 63 cs Ms fs := vSWs_fr hss (fun q h1 h2 => hf_13 q (by omega))
  have hfr_20 : ∀ q, ((0 < q ∧ q < 18) ∨ (59 ≤ q ∧ q < 63) ∨ 141 ≤ q) → g_1 q = g q := fun q hq => (hf_13 q (by omega)).trans (hfr_0 q hq)
  refine w_if_ge 24 dX10_takeText_11 (by decide) (by first | omega | with_reducible rfl) (fun c_11 => ?_) (fun c_11 => ?_)
  · exfalso; omega
  · obtain ⟨hs1, hRD1⟩ := hfin_8 hf1
    have hck := psF_cok (n := n) (L := L) (f := 200) (p := 0) (S := []) (fun x h => absurd h List.not_mem_nil)
    refine w_aload_n dX10_takeText_14 rfl 0 rfl ?_
    refine w_get (i := 1) (T := TX10) (NF := 6) 0 (by first | omega | with_reducible rfl) ht0_14 rfl (fun _ h => (List.mem_cons_of_mem _ (List.mem_append_left _ (List.mem_append_left _ (List.mem_append_left _ (List.mem_append_left _ (List.mem_append_left _ (List.mem_append_left _ (List.mem_append_right _ h))))))))) (by decide) (List.mem_of_getElem? (i := 1) rfl) rfl dX10_takeText_15 ?_
    refine w_calli (As := []) (rest := []) (n := 0) (c_X5_canBeLaid hr_11 hd_12 (by first | omega | with_reducible rfl) (by first | omega | with_reducible rfl) hRD1 hs1 hpS.1) gX10_takeText_X5_canBeLaid rfl rfl rfl (by decide +kernel) ⟨Nat.le_of_ble_eq_true rfl, Nat.le_of_ble_eq_true rfl⟩ rfl (by first | omega | with_reducible rfl) hr_11.1 rfl (Nat.le_of_ble_eq_true rfl) ⟨Nat.zero_le _, Nat.zero_le _⟩ dX10_takeText_18 rfl (fun g_21 hp_22 => ?_)
    subst g_21
    refine w_ifneB 26 dX10_takeText_21 (by decide) (fun c_21 => ?_) (fun c_21 => ?_)
    · refine w_aload_n dX10_takeText_26 rfl 0 rfl ?_
      refine w_aload_n dX10_takeText_27 rfl 0 rfl ?_
      refine w_get (i := 1) (T := TX10) (NF := 6) 0 (by first | omega | with_reducible rfl) ht0_14 rfl (fun _ h => (List.mem_cons_of_mem _ (List.mem_append_left _ (List.mem_append_left _ (List.mem_append_left _ (List.mem_append_left _ (List.mem_append_left _ (List.mem_append_left _ (List.mem_append_right _ h))))))))) (by decide) (List.mem_of_getElem? (i := 1) rfl) rfl dX10_takeText_28 ?_
      refine w_calli (As := []) (rest := [.ref (B + 0)]) (n := 0) (c_X5_strataRead hr_11 (by first | omega | with_reducible rfl)) gX10_takeText_X5_strataRead rfl rfl rfl (by decide +kernel) ⟨Nat.le_of_ble_eq_true rfl, Nat.le_of_ble_eq_true rfl⟩ rfl (by first | omega | with_reducible rfl) hr_11.1 rfl (Nat.le_of_ble_eq_true rfl) ⟨Nat.zero_le _, Nat.zero_le _⟩ dX10_takeText_31 rfl (fun g_23 hp_24 => ?_)
      subst g_23
      refine w_as (st' := [.int (zI (((psF n L 200 0 []).2.length : Nat) : Int)), .ref (B + 0)]) (sc_i (by omega) rfl) ?_
      refine w_put (i := 5) (T := TX10) (NF := 6) 0 (by first | omega | with_reducible rfl) ht0_14 rfl (fun _ h => (List.mem_cons_of_mem _ (List.mem_append_left _ (List.mem_append_left _ (List.mem_append_left _ (List.mem_append_left _ (List.mem_append_left _ (List.mem_append_left _ (List.mem_append_right _ h))))))))) tyX10 tyX10_ok nmX10 (by decide) (List.mem_of_getElem? (i := 3) rfl) rfl rfl rfl (Nat.le_of_ble_eq_true rfl) dX10_takeText_34 (fun g_25 he_26 hn_27 => ?_)
      have ht0_28 : vTop cy B g_25 0 ((psF n L 200 0 []).2.length) := he_26
      have hsa_29 : vSA cy B g_25 62  := vSA_fr hsa_15 (fun q h1 h2 => hn_27 q (by omega))
      have htx_30 : vText cy B g_25 16 n L := vText_fr htx_16 (fun q h1 h2 => hn_27 q (by omega))
      have hr_31 : vReader cy B g_25 18 sr1_3 pl1_4 := vReader_fr hr_11 (fun q h1 h2 => hn_27 q (by omega))
      have hd_32 : vDr cy B g_25 (18 + 2) 1 dn1_5 dv1_6 dT1_7 dX1_8 dV1_9 dW1_10 := vDr_fr hd_12 (fun q h1 h2 => hn_27 q (by omega))
      have hst_33 : vSets cy B g_25 1 Cn := vSets_fr hst_17 (fun q h1 h2 => hn_27 q (by omega))
      have hp_34 : vPast cy B g_25 50 wh Rw nx sz := vPast_fr hp_18 (fun q h1 h2 => hn_27 q (by omega))
      have hss_35 : vSWs cy B g_25 63 cs Ms fs := vSWs_fr hss_19 (fun q h1 h2 => hn_27 q (by omega))
      have hfr_36 : ∀ q, ((0 < q ∧ q < 18) ∨ (59 ≤ q ∧ q < 63) ∨ 141 ≤ q) → g_25 q = g q := fun q hq => (hn_27 q (by omega)).trans (hfr_20 q hq)
      refine w_iconst dX10_takeText_37 ?_
      refine w_istore_n [(1, .int (zI 0)), (0, .ref (B + 0))] dX10_takeText_38 rfl (by decide) rfl ?_
      refine w_sub [(0, .ref (B + 0)), (1, .int (zI 0))] [1, 0] rfl ?_
      refine w_lv (lv' := [(0, .ref (B + 0)), (1, .int (zI ((0 : Nat) : Int)))]) (lc_s (lc_i (by first | omega | with_reducible rfl) rfl)) ?_
      refine w_loop5 (fun (k : Nat) (cs1 : Nat → List Co) (Ms1 : Nat → Int) (fs1 : Nat → Nat) (gl_37 : (Nat → va_E)) => vTop cy B gl_37 0 ((psF n L 200 0 []).2.length) ∧ vSA cy B gl_37 62  ∧ vText cy B gl_37 16 n L ∧ vReader cy B gl_37 18 sr1_3 pl1_4 ∧ vDr cy B gl_37 (18 + 2) 1 dn1_5 dv1_6 dT1_7 dX1_8 dV1_9 dW1_10 ∧ vSets cy B gl_37 1 Cn ∧ vPast cy B gl_37 50 wh Rw nx sz ∧ vSWs cy B gl_37 63 cs1 Ms1 fs1 ∧ (∀ q, ((0 < q ∧ q < 18) ∨ (59 ≤ q ∧ q < 63) ∨ 141 ≤ q) → gl_37 q = g q) ∧ k ≤ (psF n L 200 0 []).2.length ∧ (∀ i : Nat, i < k → cs1 i = (psF n L 200 0 []).2.getD i []) ∧ (∀ i : Nat, (i < k → Ms1 i ≤ MM + 6) ∧ (k ≤ i → Ms1 i ≤ MM))) (fun (k : Nat) (cs1 : Nat → List Co) (Ms1 : Nat → Int) (fs1 : Nat → Nat) (gl_37 : (Nat → va_E)) => (psF n L 200 0 []).2.length - k) (fun (k : Nat) (cs1 : Nat → List Co) (Ms1 : Nat → Int) (fs1 : Nat → Nat) (gl_37 : (Nat → va_E)) => gl_37) (fun (k : Nat) (cs1 : Nat → List Co) (Ms1 : Nat → Int) (fs1 : Nat → Nat) (gl_37 : (Nat → va_E)) => [(0, .ref (B + 0)), (1, .int (zI ((k : Nat) : Int)))]) ?_ 0 cs Ms fs g_25 ⟨ht0_28, hsa_29, htx_30, hr_31, hd_32, hst_33, hp_34, hss_35, hfr_36, (by first | omega | with_reducible rfl), (fun i h => absurd h (Nat.not_lt_zero _)), (fun i => ⟨fun h => absurd h (Nat.not_lt_zero _), fun _ => hMs i⟩)⟩
      rintro k cs1 Ms1 fs1 gl_37 ⟨ht0_38, hsa_39, htx_40, hr_41, hd_42, hst_43, hp_44, hss_45, hfr_46, hk, hcs1, hM1⟩ ih_39
      refine w_iload_n dX10_takeText_39 rfl 1 rfl ?_
      refine w_aload_n dX10_takeText_40 rfl 0 rfl ?_
      refine w_get (i := 5) (T := TX10) (NF := 6) 0 (by first | omega | with_reducible rfl) ht0_38 rfl (fun _ h => (List.mem_cons_of_mem _ (List.mem_append_left _ (List.mem_append_left _ (List.mem_append_left _ (List.mem_append_left _ (List.mem_append_left _ (List.mem_append_left _ (List.mem_append_right _ h))))))))) (by decide) (List.mem_of_getElem? (i := 3) rfl) rfl dX10_takeText_41 ?_
      refine w_icmp_ge 78 dX10_takeText_44 (by decide) (by first | omega | with_reducible rfl) (by first | omega | with_reducible rfl) (fun c_44 => ?_) (fun c_44 => ?_)
      · refine w_aload_n dX10_takeText_78 rfl 0 rfl ?_
        refine w_get (i := 2) (T := TX10) (NF := 6) 0 (by first | omega | with_reducible rfl) ht0_38 rfl (fun _ h => (List.mem_cons_of_mem _ (List.mem_append_left _ (List.mem_append_left _ (List.mem_append_left _ (List.mem_append_left _ (List.mem_append_left _ (List.mem_append_left _ (List.mem_append_right _ h))))))))) (by decide) (List.mem_of_getElem? (i := 5) rfl) rfl dX10_takeText_79 ?_
        refine w_callv (As := []) (rest := []) (n := 0) (c_X3_clear hp_44 (by first | omega | with_reducible rfl)) gX10_takeText_X3_clear rfl rfl rfl (by decide +kernel) ⟨Nat.le_of_ble_eq_true rfl, Nat.le_of_ble_eq_true rfl⟩ rfl (by first | omega | with_reducible rfl) hp_44.1 rfl (Nat.le_of_ble_eq_true rfl) ⟨Nat.zero_le _, Nat.zero_le _⟩ dX10_takeText_82 rfl (fun g_47 hp_48 => ?_)
        obtain ⟨hp_49, hf_50⟩ := hp_48
        have ht0_51 : vTop cy B g_47 0 ((psF n L 200 0 []).2.length) := vTop_fr ht0_38 (fun q h1 h2 => hf_50 q (by omega))
        have hsa_52 : vSA cy B g_47 62  := vSA_fr hsa_39 (fun q h1 h2 => hf_50 q (by omega))
        have htx_53 : vText cy B g_47 16 n L := vText_fr htx_40 (fun q h1 h2 => hf_50 q (by omega))
        have hr_54 : vReader cy B g_47 18 sr1_3 pl1_4 := vReader_fr hr_41 (fun q h1 h2 => hf_50 q (by omega))
        have hd_55 : vDr cy B g_47 (18 + 2) 1 dn1_5 dv1_6 dT1_7 dX1_8 dV1_9 dW1_10 := vDr_fr hd_42 (fun q h1 h2 => hf_50 q (by omega))
        have hst_56 : vSets cy B g_47 1 Cn := vSets_fr hst_43 (fun q h1 h2 => hf_50 q (by omega))
        have hss_57 : vSWs cy B g_47 63 cs1 Ms1 fs1 := vSWs_fr hss_45 (fun q h1 h2 => hf_50 q (by omega))
        have hfr_58 : ∀ q, ((0 < q ∧ q < 18) ∨ (59 ≤ q ∧ q < 63) ∨ 141 ≤ q) → g_47 q = g q := fun q hq => (hf_50 q (by omega)).trans (hfr_46 q hq)
        refine w_iconst dX10_takeText_85 ?_
        exact w_zret dX10_takeText_86 rfl rfl (by first | with_reducible rfl | omega | (split <;> omega)) ⟨sr1_3, pl1_4, dn1_5, dv1_6, dT1_7, dX1_8, dV1_9, dW1_10, cs1, Ms1, fs1, ht0_51, hr_54, hd_55, hp_49, hss_57, (fun i h => hcs1 i (by omega)), (fun i => by have h8 := hM1 i; rcases Nat.lt_or_ge i k with q | q; exact h8.1 q; have := h8.2 q; omega), hfr_58⟩
      · refine w_aload_n dX10_takeText_47 rfl 0 rfl ?_
        refine w_iload_n dX10_takeText_48 rfl 1 rfl ?_
        refine w_callq (As := [.int (zI ((k : Nat) : Int))]) (rest := []) (n := 1) (c_X10_find ht0_38 hsa_39 (by first | omega | with_reducible rfl) (by first | omega | with_reducible rfl) (by first | omega | with_reducible rfl)) gX10_takeText_X10_find rfl rfl rfl (by decide +kernel) ⟨Nat.le_of_ble_eq_true rfl, Nat.le_of_ble_eq_true rfl⟩ rfl (by first | omega | with_reducible rfl) ht0_38 rfl (Nat.le_of_ble_eq_true rfl) ⟨Nat.zero_le _, Nat.zero_le _⟩ dX10_takeText_49 rfl (fun g_59 hp_60 => ?_)
        subst g_59
        have hRk := hRD1 k (by omega)
        refine w_as (st' := [.ref (B + (63 + 26 * k))]) (sc_q (by rw [if_pos (by omega), Int.toNat_natCast]) rfl) ?_
        refine w_astore_n [(2, .ref (B + (63 + 26 * k))), (0, .ref (B + 0)), (1, .int (zI ((k : Nat) : Int)))] dX10_takeText_52 rfl (by decide) rfl ?_
        refine w_aload_n dX10_takeText_53 rfl 0 rfl ?_
        refine w_ifnull dX10_takeText_54 ?_
        refine w_aload_n dX10_takeText_57 rfl 0 rfl ?_
        refine w_get (i := 0) (T := TX7) (NF := 4) (63 + 26 * k) (by first | omega | with_reducible rfl) (vSW_str (hss_45 k (by first | omega | with_reducible rfl))) rfl (fun _ h => (List.mem_cons_of_mem _ (List.mem_append_left _ (List.mem_append_left _ (List.mem_append_left _ (List.mem_append_left _ (List.mem_append_left _ (List.mem_append_right _ h)))))))) (by decide) (List.mem_of_getElem? (i := 4) rfl) rfl dX10_takeText_58 ?_
        refine w_aload_n dX10_takeText_61 rfl 1 rfl ?_
        refine w_get (i := 1) (T := TX10) (NF := 6) 0 (by first | omega | with_reducible rfl) ht0_38 rfl (fun _ h => (List.mem_cons_of_mem _ (List.mem_append_left _ (List.mem_append_left _ (List.mem_append_left _ (List.mem_append_left _ (List.mem_append_left _ (List.mem_append_left _ (List.mem_append_right _ h))))))))) (by decide) (List.mem_of_getElem? (i := 1) rfl) rfl dX10_takeText_62 ?_
        refine w_iload_n dX10_takeText_65 rfl 2 rfl ?_
        refine w_callq (As := [.int (zI ((k : Nat) : Int))]) (rest := [.ref (B + ((63 + 26 * k) + 1))]) (n := 1) (c_X5_draft hr_41 (by first | omega | with_reducible rfl) (by first | omega | with_reducible rfl) (by first | omega | with_reducible rfl)) gX10_takeText_X5_draft rfl rfl rfl (by decide +kernel) ⟨Nat.le_of_ble_eq_true rfl, Nat.le_of_ble_eq_true rfl⟩ rfl (by first | omega | with_reducible rfl) hr_41.1 rfl (Nat.le_of_ble_eq_true rfl) ⟨Nat.zero_le _, Nat.zero_le _⟩ dX10_takeText_66 rfl (fun g_61 hp_62 => ?_)
        subst g_61
        refine w_as (st' := [.ref (B + ((18 + 2) + 10 * k)), .ref (B + ((63 + 26 * k) + 1))]) (sc_q (by rw [if_pos (by omega), Int.toNat_natCast]) rfl) ?_
        obtain ⟨fx_65, hfx_65⟩ := vSW_col (hss_45 k (by first | omega | with_reducible rfl))
        refine w_callv (As := [.ref (B + ((18 + 2) + 10 * k))]) (rest := []) (n := 1) (w_X0_copyOf (c1 := ((psF n L 200 0 []).2.getD k [])) (hss_45 k (by first | omega | with_reducible rfl)) (hd_42 k (by first | omega | with_reducible rfl)) hst_43 (by first | omega | with_reducible rfl) (by first | omega | with_reducible rfl) (by first | omega | with_reducible rfl) (by first | omega | with_reducible rfl) hCn (hck _ (getD_mem (by omega))) hRk.1 (fun j hj => by have h6 := hRk.2.2 j (by omega); exact ⟨h6.1, h6.2.1, h6.2.2.1⟩)) gX10_takeText_X0_copyOf rfl rfl rfl (by decide +kernel) ⟨Nat.le_of_ble_eq_true rfl, Nat.le_of_ble_eq_true rfl⟩ rfl (by first | omega | with_reducible rfl) hfx_65 rfl (Nat.le_of_ble_eq_true rfl) ⟨Nat.zero_le _, Nat.zero_le _⟩ dX10_takeText_69 rfl (fun g_63 hp_64 => ?_)
        obtain ⟨fi_66, hf_67⟩ := hp_64
        have ht0_68 : vTop cy B g_63 0 ((psF n L 200 0 []).2.length) := vTop_fr ht0_38 (fun q h1 h2 => hf_67 q (by omega))
        have hsa_69 : vSA cy B g_63 62  := vSA_fr hsa_39 (fun q h1 h2 => hf_67 q (by omega))
        have htx_70 : vText cy B g_63 16 n L := vText_fr htx_40 (fun q h1 h2 => hf_67 q (by omega))
        have hr_71 : vReader cy B g_63 18 sr1_3 pl1_4 := vReader_fr hr_41 (fun q h1 h2 => hf_67 q (by omega))
        have hd_72 : vDr cy B g_63 (18 + 2) 1 dn1_5 dv1_6 dT1_7 dX1_8 dV1_9 dW1_10 := vDr_fr hd_42 (fun q h1 h2 => hf_67 q (by omega))
        have hst_73 : vSets cy B g_63 1 Cn := vSets_fr hst_43 (fun q h1 h2 => hf_67 q (by omega))
        have hp_74 : vPast cy B g_63 50 wh Rw nx sz := vPast_fr hp_44 (fun q h1 h2 => hf_67 q (by omega))
        have hss_75 : vSWs cy B g_63 63 (uF cs1 k ((psF n L 200 0 []).2.getD k [])) (uF Ms1 k ((Ms1 k) + 6)) (uF fs1 k 0) := vSWs_set k hss_45 (by first | omega | with_reducible rfl) fi_66 (fun q hq => hf_67 q (by omega))
        have hfr_76 : ∀ q, ((0 < q ∧ q < 18) ∨ (59 ≤ q ∧ q < 63) ∨ 141 ≤ q) → g_63 q = g q := fun q hq => (hf_67 q (by omega)).trans (hfr_46 q hq)
        refine w_iinc 2 [(1, .int (zI (((k : Nat) : Int) + 1))), (2, .ref (B + (63 + 26 * k))), (0, .ref (B + 0))] dX10_takeText_72 rfl (by decide) rfl ?_
        refine w_goto 39 dX10_takeText_75 (by decide) ?_
        refine w_sub [(0, .ref (B + 0)), (1, .int (zI (((k : Nat) : Int) + 1)))] [2, 0] rfl ?_
        refine w_lv (lv' := [(0, .ref (B + 0)), (1, .int (zI (((k + 1) : Nat) : Int)))]) (lc_s (lc_i (by first | omega | with_reducible rfl) rfl)) ?_
        exact ih_39 (k + 1) (uF cs1 k ((psF n L 200 0 []).2.getD k [])) (uF Ms1 k ((Ms1 k) + 6)) (uF fs1 k 0) g_63 ⟨ht0_68, hsa_69, htx_70, hr_71, hd_72, hst_73, hp_74, hss_75, hfr_76, (by first | omega | with_reducible rfl), (fun i h => by unfold uF; split; (next q => rw [q]); exact hcs1 i (by omega)), (fun i => by have h8 := hM1 i; have h7 := hM1 k; unfold uF; split; (next q => subst q; exact ⟨fun _ => by have := h7.2 (Nat.le_refl _); omega, fun h => by omega⟩); exact ⟨fun h => by rcases Nat.lt_or_ge i k with q | q; exact h8.1 q; omega, fun h => h8.2 (by omega)⟩)⟩ (by first | omega | with_reducible rfl)
    · exact absurd hly c_21

set_option maxHeartbeats 4000000 in
set_option maxRecDepth 100000 in
theorem n_X10_lay {l : Launch} {D : va_G} {cy : Nat → ClassId} {B N : Nat} {g : Nat → va_E} {la : Nat} {n : Nat} {L : Int → Int} {sr : Nat} {pl : Int} {dn : Nat → Nat} {dv : Nat → Int} {dT dX dV : Nat → Int → Int} {dW : Nat → Nat → Int → Int} {Cn : Nat → Int → Int} {nx sz : Nat} {wh : Int → Int} {Rw : Nat → Int → Int} {cs : Nat → List Co} {Ms : Nat → Int} {fs : Nat → Nat} {MM : Int} (ht0 : vTop cy B g 0 la) (hsa : vSA cy B g 62 ) (htx : vText cy B g 16 n L) (hr : vReader cy B g 18 sr pl) (hd : vDr cy B g (18 + 2) 1 dn dv dT dX dV dW) (hst : vSets cy B g 1 Cn) (hp : vPast cy B g 50 wh Rw nx sz) (hss : vSWs cy B g 63 cs Ms fs) (hN : 141 ≤ N) (hla : la ≤ 3) (hn : n ≤ 200) (hL : ∀ i : Int, 0 ≤ i → i < n → 0 ≤ L i ∧ L i < 65536) (hCn : ∀ t x : Nat, t ≤ 12 → x ≤ 12 → setA Cn ((t : Nat) : Int) ((x : Nat) : Int) = ((ch t x : Nat) : Int)) (hMs : ∀ i : Nat, Ms i ≤ MM) (hno : ¬ ((psF n L 200 0 []).1 = -1 ∧ lyd (psF n L 200 0 []).2)) : CTi l yX10_lay wsX10_lay (rmo 6 140) D cy B N g [.ref (B + 0)] (-2) (fun g' => ∃ sr1 : Nat, ∃ pl1 : Int, ∃ dn1 : Nat → Nat, ∃ dv1 : Nat → Int, ∃ dT1 : Nat → Int → Int, ∃ dX1 : Nat → Int → Int, ∃ dV1 : Nat → Int → Int, ∃ dW1 : Nat → Nat → Int → Int, vReader cy B g' 18 sr1 pl1 ∧ vDr cy B g' (18 + 2) 1 dn1 dv1 dT1 dX1 dV1 dW1 ∧ (∀ q, (q < 18 ∨ 18 + 32 ≤ q) → g' q = g q)) := by
  refine WW_of (cc := cX10_lay) (maxL := 1) (ret := (some .int)) (own := RX10) (by decide) rfl rfl (Nat.le_of_ble_eq_true rfl) rfl ?_
  intro pp ee ss mm bl me co hmn
  have hfr_0 : ∀ q, (q < 18 ∨ 18 + 32 ≤ q) → g q = g q := fun _ _ => rfl
  refine w_aload_n dX10_lay_0 rfl 0 rfl ?_
  refine w_calli (As := []) (rest := []) (n := 0) (n_X10_takeText ht0 hsa htx hr hd hst hp hss (by first | omega | with_reducible rfl) (by first | omega | with_reducible rfl) (by first | omega | with_reducible rfl) hL hCn hMs hno) gX10_lay_X10_takeText rfl rfl rfl (by decide +kernel) ⟨Nat.le_of_ble_eq_true rfl, Nat.le_of_ble_eq_true rfl⟩ rfl (by first | omega | with_reducible rfl) ht0 rfl (Nat.le_of_ble_eq_true rfl) ⟨Nat.zero_le _, Nat.zero_le _⟩ dX10_lay_1 rfl (fun g_1 hp_2 => ?_)
  obtain ⟨sr1_3, pl1_4, dn1_5, dv1_6, dT1_7, dX1_8, dV1_9, dW1_10, hr_11, hd_12, hf_13⟩ := hp_2
  have ht0_14 : vTop cy B g_1 0 la := vTop_fr ht0 (fun q h1 h2 => hf_13 q (by omega))
  have hsa_15 : vSA cy B g_1 62  := vSA_fr hsa (fun q h1 h2 => hf_13 q (by omega))
  have htx_16 : vText cy B g_1 16 n L := vText_fr htx (fun q h1 h2 => hf_13 q (by omega))
  have hst_17 : vSets cy B g_1 1 Cn := vSets_fr hst (fun q h1 h2 => hf_13 q (by omega))
  have hp_18 : vPast cy B g_1 50 wh Rw nx sz := vPast_fr hp (fun q h1 h2 => hf_13 q (by omega))
  have hss_19 : vSWs cy B g_1 63 cs Ms fs := vSWs_fr hss (fun q h1 h2 => hf_13 q (by omega))
  have hfr_20 : ∀ q, (q < 18 ∨ 18 + 32 ≤ q) → g_1 q = g q := fun q hq => (hf_13 q (by omega)).trans (hfr_0 q hq)
  refine w_if_eq 14 dX10_lay_4 (by decide) (by first | omega | with_reducible rfl) (fun c_4 => ?_) (fun c_4 => ?_)
  · refine w_bipush dX10_lay_14 (by decide) ?_
    exact w_iret dX10_lay_16 rfl (by first | with_reducible rfl | omega | (split <;> omega)) ⟨sr1_3, pl1_4, dn1_5, dv1_6, dT1_7, dX1_8, dV1_9, dW1_10, hr_11, hd_12, hfr_20⟩
  · exfalso; omega
set_option maxHeartbeats 4000000 in
set_option maxRecDepth 100000 in
theorem y_X10_lay {l : Launch} {D : va_G} {cy : Nat → ClassId} {B N : Nat} {g : Nat → va_E} {la : Nat} {n : Nat} {L : Int → Int} {sr : Nat} {pl : Int} {dn : Nat → Nat} {dv : Nat → Int} {dT dX dV : Nat → Int → Int} {dW : Nat → Nat → Int → Int} {Cn : Nat → Int → Int} {nx sz : Nat} {wh : Int → Int} {Rw : Nat → Int → Int} {cs : Nat → List Co} {Ms : Nat → Int} {fs : Nat → Nat} {MM : Int} (ht0 : vTop cy B g 0 la) (hsa : vSA cy B g 62 ) (htx : vText cy B g 16 n L) (hr : vReader cy B g 18 sr pl) (hd : vDr cy B g (18 + 2) 1 dn dv dT dX dV dW) (hst : vSets cy B g 1 Cn) (hp : vPast cy B g 50 wh Rw nx sz) (hss : vSWs cy B g 63 cs Ms fs) (hN : 141 ≤ N) (hla : la ≤ 3) (hn : n ≤ 200) (hL : ∀ i : Int, 0 ≤ i → i < n → 0 ≤ L i ∧ L i < 65536) (hCn : ∀ t x : Nat, t ≤ 12 → x ≤ 12 → setA Cn ((t : Nat) : Int) ((x : Nat) : Int) = ((ch t x : Nat) : Int)) (hMs : ∀ i : Nat, Ms i ≤ MM) (hf1 : (psF n L 200 0 []).1 = -1) (hly : lyd (psF n L 200 0 []).2) : CTi l yX10_lay wsX10_lay (rmo 6 140) D cy B N g [.ref (B + 0)] (((psF n L 200 0 []).2.length : Nat) : Int) (fun g' => ∃ sr1 : Nat, ∃ pl1 : Int, ∃ dn1 : Nat → Nat, ∃ dv1 : Nat → Int, ∃ dT1 : Nat → Int → Int, ∃ dX1 : Nat → Int → Int, ∃ dV1 : Nat → Int → Int, ∃ dW1 : Nat → Nat → Int → Int, ∃ cs1 : Nat → List Co, ∃ Ms1 : Nat → Int, ∃ fs1 : Nat → Nat, vTop cy B g' 0 ((psF n L 200 0 []).2.length) ∧ vReader cy B g' 18 sr1 pl1 ∧ vDr cy B g' (18 + 2) 1 dn1 dv1 dT1 dX1 dV1 dW1 ∧ vPast cy B g' 50 wh Rw nx 0 ∧ vSWs cy B g' 63 cs1 Ms1 fs1 ∧ (∀ i : Nat, i < (psF n L 200 0 []).2.length → cs1 i = (psF n L 200 0 []).2.getD i []) ∧ (∀ i : Nat, Ms1 i ≤ MM + 6) ∧ (∀ q, ((0 < q ∧ q < 18) ∨ (59 ≤ q ∧ q < 63) ∨ 141 ≤ q) → g' q = g q)) := by
  refine WW_of (cc := cX10_lay) (maxL := 1) (ret := (some .int)) (own := RX10) (by decide) rfl rfl (Nat.le_of_ble_eq_true rfl) rfl ?_
  intro pp ee ss mm bl me co hmn
  have hfr_0 : ∀ q, ((0 < q ∧ q < 18) ∨ (59 ≤ q ∧ q < 63) ∨ 141 ≤ q) → g q = g q := fun _ _ => rfl
  refine w_aload_n dX10_lay_0 rfl 0 rfl ?_
  refine w_calli (As := []) (rest := []) (n := 0) (y_X10_takeText ht0 hsa htx hr hd hst hp hss (by first | omega | with_reducible rfl) (by first | omega | with_reducible rfl) (by first | omega | with_reducible rfl) hL hCn hMs (by first | omega | with_reducible rfl) hly) gX10_lay_X10_takeText rfl rfl rfl (by decide +kernel) ⟨Nat.le_of_ble_eq_true rfl, Nat.le_of_ble_eq_true rfl⟩ rfl (by first | omega | with_reducible rfl) ht0 rfl (Nat.le_of_ble_eq_true rfl) ⟨Nat.zero_le _, Nat.zero_le _⟩ dX10_lay_1 rfl (fun g_1 hp_2 => ?_)
  obtain ⟨sr1_3, pl1_4, dn1_5, dv1_6, dT1_7, dX1_8, dV1_9, dW1_10, cs1_11, Ms1_12, fs1_13, ht0_14, hr_15, hd_16, hp_17, hss_18, hcs_1, hM1_1, hf_19⟩ := hp_2
  have hsa_20 : vSA cy B g_1 62  := vSA_fr hsa (fun q h1 h2 => hf_19 q (by omega))
  have htx_21 : vText cy B g_1 16 n L := vText_fr htx (fun q h1 h2 => hf_19 q (by omega))
  have hst_22 : vSets cy B g_1 1 Cn := vSets_fr hst (fun q h1 h2 => hf_19 q (by omega))
  have hfr_23 : ∀ q, ((0 < q ∧ q < 18) ∨ (59 ≤ q ∧ q < 63) ∨ 141 ≤ q) → g_1 q = g q := fun q hq => (hf_19 q (by omega)).trans (hfr_0 q hq)
  refine w_if_eq 14 dX10_lay_4 (by decide) (by first | omega | with_reducible rfl) (fun c_4 => ?_) (fun c_4 => ?_)
  · exfalso; omega
  · refine w_aload_n dX10_lay_7 rfl 0 rfl ?_
    refine w_get (i := 5) (T := TX10) (NF := 6) 0 (by first | omega | with_reducible rfl) ht0_14 rfl (fun _ h => (List.mem_cons_of_mem _ (List.mem_append_left _ (List.mem_append_left _ (List.mem_append_left _ (List.mem_append_left _ (List.mem_append_left _ (List.mem_append_left _ (List.mem_append_right _ h))))))))) (by decide) (List.mem_of_getElem? (i := 1) rfl) rfl dX10_lay_8 ?_
    refine w_goto 16 dX10_lay_11 (by decide) ?_
    exact w_iret dX10_lay_16 rfl (by first | with_reducible rfl | omega | (split <;> omega)) ⟨sr1_3, pl1_4, dn1_5, dv1_6, dT1_7, dX1_8, dV1_9, dW1_10, cs1_11, Ms1_12, fs1_13, ht0_14, hr_15, hd_16, hp_17, hss_18, hcs_1, hM1_1, hfr_23⟩

set_option maxHeartbeats 4000000 in
set_option maxRecDepth 100000 in
theorem n_X10_set {l : Launch} {D : va_G} {cy : Nat → ClassId} {B N : Nat} {g : Nat → va_E} {la : Nat} {s j what x : Int} (ht0 : vTop cy B g 0 la) (hsa : vSA cy B g 62 ) (hN : 141 ≤ N) (hla : la ≤ 3) (h_s : -2147483648 ≤ s ∧ s < 2147483648) (hs : ¬ (0 ≤ s ∧ s < la)) (h_j : -2147483648 ≤ j ∧ j < 2147483648) (h_what : -2147483648 ≤ what ∧ what < 2147483648) (h_x : -2147483648 ≤ x ∧ x < 2147483648) : CTi l yX10_set wsX10_set (rmo 2 63) D cy B N g [.ref (B + 0), .int (zI s), .int (zI j), .int (zI what), .int (zI x)] (-1) (fun g' => g' = g) := by
  refine WW_of (cc := cX10_set) (maxL := 9) (ret := (some .int)) (own := RX10) (by decide) rfl rfl (Nat.le_of_ble_eq_true rfl) rfl ?_
  intro pp ee ss mm bl me co hmn
  refine w_aload_n dX10_set_0 rfl 0 rfl ?_
  refine w_iload_n dX10_set_1 rfl 1 rfl ?_
  refine w_callq (As := [.int (zI s)]) (rest := []) (n := 1) (c_X10_find ht0 hsa (by first | omega | with_reducible rfl) (by first | omega | with_reducible rfl) (by first | omega | with_reducible rfl)) gX10_set_X10_find rfl rfl rfl (by decide +kernel) ⟨Nat.le_of_ble_eq_true rfl, Nat.le_of_ble_eq_true rfl⟩ rfl (by first | omega | with_reducible rfl) ht0 rfl (Nat.le_of_ble_eq_true rfl) ⟨Nat.zero_le _, Nat.zero_le _⟩ dX10_set_2 rfl (fun g_1 hp_2 => ?_)
  subst g_1
  refine w_as (st' := [.null]) (sc_q0 (by rw [if_neg (by omega)]) rfl) ?_
  refine w_astoreN [(5, .null), (0, .ref (B + 0)), (1, .int (zI s)), (2, .int (zI j)), (3, .int (zI what)), (4, .int (zI x))] dX10_set_5 (by decide) rfl ?_
  refine w_aloadN dX10_set_7 0 rfl ?_
  refine w_ifnullN 33 dX10_set_9 (by decide) ?_
  refine w_iconst dX10_set_33 ?_
  exact w_iret dX10_set_34 rfl (by first | with_reducible rfl | omega | (split <;> omega)) rfl
set_option maxHeartbeats 4000000 in
set_option maxRecDepth 100000 in
theorem b_X10_set {l : Launch} {D : va_G} {cy : Nat → ClassId} {B N : Nat} {g : Nat → va_E} {la k : Nat} {c : List Co} {M : Int} {fr : Nat} {nx sz : Nat} {wh : Int → Int} {Rw : Nat → Int → Int} {j what x : Int} (ht0 : vTop cy B g 0 la) (hsa : vSA cy B g 62 ) (hw : vSW cy B g (63 + 26 * k) c M fr) (hp : vPast cy B g 50 wh Rw nx sz) (hN : 141 ≤ N) (hk : k < la ∧ la ≤ 3) (hM : M < 2147483648) (hc : cok c) (h2 : 2 ≤ c.length) (hx : nx < 6) (hs6 : sz ≤ 6) (h_j : -2147483648 ≤ j ∧ j < 2147483648) (h_what : -2147483648 ≤ what ∧ what < 2147483648) (h_x : -2147483648 ≤ x ∧ x < 2147483648) (hb : ¬ (0 ≤ j ∧ j < c.length) ∨ ¬ (0 ≤ what ∧ what ≤ 1) ∨ x < 0 ∨ (what = 0 ∧ coT c j < x) ∨ (what = 1 ∧ 9 < x)) : CTi l yX10_set wsX10_set (rmo 2 63) D cy B N g [.ref (B + 0), .int (zI ((k : Nat) : Int)), .int (zI j), .int (zI what), .int (zI x)] (-1) (fun g' => g' = g) := by
  refine WW_of (cc := cX10_set) (maxL := 9) (ret := (some .int)) (own := RX10) (by decide) rfl rfl (Nat.le_of_ble_eq_true rfl) rfl ?_
  intro pp ee ss mm bl me co hmn
  have hc5 := hc.1
  refine w_aload_n dX10_set_0 rfl 0 rfl ?_
  refine w_iload_n dX10_set_1 rfl 1 rfl ?_
  refine w_callq (As := [.int (zI ((k : Nat) : Int))]) (rest := []) (n := 1) (c_X10_find ht0 hsa (by first | omega | with_reducible rfl) (by first | omega | with_reducible rfl) (by first | omega | with_reducible rfl)) gX10_set_X10_find rfl rfl rfl (by decide +kernel) ⟨Nat.le_of_ble_eq_true rfl, Nat.le_of_ble_eq_true rfl⟩ rfl (by first | omega | with_reducible rfl) ht0 rfl (Nat.le_of_ble_eq_true rfl) ⟨Nat.zero_le _, Nat.zero_le _⟩ dX10_set_2 rfl (fun g_1 hp_2 => ?_)
  subst g_1
  refine w_as (st' := [.ref (B + (63 + 26 * k))]) (sc_q (by rw [if_pos (by omega), Int.toNat_natCast]) rfl) ?_
  refine w_astore [(5, .ref (B + (63 + 26 * k))), (0, .ref (B + 0)), (1, .int (zI ((k : Nat) : Int))), (2, .int (zI j)), (3, .int (zI what)), (4, .int (zI x))] dX10_set_5 (by decide) rfl ?_
  refine w_aload dX10_set_7 0 rfl ?_
  refine w_ifnull dX10_set_9 ?_
  refine w_aload dX10_set_12 0 rfl ?_
  refine w_get (i := 0) (T := TX7) (NF := 4) (63 + 26 * k) (by first | omega | with_reducible rfl) (vSW_str hw) rfl (fun _ h => (List.mem_cons_of_mem _ (List.mem_append_left _ (List.mem_append_left _ (List.mem_append_left _ (List.mem_append_right _ h)))))) (by decide) (List.mem_of_getElem? (i := 1) rfl) rfl dX10_set_14 ?_
  refine w_iload_n dX10_set_17 rfl 3 rfl ?_
  obtain ⟨fx_5, hfx_5⟩ := vSW_col hw
  refine w_calli (As := [.int (zI j)]) (rest := []) (n := 1) (w_X0_has hw (by first | omega | with_reducible rfl) (by first | omega | with_reducible rfl) (by first | omega | with_reducible rfl)) gX10_set_X0_has rfl rfl rfl (by decide +kernel) ⟨Nat.le_of_ble_eq_true rfl, Nat.le_of_ble_eq_true rfl⟩ rfl (by first | omega | with_reducible rfl) hfx_5 rfl (Nat.le_of_ble_eq_true rfl) ⟨Nat.zero_le _, Nat.zero_le _⟩ dX10_set_18 rfl (fun g_3 hp_4 => ?_)
  subst g_3
  refine w_ifeqB 33 dX10_set_21 (by decide) (fun c_21 => ?_) (fun c_21 => ?_)
  · refine w_iconst dX10_set_33 ?_
    exact w_iret dX10_set_34 rfl (by first | with_reducible rfl | omega | (split <;> omega)) rfl
  · refine w_iload_n dX10_set_24 rfl 4 rfl ?_
    refine w_if_lt 33 dX10_set_25 (by decide) (by first | omega | with_reducible rfl) (fun c_25 => ?_) (fun c_25 => ?_)
    · refine w_iconst dX10_set_33 ?_
      exact w_iret dX10_set_34 rfl (by first | with_reducible rfl | omega | (split <;> omega)) rfl
    · refine w_iload_n dX10_set_28 rfl 4 rfl ?_
      refine w_iconst dX10_set_29 ?_
      refine w_icmp_le 35 dX10_set_30 (by decide) (by first | omega | with_reducible rfl) (by first | omega | with_reducible rfl) (fun c_30 => ?_) (fun c_30 => ?_)
      · refine w_aload dX10_set_35 0 rfl ?_
        refine w_get (i := 0) (T := TX7) (NF := 4) (63 + 26 * k) (by first | omega | with_reducible rfl) (vSW_str hw) rfl (fun _ h => (List.mem_cons_of_mem _ (List.mem_append_left _ (List.mem_append_left _ (List.mem_append_left _ (List.mem_append_right _ h)))))) (by decide) (List.mem_of_getElem? (i := 1) rfl) rfl dX10_set_37 ?_
        refine w_astore [(6, .ref (B + ((63 + 26 * k) + 1))), (5, .ref (B + (63 + 26 * k))), (0, .ref (B + 0)), (1, .int (zI ((k : Nat) : Int))), (2, .int (zI j)), (3, .int (zI what)), (4, .int (zI x))] dX10_set_40 (by decide) rfl ?_
        refine w_iload_n dX10_set_42 rfl 5 rfl ?_
        refine w_if_ne 55 dX10_set_43 (by decide) (by first | omega | with_reducible rfl) (fun c_43 => ?_) (fun c_43 => ?_)
        · refine w_bipush dX10_set_55 (by decide) ?_
          refine w_istore [(7, .int (zI 9)), (6, .ref (B + ((63 + 26 * k) + 1))), (5, .ref (B + (63 + 26 * k))), (0, .ref (B + 0)), (1, .int (zI ((k : Nat) : Int))), (2, .int (zI j)), (3, .int (zI what)), (4, .int (zI x))] dX10_set_57 (by decide) rfl ?_
          refine w_iload dX10_set_59 7 rfl ?_
          refine w_if_lt 71 dX10_set_61 (by decide) (by first | omega | with_reducible rfl) (fun c_61 => ?_) (fun c_61 => ?_)
          · refine w_iconst dX10_set_71 ?_
            exact w_iret dX10_set_72 rfl (by first | with_reducible rfl | omega | (split <;> omega)) rfl
          · refine w_iload dX10_set_64 7 rfl ?_
            refine w_iload dX10_set_66 0 rfl ?_
            refine w_icmp_le 73 dX10_set_68 (by decide) (by first | omega | with_reducible rfl) (by first | omega | with_reducible rfl) (fun c_68 => ?_) (fun c_68 => ?_)
            · exfalso; omega
            · refine w_iconst dX10_set_71 ?_
              exact w_iret dX10_set_72 rfl (by first | with_reducible rfl | omega | (split <;> omega)) rfl
        · refine w_aload dX10_set_46 0 rfl ?_
          refine w_iload_n dX10_set_48 rfl 4 rfl ?_
          obtain ⟨fx_8, hfx_8⟩ := vSW_col hw
          refine w_calli (As := [.int (zI j)]) (rest := []) (n := 1) (w_X0_totalOf hw (by first | omega | with_reducible rfl) (by first | omega | with_reducible rfl) (by first | omega | with_reducible rfl)) gX10_set_X0_totalOf rfl rfl rfl (by decide +kernel) ⟨Nat.le_of_ble_eq_true rfl, Nat.le_of_ble_eq_true rfl⟩ rfl (by first | omega | with_reducible rfl) hfx_8 rfl (Nat.le_of_ble_eq_true rfl) ⟨Nat.zero_le _, Nat.zero_le _⟩ dX10_set_49 rfl (fun g_6 hp_7 => ?_)
          subst g_6
          have hcj := hc.2 j (by omega) (by omega)
          refine w_as (st' := [.int (zI (coT c j))]) (sc_i (inA_in (by omega)) rfl) ?_
          refine w_goto 57 dX10_set_52 (by decide) ?_
          refine w_istore [(7, .int (zI (coT c j))), (6, .ref (B + ((63 + 26 * k) + 1))), (5, .ref (B + (63 + 26 * k))), (0, .ref (B + 0)), (1, .int (zI ((k : Nat) : Int))), (2, .int (zI j)), (3, .int (zI what)), (4, .int (zI x))] dX10_set_57 (by decide) rfl ?_
          refine w_iload dX10_set_59 7 rfl ?_
          refine w_if_lt 71 dX10_set_61 (by decide) (by first | omega | with_reducible rfl) (fun c_61 => ?_) (fun c_61 => ?_)
          · refine w_iconst dX10_set_71 ?_
            exact w_iret dX10_set_72 rfl (by first | with_reducible rfl | omega | (split <;> omega)) rfl
          · refine w_iload dX10_set_64 7 rfl ?_
            refine w_iload dX10_set_66 0 rfl ?_
            refine w_icmp_le 73 dX10_set_68 (by decide) (by first | omega | with_reducible rfl) (by first | omega | with_reducible rfl) (fun c_68 => ?_) (fun c_68 => ?_)
            · exfalso; omega
            · refine w_iconst dX10_set_71 ?_
              exact w_iret dX10_set_72 rfl (by first | with_reducible rfl | omega | (split <;> omega)) rfl
      · refine w_iconst dX10_set_33 ?_
        exact w_iret dX10_set_34 rfl (by first | with_reducible rfl | omega | (split <;> omega)) rfl
set_option maxHeartbeats 4000000 in
set_option maxRecDepth 100000 in
theorem s_X10_set {l : Launch} {D : va_G} {cy : Nat → ClassId} {B N : Nat} {g : Nat → va_E} {la k : Nat} {c : List Co} {M : Int} {fr : Nat} {nx sz : Nat} {wh : Int → Int} {Rw : Nat → Int → Int} {j what x : Int} (ht0 : vTop cy B g 0 la) (hsa : vSA cy B g 62 ) (hw : vSW cy B g (63 + 26 * k) c M fr) (hp : vPast cy B g 50 wh Rw nx sz) (hN : 141 ≤ N) (hk : k < la ∧ la ≤ 3) (hM : M < 2147483648) (hc : cok c) (h2 : 2 ≤ c.length) (hx : nx < 6) (hs6 : sz ≤ 6) (h_j : -2147483648 ≤ j ∧ j < 2147483648) (h_what : -2147483648 ≤ what ∧ what < 2147483648) (h_x : -2147483648 ≤ x ∧ x < 2147483648) (hj : 0 ≤ j ∧ j < c.length) (hwh : (what = 0 ∧ 0 ≤ x ∧ x ≤ coT c j ∧ coX c j = x) ∨ (what = 1 ∧ 0 ≤ x ∧ x ≤ 9 ∧ coV c j = x)) : CTi l yX10_set wsX10_set (rmo 2 63) D cy B N g [.ref (B + 0), .int (zI ((k : Nat) : Int)), .int (zI j), .int (zI what), .int (zI x)] (-2) (fun g' => g' = g) := by
  refine WW_of (cc := cX10_set) (maxL := 9) (ret := (some .int)) (own := RX10) (by decide) rfl rfl (Nat.le_of_ble_eq_true rfl) rfl ?_
  intro pp ee ss mm bl me co hmn
  have hc5 := hc.1
  refine w_aload_n dX10_set_0 rfl 0 rfl ?_
  refine w_iload_n dX10_set_1 rfl 1 rfl ?_
  refine w_callq (As := [.int (zI ((k : Nat) : Int))]) (rest := []) (n := 1) (c_X10_find ht0 hsa (by first | omega | with_reducible rfl) (by first | omega | with_reducible rfl) (by first | omega | with_reducible rfl)) gX10_set_X10_find rfl rfl rfl (by decide +kernel) ⟨Nat.le_of_ble_eq_true rfl, Nat.le_of_ble_eq_true rfl⟩ rfl (by first | omega | with_reducible rfl) ht0 rfl (Nat.le_of_ble_eq_true rfl) ⟨Nat.zero_le _, Nat.zero_le _⟩ dX10_set_2 rfl (fun g_1 hp_2 => ?_)
  subst g_1
  refine w_as (st' := [.ref (B + (63 + 26 * k))]) (sc_q (by rw [if_pos (by omega), Int.toNat_natCast]) rfl) ?_
  refine w_astore [(5, .ref (B + (63 + 26 * k))), (0, .ref (B + 0)), (1, .int (zI ((k : Nat) : Int))), (2, .int (zI j)), (3, .int (zI what)), (4, .int (zI x))] dX10_set_5 (by decide) rfl ?_
  refine w_aload dX10_set_7 0 rfl ?_
  refine w_ifnull dX10_set_9 ?_
  refine w_aload dX10_set_12 0 rfl ?_
  refine w_get (i := 0) (T := TX7) (NF := 4) (63 + 26 * k) (by first | omega | with_reducible rfl) (vSW_str hw) rfl (fun _ h => (List.mem_cons_of_mem _ (List.mem_append_left _ (List.mem_append_left _ (List.mem_append_left _ (List.mem_append_right _ h)))))) (by decide) (List.mem_of_getElem? (i := 1) rfl) rfl dX10_set_14 ?_
  refine w_iload_n dX10_set_17 rfl 3 rfl ?_
  obtain ⟨fx_5, hfx_5⟩ := vSW_col hw
  refine w_calli (As := [.int (zI j)]) (rest := []) (n := 1) (w_X0_has hw (by first | omega | with_reducible rfl) (by first | omega | with_reducible rfl) (by first | omega | with_reducible rfl)) gX10_set_X0_has rfl rfl rfl (by decide +kernel) ⟨Nat.le_of_ble_eq_true rfl, Nat.le_of_ble_eq_true rfl⟩ rfl (by first | omega | with_reducible rfl) hfx_5 rfl (Nat.le_of_ble_eq_true rfl) ⟨Nat.zero_le _, Nat.zero_le _⟩ dX10_set_18 rfl (fun g_3 hp_4 => ?_)
  subst g_3
  refine w_ifeqB 33 dX10_set_21 (by decide) (fun c_21 => ?_) (fun c_21 => ?_)
  · exfalso; omega
  · refine w_iload_n dX10_set_24 rfl 4 rfl ?_
    refine w_if_lt 33 dX10_set_25 (by decide) (by first | omega | with_reducible rfl) (fun c_25 => ?_) (fun c_25 => ?_)
    · exfalso; omega
    · refine w_iload_n dX10_set_28 rfl 4 rfl ?_
      refine w_iconst dX10_set_29 ?_
      refine w_icmp_le 35 dX10_set_30 (by decide) (by first | omega | with_reducible rfl) (by first | omega | with_reducible rfl) (fun c_30 => ?_) (fun c_30 => ?_)
      · refine w_aload dX10_set_35 0 rfl ?_
        refine w_get (i := 0) (T := TX7) (NF := 4) (63 + 26 * k) (by first | omega | with_reducible rfl) (vSW_str hw) rfl (fun _ h => (List.mem_cons_of_mem _ (List.mem_append_left _ (List.mem_append_left _ (List.mem_append_left _ (List.mem_append_right _ h)))))) (by decide) (List.mem_of_getElem? (i := 1) rfl) rfl dX10_set_37 ?_
        refine w_astore [(6, .ref (B + ((63 + 26 * k) + 1))), (5, .ref (B + (63 + 26 * k))), (0, .ref (B + 0)), (1, .int (zI ((k : Nat) : Int))), (2, .int (zI j)), (3, .int (zI what)), (4, .int (zI x))] dX10_set_40 (by decide) rfl ?_
        refine w_iload_n dX10_set_42 rfl 5 rfl ?_
        refine w_if_ne 55 dX10_set_43 (by decide) (by first | omega | with_reducible rfl) (fun c_43 => ?_) (fun c_43 => ?_)
        · refine w_bipush dX10_set_55 (by decide) ?_
          refine w_istore [(7, .int (zI 9)), (6, .ref (B + ((63 + 26 * k) + 1))), (5, .ref (B + (63 + 26 * k))), (0, .ref (B + 0)), (1, .int (zI ((k : Nat) : Int))), (2, .int (zI j)), (3, .int (zI what)), (4, .int (zI x))] dX10_set_57 (by decide) rfl ?_
          refine w_iload dX10_set_59 7 rfl ?_
          refine w_if_lt 71 dX10_set_61 (by decide) (by first | omega | with_reducible rfl) (fun c_61 => ?_) (fun c_61 => ?_)
          · exfalso; omega
          · refine w_iload dX10_set_64 7 rfl ?_
            refine w_iload dX10_set_66 0 rfl ?_
            refine w_icmp_le 73 dX10_set_68 (by decide) (by first | omega | with_reducible rfl) (by first | omega | with_reducible rfl) (fun c_68 => ?_) (fun c_68 => ?_)
            · refine w_iload_n dX10_set_73 rfl 6 rfl ?_
              refine w_if_ne 86 dX10_set_74 (by decide) (by first | omega | with_reducible rfl) (fun c_74 => ?_) (fun c_74 => ?_)
              · refine w_aload dX10_set_86 1 rfl ?_
                refine w_iload_n dX10_set_88 rfl 5 rfl ?_
                obtain ⟨fx_8, hfx_8⟩ := vSW_col hw
                refine w_calli (As := [.int (zI j)]) (rest := []) (n := 1) (w_X0_scoreOf hw (by first | omega | with_reducible rfl) (by first | omega | with_reducible rfl) (by first | omega | with_reducible rfl)) gX10_set_X0_scoreOf rfl rfl rfl (by decide +kernel) ⟨Nat.le_of_ble_eq_true rfl, Nat.le_of_ble_eq_true rfl⟩ rfl (by first | omega | with_reducible rfl) hfx_8 rfl (Nat.le_of_ble_eq_true rfl) ⟨Nat.zero_le _, Nat.zero_le _⟩ dX10_set_89 rfl (fun g_6 hp_7 => ?_)
                subst g_6
                have hcj3 := hc.2 j (by omega) (by omega)
                refine w_as (st' := [.int (zI (coV c j))]) (sc_i (inA_in (by omega)) rfl) ?_
                refine w_istore [(8, .int (zI (coV c j))), (7, .int (zI 9)), (6, .ref (B + ((63 + 26 * k) + 1))), (5, .ref (B + (63 + 26 * k))), (0, .ref (B + 0)), (1, .int (zI ((k : Nat) : Int))), (2, .int (zI j)), (3, .int (zI what)), (4, .int (zI x))] dX10_set_92 (by decide) rfl ?_
                refine w_iload dX10_set_94 0 rfl ?_
                refine w_iload dX10_set_96 8 rfl ?_
                refine w_icmp_ne 104 dX10_set_98 (by decide) (by first | omega | with_reducible rfl) (by first | omega | with_reducible rfl) (fun c_98 => ?_) (fun c_98 => ?_)
                · exfalso; omega
                · refine w_bipush dX10_set_101 (by decide) ?_
                  exact w_iret dX10_set_103 rfl (by first | with_reducible rfl | omega | (split <;> omega)) rfl
              · refine w_aload dX10_set_77 1 rfl ?_
                refine w_iload_n dX10_set_79 rfl 5 rfl ?_
                obtain ⟨fx_11, hfx_11⟩ := vSW_col hw
                refine w_calli (As := [.int (zI j)]) (rest := []) (n := 1) (w_X0_aboveOf hw (by first | omega | with_reducible rfl) (by first | omega | with_reducible rfl) (by first | omega | with_reducible rfl)) gX10_set_X0_aboveOf rfl rfl rfl (by decide +kernel) ⟨Nat.le_of_ble_eq_true rfl, Nat.le_of_ble_eq_true rfl⟩ rfl (by first | omega | with_reducible rfl) hfx_11 rfl (Nat.le_of_ble_eq_true rfl) ⟨Nat.zero_le _, Nat.zero_le _⟩ dX10_set_80 rfl (fun g_9 hp_10 => ?_)
                subst g_9
                have hcj2 := hc.2 j (by omega) (by omega)
                refine w_as (st' := [.int (zI (coX c j))]) (sc_i (inA_in (by omega)) rfl) ?_
                refine w_goto 92 dX10_set_83 (by decide) ?_
                have hcj3 := hc.2 j (by omega) (by omega)
                refine w_istore [(8, .int (zI (coX c j))), (7, .int (zI 9)), (6, .ref (B + ((63 + 26 * k) + 1))), (5, .ref (B + (63 + 26 * k))), (0, .ref (B + 0)), (1, .int (zI ((k : Nat) : Int))), (2, .int (zI j)), (3, .int (zI what)), (4, .int (zI x))] dX10_set_92 (by decide) rfl ?_
                refine w_iload dX10_set_94 0 rfl ?_
                refine w_iload dX10_set_96 8 rfl ?_
                refine w_icmp_ne 104 dX10_set_98 (by decide) (by first | omega | with_reducible rfl) (by first | omega | with_reducible rfl) (fun c_98 => ?_) (fun c_98 => ?_)
                · exfalso; omega
                · refine w_bipush dX10_set_101 (by decide) ?_
                  exact w_iret dX10_set_103 rfl (by first | with_reducible rfl | omega | (split <;> omega)) rfl
            · exfalso; omega
        · refine w_aload dX10_set_46 0 rfl ?_
          refine w_iload_n dX10_set_48 rfl 4 rfl ?_
          obtain ⟨fx_14, hfx_14⟩ := vSW_col hw
          refine w_calli (As := [.int (zI j)]) (rest := []) (n := 1) (w_X0_totalOf hw (by first | omega | with_reducible rfl) (by first | omega | with_reducible rfl) (by first | omega | with_reducible rfl)) gX10_set_X0_totalOf rfl rfl rfl (by decide +kernel) ⟨Nat.le_of_ble_eq_true rfl, Nat.le_of_ble_eq_true rfl⟩ rfl (by first | omega | with_reducible rfl) hfx_14 rfl (Nat.le_of_ble_eq_true rfl) ⟨Nat.zero_le _, Nat.zero_le _⟩ dX10_set_49 rfl (fun g_12 hp_13 => ?_)
          subst g_12
          have hcj := hc.2 j (by omega) (by omega)
          refine w_as (st' := [.int (zI (coT c j))]) (sc_i (inA_in (by omega)) rfl) ?_
          refine w_goto 57 dX10_set_52 (by decide) ?_
          refine w_istore [(7, .int (zI (coT c j))), (6, .ref (B + ((63 + 26 * k) + 1))), (5, .ref (B + (63 + 26 * k))), (0, .ref (B + 0)), (1, .int (zI ((k : Nat) : Int))), (2, .int (zI j)), (3, .int (zI what)), (4, .int (zI x))] dX10_set_57 (by decide) rfl ?_
          refine w_iload dX10_set_59 7 rfl ?_
          refine w_if_lt 71 dX10_set_61 (by decide) (by first | omega | with_reducible rfl) (fun c_61 => ?_) (fun c_61 => ?_)
          · exfalso; omega
          · refine w_iload dX10_set_64 7 rfl ?_
            refine w_iload dX10_set_66 0 rfl ?_
            refine w_icmp_le 73 dX10_set_68 (by decide) (by first | omega | with_reducible rfl) (by first | omega | with_reducible rfl) (fun c_68 => ?_) (fun c_68 => ?_)
            · refine w_iload_n dX10_set_73 rfl 6 rfl ?_
              refine w_if_ne 86 dX10_set_74 (by decide) (by first | omega | with_reducible rfl) (fun c_74 => ?_) (fun c_74 => ?_)
              · refine w_aload dX10_set_86 1 rfl ?_
                refine w_iload_n dX10_set_88 rfl 5 rfl ?_
                obtain ⟨fx_17, hfx_17⟩ := vSW_col hw
                refine w_calli (As := [.int (zI j)]) (rest := []) (n := 1) (w_X0_scoreOf hw (by first | omega | with_reducible rfl) (by first | omega | with_reducible rfl) (by first | omega | with_reducible rfl)) gX10_set_X0_scoreOf rfl rfl rfl (by decide +kernel) ⟨Nat.le_of_ble_eq_true rfl, Nat.le_of_ble_eq_true rfl⟩ rfl (by first | omega | with_reducible rfl) hfx_17 rfl (Nat.le_of_ble_eq_true rfl) ⟨Nat.zero_le _, Nat.zero_le _⟩ dX10_set_89 rfl (fun g_15 hp_16 => ?_)
                subst g_15
                have hcj3 := hc.2 j (by omega) (by omega)
                refine w_as (st' := [.int (zI (coV c j))]) (sc_i (inA_in (by omega)) rfl) ?_
                refine w_istore [(8, .int (zI (coV c j))), (7, .int (zI (coT c j))), (6, .ref (B + ((63 + 26 * k) + 1))), (5, .ref (B + (63 + 26 * k))), (0, .ref (B + 0)), (1, .int (zI ((k : Nat) : Int))), (2, .int (zI j)), (3, .int (zI what)), (4, .int (zI x))] dX10_set_92 (by decide) rfl ?_
                refine w_iload dX10_set_94 0 rfl ?_
                refine w_iload dX10_set_96 8 rfl ?_
                refine w_icmp_ne 104 dX10_set_98 (by decide) (by first | omega | with_reducible rfl) (by first | omega | with_reducible rfl) (fun c_98 => ?_) (fun c_98 => ?_)
                · exfalso; omega
                · refine w_bipush dX10_set_101 (by decide) ?_
                  exact w_iret dX10_set_103 rfl (by first | with_reducible rfl | omega | (split <;> omega)) rfl
              · refine w_aload dX10_set_77 1 rfl ?_
                refine w_iload_n dX10_set_79 rfl 5 rfl ?_
                obtain ⟨fx_20, hfx_20⟩ := vSW_col hw
                refine w_calli (As := [.int (zI j)]) (rest := []) (n := 1) (w_X0_aboveOf hw (by first | omega | with_reducible rfl) (by first | omega | with_reducible rfl) (by first | omega | with_reducible rfl)) gX10_set_X0_aboveOf rfl rfl rfl (by decide +kernel) ⟨Nat.le_of_ble_eq_true rfl, Nat.le_of_ble_eq_true rfl⟩ rfl (by first | omega | with_reducible rfl) hfx_20 rfl (Nat.le_of_ble_eq_true rfl) ⟨Nat.zero_le _, Nat.zero_le _⟩ dX10_set_80 rfl (fun g_18 hp_19 => ?_)
                subst g_18
                have hcj2 := hc.2 j (by omega) (by omega)
                refine w_as (st' := [.int (zI (coX c j))]) (sc_i (inA_in (by omega)) rfl) ?_
                refine w_goto 92 dX10_set_83 (by decide) ?_
                have hcj3 := hc.2 j (by omega) (by omega)
                refine w_istore [(8, .int (zI (coX c j))), (7, .int (zI (coT c j))), (6, .ref (B + ((63 + 26 * k) + 1))), (5, .ref (B + (63 + 26 * k))), (0, .ref (B + 0)), (1, .int (zI ((k : Nat) : Int))), (2, .int (zI j)), (3, .int (zI what)), (4, .int (zI x))] dX10_set_92 (by decide) rfl ?_
                refine w_iload dX10_set_94 0 rfl ?_
                refine w_iload dX10_set_96 8 rfl ?_
                refine w_icmp_ne 104 dX10_set_98 (by decide) (by first | omega | with_reducible rfl) (by first | omega | with_reducible rfl) (fun c_98 => ?_) (fun c_98 => ?_)
                · exfalso; omega
                · refine w_bipush dX10_set_101 (by decide) ?_
                  exact w_iret dX10_set_103 rfl (by first | with_reducible rfl | omega | (split <;> omega)) rfl
            · exfalso; omega
      · exfalso; omega
set_option maxHeartbeats 4000000 in
set_option maxRecDepth 100000 in
theorem x_X10_set {l : Launch} {D : va_G} {cy : Nat → ClassId} {B N : Nat} {g : Nat → va_E} {la k : Nat} {c : List Co} {M : Int} {fr : Nat} {nx sz : Nat} {wh : Int → Int} {Rw : Nat → Int → Int} {j what x : Int} (ht0 : vTop cy B g 0 la) (hsa : vSA cy B g 62 ) (hw : vSW cy B g (63 + 26 * k) c M fr) (hp : vPast cy B g 50 wh Rw nx sz) (hN : 141 ≤ N) (hk : k < la ∧ la ≤ 3) (hM : M < 2147483648) (hc : cok c) (h2 : 2 ≤ c.length) (hx : nx < 6) (hs6 : sz ≤ 6) (h_j : -2147483648 ≤ j ∧ j < 2147483648) (h_what : -2147483648 ≤ what ∧ what < 2147483648) (h_x : -2147483648 ≤ x ∧ x < 2147483648) (hj : 0 ≤ j ∧ j < c.length) (hwh : what = 0 ∧ 0 ≤ x ∧ x ≤ coT c j ∧ ¬ coX c j = x) : CTi l yX10_set wsX10_set (rmo 2 63) D cy B N g [.ref (B + 0), .int (zI ((k : Nat) : Int)), .int (zI j), .int (zI what), .int (zI x)] (coX c j) (fun g' => ∃ Rn : Int → Int, vSW cy B g' (63 + 26 * k) (upX c j x) (M + 1) 0 ∧ vPast cy B g' 50 (uZ wh ((nx : Nat) : Int) ((k : Nat) : Int)) (uF Rw nx Rn) (if nx + 1 < 6 then nx + 1 else 0) (min (sz + 1) 6) ∧ (∀ j : Int, 0 ≤ j → j < 5 → Rn j = inA c.length (coX c) j ∧ Rn (5 + j) = inA c.length (coV c) j) ∧ (∀ q, ((q < 50 ∨ 59 ≤ q) ∧ (q < (63 + 26 * k) ∨ (63 + 26 * k) + 26 ≤ q)) → g' q = g q)) := by
  refine WW_of (cc := cX10_set) (maxL := 9) (ret := (some .int)) (own := RX10) (by decide) rfl rfl (Nat.le_of_ble_eq_true rfl) rfl ?_
  intro pp ee ss mm bl me co hmn
  have hfr_0 : ∀ q, ((q < 50 ∨ 59 ≤ q) ∧ (q < (63 + 26 * k) ∨ (63 + 26 * k) + 26 ≤ q)) → g q = g q := fun _ _ => rfl
  have hc5 := hc.1
  refine w_aload_n dX10_set_0 rfl 0 rfl ?_
  refine w_iload_n dX10_set_1 rfl 1 rfl ?_
  refine w_callq (As := [.int (zI ((k : Nat) : Int))]) (rest := []) (n := 1) (c_X10_find ht0 hsa (by first | omega | with_reducible rfl) (by first | omega | with_reducible rfl) (by first | omega | with_reducible rfl)) gX10_set_X10_find rfl rfl rfl (by decide +kernel) ⟨Nat.le_of_ble_eq_true rfl, Nat.le_of_ble_eq_true rfl⟩ rfl (by first | omega | with_reducible rfl) ht0 rfl (Nat.le_of_ble_eq_true rfl) ⟨Nat.zero_le _, Nat.zero_le _⟩ dX10_set_2 rfl (fun g_1 hp_2 => ?_)
  subst g_1
  refine w_as (st' := [.ref (B + (63 + 26 * k))]) (sc_q (by rw [if_pos (by omega), Int.toNat_natCast]) rfl) ?_
  refine w_astore [(5, .ref (B + (63 + 26 * k))), (0, .ref (B + 0)), (1, .int (zI ((k : Nat) : Int))), (2, .int (zI j)), (3, .int (zI what)), (4, .int (zI x))] dX10_set_5 (by decide) rfl ?_
  refine w_aload dX10_set_7 0 rfl ?_
  refine w_ifnull dX10_set_9 ?_
  refine w_aload dX10_set_12 0 rfl ?_
  refine w_get (i := 0) (T := TX7) (NF := 4) (63 + 26 * k) (by first | omega | with_reducible rfl) (vSW_str hw) rfl (fun _ h => (List.mem_cons_of_mem _ (List.mem_append_left _ (List.mem_append_left _ (List.mem_append_left _ (List.mem_append_right _ h)))))) (by decide) (List.mem_of_getElem? (i := 1) rfl) rfl dX10_set_14 ?_
  refine w_iload_n dX10_set_17 rfl 3 rfl ?_
  obtain ⟨fx_5, hfx_5⟩ := vSW_col hw
  refine w_calli (As := [.int (zI j)]) (rest := []) (n := 1) (w_X0_has hw (by first | omega | with_reducible rfl) (by first | omega | with_reducible rfl) (by first | omega | with_reducible rfl)) gX10_set_X0_has rfl rfl rfl (by decide +kernel) ⟨Nat.le_of_ble_eq_true rfl, Nat.le_of_ble_eq_true rfl⟩ rfl (by first | omega | with_reducible rfl) hfx_5 rfl (Nat.le_of_ble_eq_true rfl) ⟨Nat.zero_le _, Nat.zero_le _⟩ dX10_set_18 rfl (fun g_3 hp_4 => ?_)
  subst g_3
  refine w_ifeqB 33 dX10_set_21 (by decide) (fun c_21 => ?_) (fun c_21 => ?_)
  · exfalso; omega
  · refine w_iload_n dX10_set_24 rfl 4 rfl ?_
    refine w_if_lt 33 dX10_set_25 (by decide) (by first | omega | with_reducible rfl) (fun c_25 => ?_) (fun c_25 => ?_)
    · exfalso; omega
    · refine w_iload_n dX10_set_28 rfl 4 rfl ?_
      refine w_iconst dX10_set_29 ?_
      refine w_icmp_le 35 dX10_set_30 (by decide) (by first | omega | with_reducible rfl) (by first | omega | with_reducible rfl) (fun c_30 => ?_) (fun c_30 => ?_)
      · refine w_aload dX10_set_35 0 rfl ?_
        refine w_get (i := 0) (T := TX7) (NF := 4) (63 + 26 * k) (by first | omega | with_reducible rfl) (vSW_str hw) rfl (fun _ h => (List.mem_cons_of_mem _ (List.mem_append_left _ (List.mem_append_left _ (List.mem_append_left _ (List.mem_append_right _ h)))))) (by decide) (List.mem_of_getElem? (i := 1) rfl) rfl dX10_set_37 ?_
        refine w_astore [(6, .ref (B + ((63 + 26 * k) + 1))), (5, .ref (B + (63 + 26 * k))), (0, .ref (B + 0)), (1, .int (zI ((k : Nat) : Int))), (2, .int (zI j)), (3, .int (zI what)), (4, .int (zI x))] dX10_set_40 (by decide) rfl ?_
        refine w_iload_n dX10_set_42 rfl 5 rfl ?_
        refine w_if_ne 55 dX10_set_43 (by decide) (by first | omega | with_reducible rfl) (fun c_43 => ?_) (fun c_43 => ?_)
        · exfalso; omega
        · refine w_aload dX10_set_46 0 rfl ?_
          refine w_iload_n dX10_set_48 rfl 4 rfl ?_
          obtain ⟨fx_8, hfx_8⟩ := vSW_col hw
          refine w_calli (As := [.int (zI j)]) (rest := []) (n := 1) (w_X0_totalOf hw (by first | omega | with_reducible rfl) (by first | omega | with_reducible rfl) (by first | omega | with_reducible rfl)) gX10_set_X0_totalOf rfl rfl rfl (by decide +kernel) ⟨Nat.le_of_ble_eq_true rfl, Nat.le_of_ble_eq_true rfl⟩ rfl (by first | omega | with_reducible rfl) hfx_8 rfl (Nat.le_of_ble_eq_true rfl) ⟨Nat.zero_le _, Nat.zero_le _⟩ dX10_set_49 rfl (fun g_6 hp_7 => ?_)
          subst g_6
          have hcj := hc.2 j (by omega) (by omega)
          refine w_as (st' := [.int (zI (coT c j))]) (sc_i (inA_in (by omega)) rfl) ?_
          refine w_goto 57 dX10_set_52 (by decide) ?_
          refine w_istore [(7, .int (zI (coT c j))), (6, .ref (B + ((63 + 26 * k) + 1))), (5, .ref (B + (63 + 26 * k))), (0, .ref (B + 0)), (1, .int (zI ((k : Nat) : Int))), (2, .int (zI j)), (3, .int (zI what)), (4, .int (zI x))] dX10_set_57 (by decide) rfl ?_
          refine w_iload dX10_set_59 7 rfl ?_
          refine w_if_lt 71 dX10_set_61 (by decide) (by first | omega | with_reducible rfl) (fun c_61 => ?_) (fun c_61 => ?_)
          · exfalso; omega
          · refine w_iload dX10_set_64 7 rfl ?_
            refine w_iload dX10_set_66 0 rfl ?_
            refine w_icmp_le 73 dX10_set_68 (by decide) (by first | omega | with_reducible rfl) (by first | omega | with_reducible rfl) (fun c_68 => ?_) (fun c_68 => ?_)
            · refine w_iload_n dX10_set_73 rfl 6 rfl ?_
              refine w_if_ne 86 dX10_set_74 (by decide) (by first | omega | with_reducible rfl) (fun c_74 => ?_) (fun c_74 => ?_)
              · exfalso; omega
              · refine w_aload dX10_set_77 1 rfl ?_
                refine w_iload_n dX10_set_79 rfl 5 rfl ?_
                obtain ⟨fx_11, hfx_11⟩ := vSW_col hw
                refine w_calli (As := [.int (zI j)]) (rest := []) (n := 1) (w_X0_aboveOf hw (by first | omega | with_reducible rfl) (by first | omega | with_reducible rfl) (by first | omega | with_reducible rfl)) gX10_set_X0_aboveOf rfl rfl rfl (by decide +kernel) ⟨Nat.le_of_ble_eq_true rfl, Nat.le_of_ble_eq_true rfl⟩ rfl (by first | omega | with_reducible rfl) hfx_11 rfl (Nat.le_of_ble_eq_true rfl) ⟨Nat.zero_le _, Nat.zero_le _⟩ dX10_set_80 rfl (fun g_9 hp_10 => ?_)
                subst g_9
                have hcj2 := hc.2 j (by omega) (by omega)
                refine w_as (st' := [.int (zI (coX c j))]) (sc_i (inA_in (by omega)) rfl) ?_
                refine w_goto 92 dX10_set_83 (by decide) ?_
                refine w_istore [(8, .int (zI (coX c j))), (7, .int (zI (coT c j))), (6, .ref (B + ((63 + 26 * k) + 1))), (5, .ref (B + (63 + 26 * k))), (0, .ref (B + 0)), (1, .int (zI ((k : Nat) : Int))), (2, .int (zI j)), (3, .int (zI what)), (4, .int (zI x))] dX10_set_92 (by decide) rfl ?_
                refine w_iload dX10_set_94 0 rfl ?_
                refine w_iload dX10_set_96 8 rfl ?_
                refine w_icmp_ne 104 dX10_set_98 (by decide) (by first | omega | with_reducible rfl) (by first | omega | with_reducible rfl) (fun c_98 => ?_) (fun c_98 => ?_)
                · refine w_aload_n dX10_set_104 rfl 4 rfl ?_
                  refine w_get (i := 2) (T := TX10) (NF := 6) 0 (by first | omega | with_reducible rfl) ht0 rfl (fun _ h => (List.mem_cons_of_mem _ (List.mem_append_left _ (List.mem_append_left _ (List.mem_append_right _ h))))) (by decide) (List.mem_of_getElem? (i := 2) rfl) rfl dX10_set_105 ?_
                  refine w_iload_n dX10_set_108 rfl 5 rfl ?_
                  refine w_aload dX10_set_109 2 rfl ?_
                  refine w_callv (As := [.int (zI ((k : Nat) : Int)), .ref (B + ((63 + 26 * k) + 1))]) (rest := []) (n := 2) (w_X3_keep hp hw (by first | omega | with_reducible rfl) (by first | omega | with_reducible rfl) (by first | omega | with_reducible rfl) (by first | omega | with_reducible rfl) (by first | omega | with_reducible rfl) (by first | omega | with_reducible rfl)) gX10_set_X3_keep rfl rfl rfl (by decide +kernel) ⟨Nat.le_of_ble_eq_true rfl, Nat.le_of_ble_eq_true rfl⟩ rfl (by first | omega | with_reducible rfl) hp.1 rfl (Nat.le_of_ble_eq_true rfl) ⟨Nat.zero_le _, Nat.zero_le _⟩ dX10_set_111 rfl (fun g_12 hp_13 => ?_)
                  obtain ⟨Rn_14, hp_15, hRn_111, hf_16⟩ := hp_13
                  have ht0_17 : vTop cy B g_12 0 la := vTop_fr ht0 (fun q h1 h2 => hf_16 q (by omega))
                  have hsa_18 : vSA cy B g_12 62  := vSA_fr hsa (fun q h1 h2 => hf_16 q (by omega))
                  have hw_19 : vSW cy B g_12 (63 + 26 * k) c M fr := vSW_fr hw (fun q h1 h2 => hf_16 q (by omega))
                  have hfr_20 : ∀ q, ((q < 50 ∨ 59 ≤ q) ∧ (q < (63 + 26 * k) ∨ (63 + 26 * k) + 26 ≤ q)) → g_12 q = g q := fun q hq => (hf_16 q (by omega)).trans (hfr_0 q hq)
                  refine w_iload_n dX10_set_114 rfl 7 rfl ?_
                  refine w_if_ne 129 dX10_set_115 (by decide) (by first | omega | with_reducible rfl) (fun c_115 => ?_) (fun c_115 => ?_)
                  · exfalso; omega
                  · refine w_aload dX10_set_118 2 rfl ?_
                    refine w_iload_n dX10_set_120 rfl 6 rfl ?_
                    refine w_iload dX10_set_121 8 rfl ?_
                    obtain ⟨fx_23, hfx_23⟩ := vSW_col hw_19
                    refine w_callv (As := [.int (zI j), .int (zI x)]) (rest := []) (n := 2) (w_X0_tellAbove hw_19 (by first | omega | with_reducible rfl) (by first | omega | with_reducible rfl) (by first | omega | with_reducible rfl)) gX10_set_X0_tellAbove rfl rfl rfl (by decide +kernel) ⟨Nat.le_of_ble_eq_true rfl, Nat.le_of_ble_eq_true rfl⟩ rfl (by first | omega | with_reducible rfl) hfx_23 rfl (Nat.le_of_ble_eq_true rfl) ⟨Nat.zero_le _, Nat.zero_le _⟩ dX10_set_123 rfl (fun g_21 hp_22 => ?_)
                    obtain ⟨hw_24, hf_25⟩ := hp_22
                    have ht0_26 : vTop cy B g_21 0 la := vTop_fr ht0_17 (fun q h1 h2 => hf_25 q (by omega))
                    have hsa_27 : vSA cy B g_21 62  := vSA_fr hsa_18 (fun q h1 h2 => hf_25 q (by omega))
                    have hp_28 : vPast cy B g_21 50 (uZ wh ((nx : Nat) : Int) ((k : Nat) : Int)) (uF Rw nx Rn_14) (if nx + 1 < 6 then nx + 1 else 0) (min (sz + 1) 6) := vPast_fr hp_15 (fun q h1 h2 => hf_25 q (by omega))
                    have hfr_29 : ∀ q, ((q < 50 ∨ 59 ≤ q) ∧ (q < (63 + 26 * k) ∨ (63 + 26 * k) + 26 ≤ q)) → g_21 q = g q := fun q hq => (hf_25 q (by omega)).trans (hfr_20 q hq)
                    refine w_goto 137 dX10_set_126 (by decide) ?_
                    refine w_iload dX10_set_137 0 rfl ?_
                    exact w_iret dX10_set_139 rfl (by first | with_reducible rfl | omega | (split <;> omega)) ⟨Rn_14, hw_24, (by have h9 := hp_28; simpa using h9), (by first | omega | assumption), hfr_29⟩
                · exfalso; omega
            · exfalso; omega
      · exfalso; omega
set_option maxHeartbeats 4000000 in
set_option maxRecDepth 100000 in
theorem v_X10_set {l : Launch} {D : va_G} {cy : Nat → ClassId} {B N : Nat} {g : Nat → va_E} {la k : Nat} {c : List Co} {M : Int} {fr : Nat} {nx sz : Nat} {wh : Int → Int} {Rw : Nat → Int → Int} {j what x : Int} (ht0 : vTop cy B g 0 la) (hsa : vSA cy B g 62 ) (hw : vSW cy B g (63 + 26 * k) c M fr) (hp : vPast cy B g 50 wh Rw nx sz) (hN : 141 ≤ N) (hk : k < la ∧ la ≤ 3) (hM : M < 2147483648) (hc : cok c) (h2 : 2 ≤ c.length) (hx : nx < 6) (hs6 : sz ≤ 6) (h_j : -2147483648 ≤ j ∧ j < 2147483648) (h_what : -2147483648 ≤ what ∧ what < 2147483648) (h_x : -2147483648 ≤ x ∧ x < 2147483648) (hj : 0 ≤ j ∧ j < c.length) (hwh : what = 1 ∧ 0 ≤ x ∧ x ≤ 9 ∧ ¬ coV c j = x) : CTi l yX10_set wsX10_set (rmo 2 63) D cy B N g [.ref (B + 0), .int (zI ((k : Nat) : Int)), .int (zI j), .int (zI what), .int (zI x)] (coV c j) (fun g' => ∃ Rn : Int → Int, vSW cy B g' (63 + 26 * k) (upV c j x) (M + 1) 0 ∧ vPast cy B g' 50 (uZ wh ((nx : Nat) : Int) ((k : Nat) : Int)) (uF Rw nx Rn) (if nx + 1 < 6 then nx + 1 else 0) (min (sz + 1) 6) ∧ (∀ j : Int, 0 ≤ j → j < 5 → Rn j = inA c.length (coX c) j ∧ Rn (5 + j) = inA c.length (coV c) j) ∧ (∀ q, ((q < 50 ∨ 59 ≤ q) ∧ (q < (63 + 26 * k) ∨ (63 + 26 * k) + 26 ≤ q)) → g' q = g q)) := by
  refine WW_of (cc := cX10_set) (maxL := 9) (ret := (some .int)) (own := RX10) (by decide) rfl rfl (Nat.le_of_ble_eq_true rfl) rfl ?_
  intro pp ee ss mm bl me co hmn
  have hfr_0 : ∀ q, ((q < 50 ∨ 59 ≤ q) ∧ (q < (63 + 26 * k) ∨ (63 + 26 * k) + 26 ≤ q)) → g q = g q := fun _ _ => rfl
  have hc5 := hc.1
  refine w_aload_n dX10_set_0 rfl 0 rfl ?_
  refine w_iload_n dX10_set_1 rfl 1 rfl ?_
  refine w_callq (As := [.int (zI ((k : Nat) : Int))]) (rest := []) (n := 1) (c_X10_find ht0 hsa (by first | omega | with_reducible rfl) (by first | omega | with_reducible rfl) (by first | omega | with_reducible rfl)) gX10_set_X10_find rfl rfl rfl (by decide +kernel) ⟨Nat.le_of_ble_eq_true rfl, Nat.le_of_ble_eq_true rfl⟩ rfl (by first | omega | with_reducible rfl) ht0 rfl (Nat.le_of_ble_eq_true rfl) ⟨Nat.zero_le _, Nat.zero_le _⟩ dX10_set_2 rfl (fun g_1 hp_2 => ?_)
  subst g_1
  refine w_as (st' := [.ref (B + (63 + 26 * k))]) (sc_q (by rw [if_pos (by omega), Int.toNat_natCast]) rfl) ?_
  refine w_astore [(5, .ref (B + (63 + 26 * k))), (0, .ref (B + 0)), (1, .int (zI ((k : Nat) : Int))), (2, .int (zI j)), (3, .int (zI what)), (4, .int (zI x))] dX10_set_5 (by decide) rfl ?_
  refine w_aload dX10_set_7 0 rfl ?_
  refine w_ifnull dX10_set_9 ?_
  refine w_aload dX10_set_12 0 rfl ?_
  refine w_get (i := 0) (T := TX7) (NF := 4) (63 + 26 * k) (by first | omega | with_reducible rfl) (vSW_str hw) rfl (fun _ h => (List.mem_cons_of_mem _ (List.mem_append_left _ (List.mem_append_left _ (List.mem_append_left _ (List.mem_append_right _ h)))))) (by decide) (List.mem_of_getElem? (i := 1) rfl) rfl dX10_set_14 ?_
  refine w_iload_n dX10_set_17 rfl 3 rfl ?_
  obtain ⟨fx_5, hfx_5⟩ := vSW_col hw
  refine w_calli (As := [.int (zI j)]) (rest := []) (n := 1) (w_X0_has hw (by first | omega | with_reducible rfl) (by first | omega | with_reducible rfl) (by first | omega | with_reducible rfl)) gX10_set_X0_has rfl rfl rfl (by decide +kernel) ⟨Nat.le_of_ble_eq_true rfl, Nat.le_of_ble_eq_true rfl⟩ rfl (by first | omega | with_reducible rfl) hfx_5 rfl (Nat.le_of_ble_eq_true rfl) ⟨Nat.zero_le _, Nat.zero_le _⟩ dX10_set_18 rfl (fun g_3 hp_4 => ?_)
  subst g_3
  refine w_ifeqB 33 dX10_set_21 (by decide) (fun c_21 => ?_) (fun c_21 => ?_)
  · exfalso; omega
  · refine w_iload_n dX10_set_24 rfl 4 rfl ?_
    refine w_if_lt 33 dX10_set_25 (by decide) (by first | omega | with_reducible rfl) (fun c_25 => ?_) (fun c_25 => ?_)
    · exfalso; omega
    · refine w_iload_n dX10_set_28 rfl 4 rfl ?_
      refine w_iconst dX10_set_29 ?_
      refine w_icmp_le 35 dX10_set_30 (by decide) (by first | omega | with_reducible rfl) (by first | omega | with_reducible rfl) (fun c_30 => ?_) (fun c_30 => ?_)
      · refine w_aload dX10_set_35 0 rfl ?_
        refine w_get (i := 0) (T := TX7) (NF := 4) (63 + 26 * k) (by first | omega | with_reducible rfl) (vSW_str hw) rfl (fun _ h => (List.mem_cons_of_mem _ (List.mem_append_left _ (List.mem_append_left _ (List.mem_append_left _ (List.mem_append_right _ h)))))) (by decide) (List.mem_of_getElem? (i := 1) rfl) rfl dX10_set_37 ?_
        refine w_astore [(6, .ref (B + ((63 + 26 * k) + 1))), (5, .ref (B + (63 + 26 * k))), (0, .ref (B + 0)), (1, .int (zI ((k : Nat) : Int))), (2, .int (zI j)), (3, .int (zI what)), (4, .int (zI x))] dX10_set_40 (by decide) rfl ?_
        refine w_iload_n dX10_set_42 rfl 5 rfl ?_
        refine w_if_ne 55 dX10_set_43 (by decide) (by first | omega | with_reducible rfl) (fun c_43 => ?_) (fun c_43 => ?_)
        · refine w_bipush dX10_set_55 (by decide) ?_
          refine w_istore [(7, .int (zI 9)), (6, .ref (B + ((63 + 26 * k) + 1))), (5, .ref (B + (63 + 26 * k))), (0, .ref (B + 0)), (1, .int (zI ((k : Nat) : Int))), (2, .int (zI j)), (3, .int (zI what)), (4, .int (zI x))] dX10_set_57 (by decide) rfl ?_
          refine w_iload dX10_set_59 7 rfl ?_
          refine w_if_lt 71 dX10_set_61 (by decide) (by first | omega | with_reducible rfl) (fun c_61 => ?_) (fun c_61 => ?_)
          · exfalso; omega
          · refine w_iload dX10_set_64 7 rfl ?_
            refine w_iload dX10_set_66 0 rfl ?_
            refine w_icmp_le 73 dX10_set_68 (by decide) (by first | omega | with_reducible rfl) (by first | omega | with_reducible rfl) (fun c_68 => ?_) (fun c_68 => ?_)
            · refine w_iload_n dX10_set_73 rfl 6 rfl ?_
              refine w_if_ne 86 dX10_set_74 (by decide) (by first | omega | with_reducible rfl) (fun c_74 => ?_) (fun c_74 => ?_)
              · refine w_aload dX10_set_86 1 rfl ?_
                refine w_iload_n dX10_set_88 rfl 5 rfl ?_
                obtain ⟨fx_8, hfx_8⟩ := vSW_col hw
                refine w_calli (As := [.int (zI j)]) (rest := []) (n := 1) (w_X0_scoreOf hw (by first | omega | with_reducible rfl) (by first | omega | with_reducible rfl) (by first | omega | with_reducible rfl)) gX10_set_X0_scoreOf rfl rfl rfl (by decide +kernel) ⟨Nat.le_of_ble_eq_true rfl, Nat.le_of_ble_eq_true rfl⟩ rfl (by first | omega | with_reducible rfl) hfx_8 rfl (Nat.le_of_ble_eq_true rfl) ⟨Nat.zero_le _, Nat.zero_le _⟩ dX10_set_89 rfl (fun g_6 hp_7 => ?_)
                subst g_6
                have hcj3 := hc.2 j (by omega) (by omega)
                refine w_as (st' := [.int (zI (coV c j))]) (sc_i (inA_in (by omega)) rfl) ?_
                refine w_istore [(8, .int (zI (coV c j))), (7, .int (zI 9)), (6, .ref (B + ((63 + 26 * k) + 1))), (5, .ref (B + (63 + 26 * k))), (0, .ref (B + 0)), (1, .int (zI ((k : Nat) : Int))), (2, .int (zI j)), (3, .int (zI what)), (4, .int (zI x))] dX10_set_92 (by decide) rfl ?_
                refine w_iload dX10_set_94 0 rfl ?_
                refine w_iload dX10_set_96 8 rfl ?_
                refine w_icmp_ne 104 dX10_set_98 (by decide) (by first | omega | with_reducible rfl) (by first | omega | with_reducible rfl) (fun c_98 => ?_) (fun c_98 => ?_)
                · refine w_aload_n dX10_set_104 rfl 4 rfl ?_
                  refine w_get (i := 2) (T := TX10) (NF := 6) 0 (by first | omega | with_reducible rfl) ht0 rfl (fun _ h => (List.mem_cons_of_mem _ (List.mem_append_left _ (List.mem_append_left _ (List.mem_append_right _ h))))) (by decide) (List.mem_of_getElem? (i := 2) rfl) rfl dX10_set_105 ?_
                  refine w_iload_n dX10_set_108 rfl 5 rfl ?_
                  refine w_aload dX10_set_109 2 rfl ?_
                  refine w_callv (As := [.int (zI ((k : Nat) : Int)), .ref (B + ((63 + 26 * k) + 1))]) (rest := []) (n := 2) (w_X3_keep hp hw (by first | omega | with_reducible rfl) (by first | omega | with_reducible rfl) (by first | omega | with_reducible rfl) (by first | omega | with_reducible rfl) (by first | omega | with_reducible rfl) (by first | omega | with_reducible rfl)) gX10_set_X3_keep rfl rfl rfl (by decide +kernel) ⟨Nat.le_of_ble_eq_true rfl, Nat.le_of_ble_eq_true rfl⟩ rfl (by first | omega | with_reducible rfl) hp.1 rfl (Nat.le_of_ble_eq_true rfl) ⟨Nat.zero_le _, Nat.zero_le _⟩ dX10_set_111 rfl (fun g_9 hp_10 => ?_)
                  obtain ⟨Rn_11, hp_12, hRn_111, hf_13⟩ := hp_10
                  have ht0_14 : vTop cy B g_9 0 la := vTop_fr ht0 (fun q h1 h2 => hf_13 q (by omega))
                  have hsa_15 : vSA cy B g_9 62  := vSA_fr hsa (fun q h1 h2 => hf_13 q (by omega))
                  have hw_16 : vSW cy B g_9 (63 + 26 * k) c M fr := vSW_fr hw (fun q h1 h2 => hf_13 q (by omega))
                  have hfr_17 : ∀ q, ((q < 50 ∨ 59 ≤ q) ∧ (q < (63 + 26 * k) ∨ (63 + 26 * k) + 26 ≤ q)) → g_9 q = g q := fun q hq => (hf_13 q (by omega)).trans (hfr_0 q hq)
                  refine w_iload_n dX10_set_114 rfl 7 rfl ?_
                  refine w_if_ne 129 dX10_set_115 (by decide) (by first | omega | with_reducible rfl) (fun c_115 => ?_) (fun c_115 => ?_)
                  · refine w_aload dX10_set_129 2 rfl ?_
                    refine w_iload_n dX10_set_131 rfl 6 rfl ?_
                    refine w_iload dX10_set_132 8 rfl ?_
                    obtain ⟨fx_20, hfx_20⟩ := vSW_col hw_16
                    refine w_callv (As := [.int (zI j), .int (zI x)]) (rest := []) (n := 2) (w_X0_tellScore hw_16 (by first | omega | with_reducible rfl) (by first | omega | with_reducible rfl) (by first | omega | with_reducible rfl)) gX10_set_X0_tellScore rfl rfl rfl (by decide +kernel) ⟨Nat.le_of_ble_eq_true rfl, Nat.le_of_ble_eq_true rfl⟩ rfl (by first | omega | with_reducible rfl) hfx_20 rfl (Nat.le_of_ble_eq_true rfl) ⟨Nat.zero_le _, Nat.zero_le _⟩ dX10_set_134 rfl (fun g_18 hp_19 => ?_)
                    obtain ⟨hw_21, hf_22⟩ := hp_19
                    have ht0_23 : vTop cy B g_18 0 la := vTop_fr ht0_14 (fun q h1 h2 => hf_22 q (by omega))
                    have hsa_24 : vSA cy B g_18 62  := vSA_fr hsa_15 (fun q h1 h2 => hf_22 q (by omega))
                    have hp_25 : vPast cy B g_18 50 (uZ wh ((nx : Nat) : Int) ((k : Nat) : Int)) (uF Rw nx Rn_11) (if nx + 1 < 6 then nx + 1 else 0) (min (sz + 1) 6) := vPast_fr hp_12 (fun q h1 h2 => hf_22 q (by omega))
                    have hfr_26 : ∀ q, ((q < 50 ∨ 59 ≤ q) ∧ (q < (63 + 26 * k) ∨ (63 + 26 * k) + 26 ≤ q)) → g_18 q = g q := fun q hq => (hf_22 q (by omega)).trans (hfr_17 q hq)
                    refine w_iload dX10_set_137 0 rfl ?_
                    exact w_iret dX10_set_139 rfl (by first | with_reducible rfl | omega | (split <;> omega)) ⟨Rn_11, hw_21, (by have h9 := hp_25; simpa using h9), (by first | omega | assumption), hfr_26⟩
                  · exfalso; omega
                · exfalso; omega
              · exfalso; omega
            · exfalso; omega
        · exfalso; omega
      · exfalso; omega

set_option maxHeartbeats 4000000 in
set_option maxRecDepth 100000 in
theorem n_X10_move {l : Launch} {D : va_G} {cy : Nat → ClassId} {B N : Nat} {g : Nat → va_E} {la : Nat} {s a b : Int} (ht0 : vTop cy B g 0 la) (hsa : vSA cy B g 62 ) (hN : 141 ≤ N) (hla : la ≤ 3) (h_s : -2147483648 ≤ s ∧ s < 2147483648) (hs : ¬ (0 ≤ s ∧ s < la)) (h_a : -2147483648 ≤ a ∧ a < 2147483648) (h_b : -2147483648 ≤ b ∧ b < 2147483648) : CTi l yX10_move wsX10_move (rmo 2 63) D cy B N g [.ref (B + 0), .int (zI s), .int (zI a), .int (zI b)] (-1) (fun g' => g' = g) := by
  refine WW_of (cc := cX10_move) (maxL := 6) (ret := (some .int)) (own := RX10) (by decide) rfl rfl (Nat.le_of_ble_eq_true rfl) rfl ?_
  intro pp ee ss mm bl me co hmn
  refine w_aload_n dX10_move_0 rfl 0 rfl ?_
  refine w_iload_n dX10_move_1 rfl 1 rfl ?_
  refine w_callq (As := [.int (zI s)]) (rest := []) (n := 1) (c_X10_find ht0 hsa (by first | omega | with_reducible rfl) (by first | omega | with_reducible rfl) (by first | omega | with_reducible rfl)) gX10_move_X10_find rfl rfl rfl (by decide +kernel) ⟨Nat.le_of_ble_eq_true rfl, Nat.le_of_ble_eq_true rfl⟩ rfl (by first | omega | with_reducible rfl) ht0 rfl (Nat.le_of_ble_eq_true rfl) ⟨Nat.zero_le _, Nat.zero_le _⟩ dX10_move_2 rfl (fun g_1 hp_2 => ?_)
  subst g_1
  refine w_as (st' := [.null]) (sc_q0 (by rw [if_neg (by omega)]) rfl) ?_
  refine w_astoreN [(4, .null), (0, .ref (B + 0)), (1, .int (zI s)), (2, .int (zI a)), (3, .int (zI b))] dX10_move_5 (by decide) rfl ?_
  refine w_aloadN dX10_move_7 0 rfl ?_
  refine w_ifnullN 17 dX10_move_9 (by decide) ?_
  refine w_iconst dX10_move_17 ?_
  exact w_iret dX10_move_18 rfl (by first | with_reducible rfl | omega | (split <;> omega)) rfl
set_option maxHeartbeats 4000000 in
set_option maxRecDepth 100000 in
theorem b_X10_move {l : Launch} {D : va_G} {cy : Nat → ClassId} {B N : Nat} {g : Nat → va_E} {la k : Nat} {c : List Co} {M : Int} {fr : Nat} {nx sz : Nat} {wh : Int → Int} {Rw : Nat → Int → Int} {a b : Int} (ht0 : vTop cy B g 0 la) (hsa : vSA cy B g 62 ) (hw : vSW cy B g (63 + 26 * k) c M fr) (hp : vPast cy B g 50 wh Rw nx sz) (hN : 141 ≤ N) (hk : k < la ∧ la ≤ 3) (hM : M < 2147483648) (hc : cok c) (h2 : 2 ≤ c.length) (hx : nx < 6) (hs6 : sz ≤ 6) (h_a : -2147483648 ≤ a ∧ a < 2147483648) (h_b : -2147483648 ≤ b ∧ b < 2147483648) (hb : a = b ∨ ¬ (0 ≤ a ∧ a < c.length) ∨ ¬ (0 ≤ b ∧ b < c.length)) : CTi l yX10_move wsX10_move (rmo 2 63) D cy B N g [.ref (B + 0), .int (zI ((k : Nat) : Int)), .int (zI a), .int (zI b)] (-1) (fun g' => g' = g) := by
  refine WW_of (cc := cX10_move) (maxL := 6) (ret := (some .int)) (own := RX10) (by decide) rfl rfl (Nat.le_of_ble_eq_true rfl) rfl ?_
  intro pp ee ss mm bl me co hmn
  have hc5 := hc.1
  refine w_aload_n dX10_move_0 rfl 0 rfl ?_
  refine w_iload_n dX10_move_1 rfl 1 rfl ?_
  refine w_callq (As := [.int (zI ((k : Nat) : Int))]) (rest := []) (n := 1) (c_X10_find ht0 hsa (by first | omega | with_reducible rfl) (by first | omega | with_reducible rfl) (by first | omega | with_reducible rfl)) gX10_move_X10_find rfl rfl rfl (by decide +kernel) ⟨Nat.le_of_ble_eq_true rfl, Nat.le_of_ble_eq_true rfl⟩ rfl (by first | omega | with_reducible rfl) ht0 rfl (Nat.le_of_ble_eq_true rfl) ⟨Nat.zero_le _, Nat.zero_le _⟩ dX10_move_2 rfl (fun g_1 hp_2 => ?_)
  subst g_1
  refine w_as (st' := [.ref (B + (63 + 26 * k))]) (sc_q (by rw [if_pos (by omega), Int.toNat_natCast]) rfl) ?_
  refine w_astore [(4, .ref (B + (63 + 26 * k))), (0, .ref (B + 0)), (1, .int (zI ((k : Nat) : Int))), (2, .int (zI a)), (3, .int (zI b))] dX10_move_5 (by decide) rfl ?_
  refine w_aload dX10_move_7 0 rfl ?_
  refine w_ifnull dX10_move_9 ?_
  refine w_iload_n dX10_move_12 rfl 3 rfl ?_
  refine w_iload_n dX10_move_13 rfl 4 rfl ?_
  refine w_icmp_ne 19 dX10_move_14 (by decide) (by first | omega | with_reducible rfl) (by first | omega | with_reducible rfl) (fun c_14 => ?_) (fun c_14 => ?_)
  · refine w_aload dX10_move_19 0 rfl ?_
    refine w_get (i := 0) (T := TX7) (NF := 4) (63 + 26 * k) (by first | omega | with_reducible rfl) (vSW_str hw) rfl (fun _ h => (List.mem_cons_of_mem _ (List.mem_append_left _ (List.mem_append_left _ (List.mem_append_left _ (List.mem_append_right _ h)))))) (by decide) (List.mem_of_getElem? (i := 1) rfl) rfl dX10_move_21 ?_
    refine w_astore [(5, .ref (B + ((63 + 26 * k) + 1))), (4, .ref (B + (63 + 26 * k))), (0, .ref (B + 0)), (1, .int (zI ((k : Nat) : Int))), (2, .int (zI a)), (3, .int (zI b))] dX10_move_24 (by decide) rfl ?_
    refine w_aload dX10_move_26 0 rfl ?_
    refine w_iload_n dX10_move_28 rfl 4 rfl ?_
    obtain ⟨fx_5, hfx_5⟩ := vSW_col hw
    refine w_calli (As := [.int (zI a)]) (rest := []) (n := 1) (w_X0_has hw (by first | omega | with_reducible rfl) (by first | omega | with_reducible rfl) (by first | omega | with_reducible rfl)) gX10_move_X0_has rfl rfl rfl (by decide +kernel) ⟨Nat.le_of_ble_eq_true rfl, Nat.le_of_ble_eq_true rfl⟩ rfl (by first | omega | with_reducible rfl) hfx_5 rfl (Nat.le_of_ble_eq_true rfl) ⟨Nat.zero_le _, Nat.zero_le _⟩ dX10_move_29 rfl (fun g_3 hp_4 => ?_)
    subst g_3
    refine w_ifeqB 44 dX10_move_32 (by decide) (fun c_32 => ?_) (fun c_32 => ?_)
    · refine w_iconst dX10_move_44 ?_
      exact w_iret dX10_move_45 rfl (by first | with_reducible rfl | omega | (split <;> omega)) rfl
    · refine w_aload dX10_move_35 0 rfl ?_
      refine w_iload_n dX10_move_37 rfl 5 rfl ?_
      obtain ⟨fx_8, hfx_8⟩ := vSW_col hw
      refine w_calli (As := [.int (zI b)]) (rest := []) (n := 1) (w_X0_has hw (by first | omega | with_reducible rfl) (by first | omega | with_reducible rfl) (by first | omega | with_reducible rfl)) gX10_move_X0_has rfl rfl rfl (by decide +kernel) ⟨Nat.le_of_ble_eq_true rfl, Nat.le_of_ble_eq_true rfl⟩ rfl (by first | omega | with_reducible rfl) hfx_8 rfl (Nat.le_of_ble_eq_true rfl) ⟨Nat.zero_le _, Nat.zero_le _⟩ dX10_move_38 rfl (fun g_6 hp_7 => ?_)
      subst g_6
      refine w_ifneB 46 dX10_move_41 (by decide) (fun c_41 => ?_) (fun c_41 => ?_)
      · exfalso; omega
      · refine w_iconst dX10_move_44 ?_
        exact w_iret dX10_move_45 rfl (by first | with_reducible rfl | omega | (split <;> omega)) rfl
  · refine w_iconst dX10_move_17 ?_
    exact w_iret dX10_move_18 rfl (by first | with_reducible rfl | omega | (split <;> omega)) rfl
set_option maxHeartbeats 4000000 in
set_option maxRecDepth 100000 in
theorem s_X10_move {l : Launch} {D : va_G} {cy : Nat → ClassId} {B N : Nat} {g : Nat → va_E} {la k : Nat} {c : List Co} {M : Int} {fr : Nat} {nx sz : Nat} {wh : Int → Int} {Rw : Nat → Int → Int} {a b : Int} (ht0 : vTop cy B g 0 la) (hsa : vSA cy B g 62 ) (hw : vSW cy B g (63 + 26 * k) c M fr) (hp : vPast cy B g 50 wh Rw nx sz) (hN : 141 ≤ N) (hk : k < la ∧ la ≤ 3) (hM : M < 2147483648) (hc : cok c) (h2 : 2 ≤ c.length) (hx : nx < 6) (hs6 : sz ≤ 6) (h_a : -2147483648 ≤ a ∧ a < 2147483648) (h_b : -2147483648 ≤ b ∧ b < 2147483648) (ha : 0 ≤ a ∧ a < c.length) (hb : 0 ≤ b ∧ b < c.length) (hab : ¬ a = b) (hz : coX c a = 0 ∨ coX c b = coT c b) : CTi l yX10_move wsX10_move (rmo 2 63) D cy B N g [.ref (B + 0), .int (zI ((k : Nat) : Int)), .int (zI a), .int (zI b)] (-2) (fun g' => g' = g) := by
  refine WW_of (cc := cX10_move) (maxL := 6) (ret := (some .int)) (own := RX10) (by decide) rfl rfl (Nat.le_of_ble_eq_true rfl) rfl ?_
  intro pp ee ss mm bl me co hmn
  have hc5 := hc.1
  refine w_aload_n dX10_move_0 rfl 0 rfl ?_
  refine w_iload_n dX10_move_1 rfl 1 rfl ?_
  refine w_callq (As := [.int (zI ((k : Nat) : Int))]) (rest := []) (n := 1) (c_X10_find ht0 hsa (by first | omega | with_reducible rfl) (by first | omega | with_reducible rfl) (by first | omega | with_reducible rfl)) gX10_move_X10_find rfl rfl rfl (by decide +kernel) ⟨Nat.le_of_ble_eq_true rfl, Nat.le_of_ble_eq_true rfl⟩ rfl (by first | omega | with_reducible rfl) ht0 rfl (Nat.le_of_ble_eq_true rfl) ⟨Nat.zero_le _, Nat.zero_le _⟩ dX10_move_2 rfl (fun g_1 hp_2 => ?_)
  subst g_1
  refine w_as (st' := [.ref (B + (63 + 26 * k))]) (sc_q (by rw [if_pos (by omega), Int.toNat_natCast]) rfl) ?_
  refine w_astore [(4, .ref (B + (63 + 26 * k))), (0, .ref (B + 0)), (1, .int (zI ((k : Nat) : Int))), (2, .int (zI a)), (3, .int (zI b))] dX10_move_5 (by decide) rfl ?_
  refine w_aload dX10_move_7 0 rfl ?_
  refine w_ifnull dX10_move_9 ?_
  refine w_iload_n dX10_move_12 rfl 3 rfl ?_
  refine w_iload_n dX10_move_13 rfl 4 rfl ?_
  refine w_icmp_ne 19 dX10_move_14 (by decide) (by first | omega | with_reducible rfl) (by first | omega | with_reducible rfl) (fun c_14 => ?_) (fun c_14 => ?_)
  · refine w_aload dX10_move_19 0 rfl ?_
    refine w_get (i := 0) (T := TX7) (NF := 4) (63 + 26 * k) (by first | omega | with_reducible rfl) (vSW_str hw) rfl (fun _ h => (List.mem_cons_of_mem _ (List.mem_append_left _ (List.mem_append_left _ (List.mem_append_left _ (List.mem_append_right _ h)))))) (by decide) (List.mem_of_getElem? (i := 1) rfl) rfl dX10_move_21 ?_
    refine w_astore [(5, .ref (B + ((63 + 26 * k) + 1))), (4, .ref (B + (63 + 26 * k))), (0, .ref (B + 0)), (1, .int (zI ((k : Nat) : Int))), (2, .int (zI a)), (3, .int (zI b))] dX10_move_24 (by decide) rfl ?_
    refine w_aload dX10_move_26 0 rfl ?_
    refine w_iload_n dX10_move_28 rfl 4 rfl ?_
    obtain ⟨fx_5, hfx_5⟩ := vSW_col hw
    refine w_calli (As := [.int (zI a)]) (rest := []) (n := 1) (w_X0_has hw (by first | omega | with_reducible rfl) (by first | omega | with_reducible rfl) (by first | omega | with_reducible rfl)) gX10_move_X0_has rfl rfl rfl (by decide +kernel) ⟨Nat.le_of_ble_eq_true rfl, Nat.le_of_ble_eq_true rfl⟩ rfl (by first | omega | with_reducible rfl) hfx_5 rfl (Nat.le_of_ble_eq_true rfl) ⟨Nat.zero_le _, Nat.zero_le _⟩ dX10_move_29 rfl (fun g_3 hp_4 => ?_)
    subst g_3
    refine w_ifeqB 44 dX10_move_32 (by decide) (fun c_32 => ?_) (fun c_32 => ?_)
    · exfalso; omega
    · refine w_aload dX10_move_35 0 rfl ?_
      refine w_iload_n dX10_move_37 rfl 5 rfl ?_
      obtain ⟨fx_8, hfx_8⟩ := vSW_col hw
      refine w_calli (As := [.int (zI b)]) (rest := []) (n := 1) (w_X0_has hw (by first | omega | with_reducible rfl) (by first | omega | with_reducible rfl) (by first | omega | with_reducible rfl)) gX10_move_X0_has rfl rfl rfl (by decide +kernel) ⟨Nat.le_of_ble_eq_true rfl, Nat.le_of_ble_eq_true rfl⟩ rfl (by first | omega | with_reducible rfl) hfx_8 rfl (Nat.le_of_ble_eq_true rfl) ⟨Nat.zero_le _, Nat.zero_le _⟩ dX10_move_38 rfl (fun g_6 hp_7 => ?_)
      subst g_6
      refine w_ifneB 46 dX10_move_41 (by decide) (fun c_41 => ?_) (fun c_41 => ?_)
      · refine w_aload dX10_move_46 0 rfl ?_
        refine w_iload_n dX10_move_48 rfl 4 rfl ?_
        obtain ⟨fx_11, hfx_11⟩ := vSW_col hw
        refine w_calli (As := [.int (zI a)]) (rest := []) (n := 1) (w_X0_aboveOf hw (by first | omega | with_reducible rfl) (by first | omega | with_reducible rfl) (by first | omega | with_reducible rfl)) gX10_move_X0_aboveOf rfl rfl rfl (by decide +kernel) ⟨Nat.le_of_ble_eq_true rfl, Nat.le_of_ble_eq_true rfl⟩ rfl (by first | omega | with_reducible rfl) hfx_11 rfl (Nat.le_of_ble_eq_true rfl) ⟨Nat.zero_le _, Nat.zero_le _⟩ dX10_move_49 rfl (fun g_9 hp_10 => ?_)
        subst g_9
        have hca := hc.2 a (by omega) (by omega)
        have hcb := hc.2 b (by omega) (by omega)
        refine w_as (st' := [.int (zI (coX c a))]) (sc_i (inA_in (by omega)) rfl) ?_
        refine w_if_eq 70 dX10_move_52 (by decide) (by first | omega | with_reducible rfl) (fun c_52 => ?_) (fun c_52 => ?_)
        · refine w_bipush dX10_move_70 (by decide) ?_
          exact w_iret dX10_move_72 rfl (by first | with_reducible rfl | omega | (split <;> omega)) rfl
        · refine w_aload dX10_move_55 0 rfl ?_
          refine w_iload_n dX10_move_57 rfl 5 rfl ?_
          obtain ⟨fx_14, hfx_14⟩ := vSW_col hw
          refine w_calli (As := [.int (zI b)]) (rest := []) (n := 1) (w_X0_aboveOf hw (by first | omega | with_reducible rfl) (by first | omega | with_reducible rfl) (by first | omega | with_reducible rfl)) gX10_move_X0_aboveOf rfl rfl rfl (by decide +kernel) ⟨Nat.le_of_ble_eq_true rfl, Nat.le_of_ble_eq_true rfl⟩ rfl (by first | omega | with_reducible rfl) hfx_14 rfl (Nat.le_of_ble_eq_true rfl) ⟨Nat.zero_le _, Nat.zero_le _⟩ dX10_move_58 rfl (fun g_12 hp_13 => ?_)
          subst g_12
          refine w_as (st' := [.int (zI (coX c b))]) (sc_i (inA_in (by omega)) rfl) ?_
          refine w_aload dX10_move_61 0 rfl ?_
          refine w_iload_n dX10_move_63 rfl 5 rfl ?_
          obtain ⟨fx_17, hfx_17⟩ := vSW_col hw
          refine w_calli (As := [.int (zI b)]) (rest := [.int (zI (coX c b))]) (n := 1) (w_X0_totalOf hw (by first | omega | with_reducible rfl) (by first | omega | with_reducible rfl) (by first | omega | with_reducible rfl)) gX10_move_X0_totalOf rfl rfl rfl (by decide +kernel) ⟨Nat.le_of_ble_eq_true rfl, Nat.le_of_ble_eq_true rfl⟩ rfl (by first | omega | with_reducible rfl) hfx_17 rfl (Nat.le_of_ble_eq_true rfl) ⟨Nat.zero_le _, Nat.zero_le _⟩ dX10_move_64 rfl (fun g_15 hp_16 => ?_)
          subst g_15
          refine w_as (st' := [.int (zI (coT c b)), .int (zI (coX c b))]) (sc_i (inA_in (by omega)) rfl) ?_
          refine w_icmp_ne 73 dX10_move_67 (by decide) (by first | omega | with_reducible rfl) (by first | omega | with_reducible rfl) (fun c_67 => ?_) (fun c_67 => ?_)
          · exfalso; omega
          · refine w_bipush dX10_move_70 (by decide) ?_
            exact w_iret dX10_move_72 rfl (by first | with_reducible rfl | omega | (split <;> omega)) rfl
      · exfalso; omega
  · exfalso; omega
set_option maxHeartbeats 4000000 in
set_option maxRecDepth 100000 in
theorem y_X10_move {l : Launch} {D : va_G} {cy : Nat → ClassId} {B N : Nat} {g : Nat → va_E} {la k : Nat} {c : List Co} {M : Int} {fr : Nat} {nx sz : Nat} {wh : Int → Int} {Rw : Nat → Int → Int} {a b : Int} (ht0 : vTop cy B g 0 la) (hsa : vSA cy B g 62 ) (hw : vSW cy B g (63 + 26 * k) c M fr) (hp : vPast cy B g 50 wh Rw nx sz) (hN : 141 ≤ N) (hk : k < la ∧ la ≤ 3) (hM : M < 2147483648) (hc : cok c) (h2 : 2 ≤ c.length) (hx : nx < 6) (hs6 : sz ≤ 6) (h_a : -2147483648 ≤ a ∧ a < 2147483648) (h_b : -2147483648 ≤ b ∧ b < 2147483648) (ha : 0 ≤ a ∧ a < c.length) (hb : 0 ≤ b ∧ b < c.length) (hab : ¬ a = b) (hz : ¬ coX c a = 0 ∧ ¬ coX c b = coT c b) : CTi l yX10_move wsX10_move (rmo 2 63) D cy B N g [.ref (B + 0), .int (zI ((k : Nat) : Int)), .int (zI a), .int (zI b)] (coX c b + 1) (fun g' => ∃ Rn : Int → Int, vSW cy B g' (63 + 26 * k) (upX (upX c a (coX c a - 1)) b (coX c b + 1)) (M + 1 + 1) 0 ∧ vPast cy B g' 50 (uZ wh ((nx : Nat) : Int) ((k : Nat) : Int)) (uF Rw nx Rn) (if nx + 1 < 6 then nx + 1 else 0) (min (sz + 1) 6) ∧ (∀ j : Int, 0 ≤ j → j < 5 → Rn j = inA c.length (coX c) j ∧ Rn (5 + j) = inA c.length (coV c) j) ∧ (∀ q, ((q < 50 ∨ 59 ≤ q) ∧ (q < (63 + 26 * k) ∨ (63 + 26 * k) + 26 ≤ q)) → g' q = g q)) := by
  refine WW_of (cc := cX10_move) (maxL := 6) (ret := (some .int)) (own := RX10) (by decide) rfl rfl (Nat.le_of_ble_eq_true rfl) rfl ?_
  intro pp ee ss mm bl me co hmn
  have hfr_0 : ∀ q, ((q < 50 ∨ 59 ≤ q) ∧ (q < (63 + 26 * k) ∨ (63 + 26 * k) + 26 ≤ q)) → g q = g q := fun _ _ => rfl
  have hc5 := hc.1
  refine w_aload_n dX10_move_0 rfl 0 rfl ?_
  refine w_iload_n dX10_move_1 rfl 1 rfl ?_
  refine w_callq (As := [.int (zI ((k : Nat) : Int))]) (rest := []) (n := 1) (c_X10_find ht0 hsa (by first | omega | with_reducible rfl) (by first | omega | with_reducible rfl) (by first | omega | with_reducible rfl)) gX10_move_X10_find rfl rfl rfl (by decide +kernel) ⟨Nat.le_of_ble_eq_true rfl, Nat.le_of_ble_eq_true rfl⟩ rfl (by first | omega | with_reducible rfl) ht0 rfl (Nat.le_of_ble_eq_true rfl) ⟨Nat.zero_le _, Nat.zero_le _⟩ dX10_move_2 rfl (fun g_1 hp_2 => ?_)
  subst g_1
  refine w_as (st' := [.ref (B + (63 + 26 * k))]) (sc_q (by rw [if_pos (by omega), Int.toNat_natCast]) rfl) ?_
  refine w_astore [(4, .ref (B + (63 + 26 * k))), (0, .ref (B + 0)), (1, .int (zI ((k : Nat) : Int))), (2, .int (zI a)), (3, .int (zI b))] dX10_move_5 (by decide) rfl ?_
  refine w_aload dX10_move_7 0 rfl ?_
  refine w_ifnull dX10_move_9 ?_
  refine w_iload_n dX10_move_12 rfl 3 rfl ?_
  refine w_iload_n dX10_move_13 rfl 4 rfl ?_
  refine w_icmp_ne 19 dX10_move_14 (by decide) (by first | omega | with_reducible rfl) (by first | omega | with_reducible rfl) (fun c_14 => ?_) (fun c_14 => ?_)
  · refine w_aload dX10_move_19 0 rfl ?_
    refine w_get (i := 0) (T := TX7) (NF := 4) (63 + 26 * k) (by first | omega | with_reducible rfl) (vSW_str hw) rfl (fun _ h => (List.mem_cons_of_mem _ (List.mem_append_left _ (List.mem_append_left _ (List.mem_append_left _ (List.mem_append_right _ h)))))) (by decide) (List.mem_of_getElem? (i := 1) rfl) rfl dX10_move_21 ?_
    refine w_astore [(5, .ref (B + ((63 + 26 * k) + 1))), (4, .ref (B + (63 + 26 * k))), (0, .ref (B + 0)), (1, .int (zI ((k : Nat) : Int))), (2, .int (zI a)), (3, .int (zI b))] dX10_move_24 (by decide) rfl ?_
    refine w_aload dX10_move_26 0 rfl ?_
    refine w_iload_n dX10_move_28 rfl 4 rfl ?_
    obtain ⟨fx_5, hfx_5⟩ := vSW_col hw
    refine w_calli (As := [.int (zI a)]) (rest := []) (n := 1) (w_X0_has hw (by first | omega | with_reducible rfl) (by first | omega | with_reducible rfl) (by first | omega | with_reducible rfl)) gX10_move_X0_has rfl rfl rfl (by decide +kernel) ⟨Nat.le_of_ble_eq_true rfl, Nat.le_of_ble_eq_true rfl⟩ rfl (by first | omega | with_reducible rfl) hfx_5 rfl (Nat.le_of_ble_eq_true rfl) ⟨Nat.zero_le _, Nat.zero_le _⟩ dX10_move_29 rfl (fun g_3 hp_4 => ?_)
    subst g_3
    refine w_ifeqB 44 dX10_move_32 (by decide) (fun c_32 => ?_) (fun c_32 => ?_)
    · exfalso; omega
    · refine w_aload dX10_move_35 0 rfl ?_
      refine w_iload_n dX10_move_37 rfl 5 rfl ?_
      obtain ⟨fx_8, hfx_8⟩ := vSW_col hw
      refine w_calli (As := [.int (zI b)]) (rest := []) (n := 1) (w_X0_has hw (by first | omega | with_reducible rfl) (by first | omega | with_reducible rfl) (by first | omega | with_reducible rfl)) gX10_move_X0_has rfl rfl rfl (by decide +kernel) ⟨Nat.le_of_ble_eq_true rfl, Nat.le_of_ble_eq_true rfl⟩ rfl (by first | omega | with_reducible rfl) hfx_8 rfl (Nat.le_of_ble_eq_true rfl) ⟨Nat.zero_le _, Nat.zero_le _⟩ dX10_move_38 rfl (fun g_6 hp_7 => ?_)
      subst g_6
      refine w_ifneB 46 dX10_move_41 (by decide) (fun c_41 => ?_) (fun c_41 => ?_)
      · refine w_aload dX10_move_46 0 rfl ?_
        refine w_iload_n dX10_move_48 rfl 4 rfl ?_
        obtain ⟨fx_11, hfx_11⟩ := vSW_col hw
        refine w_calli (As := [.int (zI a)]) (rest := []) (n := 1) (w_X0_aboveOf hw (by first | omega | with_reducible rfl) (by first | omega | with_reducible rfl) (by first | omega | with_reducible rfl)) gX10_move_X0_aboveOf rfl rfl rfl (by decide +kernel) ⟨Nat.le_of_ble_eq_true rfl, Nat.le_of_ble_eq_true rfl⟩ rfl (by first | omega | with_reducible rfl) hfx_11 rfl (Nat.le_of_ble_eq_true rfl) ⟨Nat.zero_le _, Nat.zero_le _⟩ dX10_move_49 rfl (fun g_9 hp_10 => ?_)
        subst g_9
        have hca := hc.2 a (by omega) (by omega)
        have hcb := hc.2 b (by omega) (by omega)
        refine w_as (st' := [.int (zI (coX c a))]) (sc_i (inA_in (by omega)) rfl) ?_
        refine w_if_eq 70 dX10_move_52 (by decide) (by first | omega | with_reducible rfl) (fun c_52 => ?_) (fun c_52 => ?_)
        · exfalso; omega
        · refine w_aload dX10_move_55 0 rfl ?_
          refine w_iload_n dX10_move_57 rfl 5 rfl ?_
          obtain ⟨fx_14, hfx_14⟩ := vSW_col hw
          refine w_calli (As := [.int (zI b)]) (rest := []) (n := 1) (w_X0_aboveOf hw (by first | omega | with_reducible rfl) (by first | omega | with_reducible rfl) (by first | omega | with_reducible rfl)) gX10_move_X0_aboveOf rfl rfl rfl (by decide +kernel) ⟨Nat.le_of_ble_eq_true rfl, Nat.le_of_ble_eq_true rfl⟩ rfl (by first | omega | with_reducible rfl) hfx_14 rfl (Nat.le_of_ble_eq_true rfl) ⟨Nat.zero_le _, Nat.zero_le _⟩ dX10_move_58 rfl (fun g_12 hp_13 => ?_)
          subst g_12
          refine w_as (st' := [.int (zI (coX c b))]) (sc_i (inA_in (by omega)) rfl) ?_
          refine w_aload dX10_move_61 0 rfl ?_
          refine w_iload_n dX10_move_63 rfl 5 rfl ?_
          obtain ⟨fx_17, hfx_17⟩ := vSW_col hw
          refine w_calli (As := [.int (zI b)]) (rest := [.int (zI (coX c b))]) (n := 1) (w_X0_totalOf hw (by first | omega | with_reducible rfl) (by first | omega | with_reducible rfl) (by first | omega | with_reducible rfl)) gX10_move_X0_totalOf rfl rfl rfl (by decide +kernel) ⟨Nat.le_of_ble_eq_true rfl, Nat.le_of_ble_eq_true rfl⟩ rfl (by first | omega | with_reducible rfl) hfx_17 rfl (Nat.le_of_ble_eq_true rfl) ⟨Nat.zero_le _, Nat.zero_le _⟩ dX10_move_64 rfl (fun g_15 hp_16 => ?_)
          subst g_15
          refine w_as (st' := [.int (zI (coT c b)), .int (zI (coX c b))]) (sc_i (inA_in (by omega)) rfl) ?_
          refine w_icmp_ne 73 dX10_move_67 (by decide) (by first | omega | with_reducible rfl) (by first | omega | with_reducible rfl) (fun c_67 => ?_) (fun c_67 => ?_)
          · refine w_aload_n dX10_move_73 rfl 2 rfl ?_
            refine w_get (i := 2) (T := TX10) (NF := 6) 0 (by first | omega | with_reducible rfl) ht0 rfl (fun _ h => (List.mem_cons_of_mem _ (List.mem_append_left _ (List.mem_append_left _ (List.mem_append_right _ h))))) (by decide) (List.mem_of_getElem? (i := 2) rfl) rfl dX10_move_74 ?_
            refine w_iload_n dX10_move_77 rfl 3 rfl ?_
            refine w_aload dX10_move_78 0 rfl ?_
            refine w_callv (As := [.int (zI ((k : Nat) : Int)), .ref (B + ((63 + 26 * k) + 1))]) (rest := []) (n := 2) (w_X3_keep hp hw (by first | omega | with_reducible rfl) (by first | omega | with_reducible rfl) (by first | omega | with_reducible rfl) (by first | omega | with_reducible rfl) (by first | omega | with_reducible rfl) (by first | omega | with_reducible rfl)) gX10_move_X3_keep rfl rfl rfl (by decide +kernel) ⟨Nat.le_of_ble_eq_true rfl, Nat.le_of_ble_eq_true rfl⟩ rfl (by first | omega | with_reducible rfl) hp.1 rfl (Nat.le_of_ble_eq_true rfl) ⟨Nat.zero_le _, Nat.zero_le _⟩ dX10_move_80 rfl (fun g_18 hp_19 => ?_)
            obtain ⟨Rn_20, hp_21, hRn_80, hf_22⟩ := hp_19
            have ht0_23 : vTop cy B g_18 0 la := vTop_fr ht0 (fun q h1 h2 => hf_22 q (by omega))
            have hsa_24 : vSA cy B g_18 62  := vSA_fr hsa (fun q h1 h2 => hf_22 q (by omega))
            have hw_25 : vSW cy B g_18 (63 + 26 * k) c M fr := vSW_fr hw (fun q h1 h2 => hf_22 q (by omega))
            have hfr_26 : ∀ q, ((q < 50 ∨ 59 ≤ q) ∧ (q < (63 + 26 * k) ∨ (63 + 26 * k) + 26 ≤ q)) → g_18 q = g q := fun q hq => (hf_22 q (by omega)).trans (hfr_0 q hq)
            refine w_aload dX10_move_83 0 rfl ?_
            refine w_iload_n dX10_move_85 rfl 4 rfl ?_
            refine w_aload dX10_move_86 0 rfl ?_
            refine w_iload_n dX10_move_88 rfl 4 rfl ?_
            obtain ⟨fx_29, hfx_29⟩ := vSW_col hw_25
            refine w_calli (As := [.int (zI a)]) (rest := [.int (zI a), .ref (B + ((63 + 26 * k) + 1))]) (n := 1) (w_X0_aboveOf hw_25 (by first | omega | with_reducible rfl) (by first | omega | with_reducible rfl) (by first | omega | with_reducible rfl)) gX10_move_X0_aboveOf rfl rfl rfl (by decide +kernel) ⟨Nat.le_of_ble_eq_true rfl, Nat.le_of_ble_eq_true rfl⟩ rfl (by first | omega | with_reducible rfl) hfx_29 rfl (Nat.le_of_ble_eq_true rfl) ⟨Nat.zero_le _, Nat.zero_le _⟩ dX10_move_89 rfl (fun g_27 hp_28 => ?_)
            subst g_27
            refine w_as (st' := [.int (zI (coX c a)), .int (zI a), .ref (B + ((63 + 26 * k) + 1))]) (sc_i (inA_in (by omega)) rfl) ?_
            refine w_iconst dX10_move_92 ?_
            refine w_isub dX10_move_93 ?_
            obtain ⟨fx_32, hfx_32⟩ := vSW_col hw_25
            refine w_callv (As := [.int (zI a), .int (zI ((coX c a) - 1))]) (rest := []) (n := 2) (w_X0_tellAbove hw_25 (by first | omega | with_reducible rfl) (by first | omega | with_reducible rfl) (by first | omega | with_reducible rfl)) gX10_move_X0_tellAbove rfl rfl rfl (by decide +kernel) ⟨Nat.le_of_ble_eq_true rfl, Nat.le_of_ble_eq_true rfl⟩ rfl (by first | omega | with_reducible rfl) hfx_32 rfl (Nat.le_of_ble_eq_true rfl) ⟨Nat.zero_le _, Nat.zero_le _⟩ dX10_move_94 rfl (fun g_30 hp_31 => ?_)
            obtain ⟨hw_33, hf_34⟩ := hp_31
            have ht0_35 : vTop cy B g_30 0 la := vTop_fr ht0_23 (fun q h1 h2 => hf_34 q (by omega))
            have hsa_36 : vSA cy B g_30 62  := vSA_fr hsa_24 (fun q h1 h2 => hf_34 q (by omega))
            have hp_37 : vPast cy B g_30 50 (uZ wh ((nx : Nat) : Int) ((k : Nat) : Int)) (uF Rw nx Rn_20) (if nx + 1 < 6 then nx + 1 else 0) (min (sz + 1) 6) := vPast_fr hp_21 (fun q h1 h2 => hf_34 q (by omega))
            have hfr_38 : ∀ q, ((q < 50 ∨ 59 ≤ q) ∧ (q < (63 + 26 * k) ∨ (63 + 26 * k) + 26 ≤ q)) → g_30 q = g q := fun q hq => (hf_34 q (by omega)).trans (hfr_26 q hq)
            refine w_aload dX10_move_97 0 rfl ?_
            refine w_iload_n dX10_move_99 rfl 5 rfl ?_
            refine w_aload dX10_move_100 0 rfl ?_
            refine w_iload_n dX10_move_102 rfl 5 rfl ?_
            obtain ⟨fx_41, hfx_41⟩ := vSW_col hw_33
            refine w_calli (As := [.int (zI b)]) (rest := [.int (zI b), .ref (B + ((63 + 26 * k) + 1))]) (n := 1) (w_X0_aboveOf hw_33 (by first | omega | with_reducible rfl) (by rw [upX_len]; exact hc5) (by first | omega | with_reducible rfl)) gX10_move_X0_aboveOf rfl rfl rfl (by decide +kernel) ⟨Nat.le_of_ble_eq_true rfl, Nat.le_of_ble_eq_true rfl⟩ rfl (by first | omega | with_reducible rfl) hfx_41 rfl (Nat.le_of_ble_eq_true rfl) ⟨Nat.zero_le _, Nat.zero_le _⟩ dX10_move_103 rfl (fun g_39 hp_40 => ?_)
            subst g_39
            have hux := upX_at (c := c) (j := a) (x := coX c a - 1) (by omega)
            have hXb : inA (upX c a (coX c a - 1)).length (coX (upX c a (coX c a - 1))) b = coX c b := by rw [inA_in (by rw [upX_len]; omega), (hux b (by omega)).2.1, if_neg (by omega)]
            refine w_as (st' := [.int (zI (coX c b)), .int (zI b), .ref (B + ((63 + 26 * k) + 1))]) (sc_i hXb rfl) ?_
            refine w_iconst dX10_move_106 ?_
            refine w_iadd dX10_move_107 ?_
            obtain ⟨fx_44, hfx_44⟩ := vSW_col hw_33
            refine w_callv (As := [.int (zI b), .int (zI ((coX c b) + 1))]) (rest := []) (n := 2) (w_X0_tellAbove hw_33 (by first | omega | with_reducible rfl) (by rw [upX_len]; exact hc5) (by rw [upX_len]; omega)) gX10_move_X0_tellAbove rfl rfl rfl (by decide +kernel) ⟨Nat.le_of_ble_eq_true rfl, Nat.le_of_ble_eq_true rfl⟩ rfl (by first | omega | with_reducible rfl) hfx_44 rfl (Nat.le_of_ble_eq_true rfl) ⟨Nat.zero_le _, Nat.zero_le _⟩ dX10_move_108 rfl (fun g_42 hp_43 => ?_)
            obtain ⟨hw_45, hf_46⟩ := hp_43
            have ht0_47 : vTop cy B g_42 0 la := vTop_fr ht0_35 (fun q h1 h2 => hf_46 q (by omega))
            have hsa_48 : vSA cy B g_42 62  := vSA_fr hsa_36 (fun q h1 h2 => hf_46 q (by omega))
            have hp_49 : vPast cy B g_42 50 (uZ wh ((nx : Nat) : Int) ((k : Nat) : Int)) (uF Rw nx Rn_20) (if nx + 1 < 6 then nx + 1 else 0) (min (sz + 1) 6) := vPast_fr hp_37 (fun q h1 h2 => hf_46 q (by omega))
            have hfr_50 : ∀ q, ((q < 50 ∨ 59 ≤ q) ∧ (q < (63 + 26 * k) ∨ (63 + 26 * k) + 26 ≤ q)) → g_42 q = g q := fun q hq => (hf_46 q (by omega)).trans (hfr_38 q hq)
            refine w_aload dX10_move_111 0 rfl ?_
            refine w_iload_n dX10_move_113 rfl 5 rfl ?_
            obtain ⟨fx_53, hfx_53⟩ := vSW_col hw_45
            refine w_calli (As := [.int (zI b)]) (rest := []) (n := 1) (w_X0_aboveOf hw_45 (by first | omega | with_reducible rfl) (by rw [upX_len, upX_len]; exact hc5) (by first | omega | with_reducible rfl)) gX10_move_X0_aboveOf rfl rfl rfl (by decide +kernel) ⟨Nat.le_of_ble_eq_true rfl, Nat.le_of_ble_eq_true rfl⟩ rfl (by first | omega | with_reducible rfl) hfx_53 rfl (Nat.le_of_ble_eq_true rfl) ⟨Nat.zero_le _, Nat.zero_le _⟩ dX10_move_114 rfl (fun g_51 hp_52 => ?_)
            subst g_51
            exact w_iret dX10_move_117 rfl (by rw [inA_in (by rw [upX_len, upX_len]; omega), (upX_at (c := upX c a (coX c a - 1)) (j := b) (by rw [upX_len]; omega) b (by omega)).2.1, if_pos rfl]) ⟨Rn_20, (by have h9 := hw_45; simpa using h9), (by have h9 := hp_49; simpa using h9), (by first | omega | assumption), hfr_50⟩
          · exfalso; omega
      · exfalso; omega
  · exfalso; omega

set_option maxHeartbeats 4000000 in
set_option maxRecDepth 100000 in
theorem n_X10_turn {l : Launch} {D : va_G} {cy : Nat → ClassId} {B N : Nat} {g : Nat → va_E} {la : Nat} {s : Int} (ht0 : vTop cy B g 0 la) (hsa : vSA cy B g 62 ) (hN : 141 ≤ N) (hla : la ≤ 3) (h_s : -2147483648 ≤ s ∧ s < 2147483648) (hs : ¬ (0 ≤ s ∧ s < la)) : CTi l yX10_turn wsX10_turn (rmo 2 63) D cy B N g [.ref (B + 0), .int (zI s)] (-1) (fun g' => g' = g) := by
  refine WW_of (cc := cX10_turn) (maxL := 5) (ret := (some .int)) (own := RX10) (by decide) rfl rfl (Nat.le_of_ble_eq_true rfl) rfl ?_
  intro pp ee ss mm bl me co hmn
  refine w_aload_n dX10_turn_0 rfl 0 rfl ?_
  refine w_iload_n dX10_turn_1 rfl 1 rfl ?_
  refine w_callq (As := [.int (zI s)]) (rest := []) (n := 1) (c_X10_find ht0 hsa (by first | omega | with_reducible rfl) (by first | omega | with_reducible rfl) (by first | omega | with_reducible rfl)) gX10_turn_X10_find rfl rfl rfl (by decide +kernel) ⟨Nat.le_of_ble_eq_true rfl, Nat.le_of_ble_eq_true rfl⟩ rfl (by first | omega | with_reducible rfl) ht0 rfl (Nat.le_of_ble_eq_true rfl) ⟨Nat.zero_le _, Nat.zero_le _⟩ dX10_turn_2 rfl (fun g_1 hp_2 => ?_)
  subst g_1
  refine w_as (st' := [.null]) (sc_q0 (by rw [if_neg (by omega)]) rfl) ?_
  refine w_astore_nN [(2, .null), (0, .ref (B + 0)), (1, .int (zI s))] dX10_turn_5 rfl (by decide) rfl ?_
  refine w_aload_nN dX10_turn_6 rfl 0 rfl ?_
  refine w_ifnonnullN dX10_turn_7 ?_
  refine w_iconst dX10_turn_10 ?_
  exact w_iret dX10_turn_11 rfl (by first | with_reducible rfl | omega | (split <;> omega)) rfl
set_option maxHeartbeats 4000000 in
set_option maxRecDepth 100000 in
theorem y_X10_turn {l : Launch} {D : va_G} {cy : Nat → ClassId} {B N : Nat} {g : Nat → va_E} {la k : Nat} {c : List Co} {M : Int} {fr : Nat} {nx sz : Nat} {wh : Int → Int} {Rw : Nat → Int → Int} (ht0 : vTop cy B g 0 la) (hsa : vSA cy B g 62 ) (hw : vSW cy B g (63 + 26 * k) c M fr) (hp : vPast cy B g 50 wh Rw nx sz) (hN : 141 ≤ N) (hk : k < la ∧ la ≤ 3) (hM : M < 2147483648) (hc : cok c) (h2 : 2 ≤ c.length) (hx : nx < 6) (hs6 : sz ≤ 6) : CTi l yX10_turn wsX10_turn (rmo 2 63) D cy B N g [.ref (B + 0), .int (zI ((k : Nat) : Int))] ((coR (trn c c.length) : Nat) : Int) (fun g' => ∃ Rn : Int → Int, vSW cy B g' (63 + 26 * k) (trn c c.length) (M + ((c.length : Nat) : Int)) 0 ∧ vPast cy B g' 50 (uZ wh ((nx : Nat) : Int) ((k : Nat) : Int)) (uF Rw nx Rn) (if nx + 1 < 6 then nx + 1 else 0) (min (sz + 1) 6) ∧ (∀ j : Int, 0 ≤ j → j < 5 → Rn j = inA c.length (coX c) j ∧ Rn (5 + j) = inA c.length (coV c) j) ∧ (∀ q, ((q < 50 ∨ 59 ≤ q) ∧ (q < (63 + 26 * k) ∨ (63 + 26 * k) + 26 ≤ q)) → g' q = g q)) := by
  refine WW_of (cc := cX10_turn) (maxL := 5) (ret := (some .int)) (own := RX10) (by decide) rfl rfl (Nat.le_of_ble_eq_true rfl) rfl ?_
  intro pp ee ss mm bl me co hmn
  have hfr_0 : ∀ q, ((q < 50 ∨ 59 ≤ q) ∧ (q < (63 + 26 * k) ∨ (63 + 26 * k) + 26 ≤ q)) → g q = g q := fun _ _ => rfl
  have hc5 := hc.1
  refine w_aload_n dX10_turn_0 rfl 0 rfl ?_
  refine w_iload_n dX10_turn_1 rfl 1 rfl ?_
  refine w_callq (As := [.int (zI ((k : Nat) : Int))]) (rest := []) (n := 1) (c_X10_find ht0 hsa (by first | omega | with_reducible rfl) (by first | omega | with_reducible rfl) (by first | omega | with_reducible rfl)) gX10_turn_X10_find rfl rfl rfl (by decide +kernel) ⟨Nat.le_of_ble_eq_true rfl, Nat.le_of_ble_eq_true rfl⟩ rfl (by first | omega | with_reducible rfl) ht0 rfl (Nat.le_of_ble_eq_true rfl) ⟨Nat.zero_le _, Nat.zero_le _⟩ dX10_turn_2 rfl (fun g_1 hp_2 => ?_)
  subst g_1
  refine w_as (st' := [.ref (B + (63 + 26 * k))]) (sc_q (by rw [if_pos (by omega), Int.toNat_natCast]) rfl) ?_
  refine w_astore_n [(2, .ref (B + (63 + 26 * k))), (0, .ref (B + 0)), (1, .int (zI ((k : Nat) : Int)))] dX10_turn_5 rfl (by decide) rfl ?_
  refine w_aload_n dX10_turn_6 rfl 0 rfl ?_
  refine w_ifnonnull 12 dX10_turn_7 (by decide) ?_
  refine w_aload_n dX10_turn_12 rfl 0 rfl ?_
  refine w_get (i := 0) (T := TX7) (NF := 4) (63 + 26 * k) (by first | omega | with_reducible rfl) (vSW_str hw) rfl (fun _ h => (List.mem_cons_of_mem _ (List.mem_append_left _ (List.mem_append_left _ (List.mem_append_left _ (List.mem_append_right _ h)))))) (by decide) (List.mem_of_getElem? (i := 1) rfl) rfl dX10_turn_13 ?_
  refine w_astore_n [(3, .ref (B + ((63 + 26 * k) + 1))), (2, .ref (B + (63 + 26 * k))), (0, .ref (B + 0)), (1, .int (zI ((k : Nat) : Int)))] dX10_turn_16 rfl (by decide) rfl ?_
  refine w_aload_n dX10_turn_17 rfl 2 rfl ?_
  refine w_get (i := 2) (T := TX10) (NF := 6) 0 (by first | omega | with_reducible rfl) ht0 rfl (fun _ h => (List.mem_cons_of_mem _ (List.mem_append_left _ (List.mem_append_left _ (List.mem_append_right _ h))))) (by decide) (List.mem_of_getElem? (i := 2) rfl) rfl dX10_turn_18 ?_
  refine w_iload_n dX10_turn_21 rfl 3 rfl ?_
  refine w_aload_n dX10_turn_22 rfl 0 rfl ?_
  refine w_callv (As := [.int (zI ((k : Nat) : Int)), .ref (B + ((63 + 26 * k) + 1))]) (rest := []) (n := 2) (w_X3_keep hp hw (by first | omega | with_reducible rfl) (by first | omega | with_reducible rfl) (by first | omega | with_reducible rfl) (by first | omega | with_reducible rfl) (by first | omega | with_reducible rfl) (by first | omega | with_reducible rfl)) gX10_turn_X3_keep rfl rfl rfl (by decide +kernel) ⟨Nat.le_of_ble_eq_true rfl, Nat.le_of_ble_eq_true rfl⟩ rfl (by first | omega | with_reducible rfl) hp.1 rfl (Nat.le_of_ble_eq_true rfl) ⟨Nat.zero_le _, Nat.zero_le _⟩ dX10_turn_23 rfl (fun g_3 hp_4 => ?_)
  obtain ⟨Rn_5, hp_6, hRn_23, hf_7⟩ := hp_4
  have ht0_8 : vTop cy B g_3 0 la := vTop_fr ht0 (fun q h1 h2 => hf_7 q (by omega))
  have hsa_9 : vSA cy B g_3 62  := vSA_fr hsa (fun q h1 h2 => hf_7 q (by omega))
  have hw_10 : vSW cy B g_3 (63 + 26 * k) c M fr := vSW_fr hw (fun q h1 h2 => hf_7 q (by omega))
  have hfr_11 : ∀ q, ((q < 50 ∨ 59 ≤ q) ∧ (q < (63 + 26 * k) ∨ (63 + 26 * k) + 26 ≤ q)) → g_3 q = g q := fun q hq => (hf_7 q (by omega)).trans (hfr_0 q hq)
  refine w_iconst dX10_turn_26 ?_
  refine w_istore [(4, .int (zI 0)), (3, .ref (B + ((63 + 26 * k) + 1))), (2, .ref (B + (63 + 26 * k))), (0, .ref (B + 0)), (1, .int (zI ((k : Nat) : Int)))] dX10_turn_27 (by decide) rfl ?_
  refine w_sub [(0, .ref (B + 0)), (2, .ref (B + (63 + 26 * k))), (3, .ref (B + ((63 + 26 * k) + 1))), (4, .int (zI 0))] [3, 2, 1, 0] rfl ?_
  refine w_lv (lv' := [(0, .ref (B + 0)), (2, .ref (B + (63 + 26 * k))), (3, .ref (B + ((63 + 26 * k) + 1))), (4, .int (zI ((0 : Nat) : Int)))]) (lc_s (lc_s (lc_s (lc_i (by first | omega | with_reducible rfl) rfl)))) ?_
  refine w_loop2 (fun (i : Nat) (gl_12 : (Nat → va_E)) => vTop cy B gl_12 0 la ∧ vSA cy B gl_12 62  ∧ vSW cy B gl_12 (63 + 26 * k) (trn c i) (M + ((i : Nat) : Int)) 0 ∧ vPast cy B gl_12 50 (uZ wh ((nx : Nat) : Int) ((k : Nat) : Int)) (uF Rw nx Rn_5) (if nx + 1 < 6 then nx + 1 else 0) (min (sz + 1) 6) ∧ (∀ q, ((q < 50 ∨ 59 ≤ q) ∧ (q < (63 + 26 * k) ∨ (63 + 26 * k) + 26 ≤ q)) → gl_12 q = g q) ∧ i ≤ c.length) (fun (i : Nat) (gl_12 : (Nat → va_E)) => c.length - i) (fun (i : Nat) (gl_12 : (Nat → va_E)) => gl_12) (fun (i : Nat) (gl_12 : (Nat → va_E)) => [(0, .ref (B + 0)), (2, .ref (B + (63 + 26 * k))), (3, .ref (B + ((63 + 26 * k) + 1))), (4, .int (zI ((i : Nat) : Int)))]) ?_ 0 g_3 ⟨ht0_8, hsa_9, (by have h9 := hw_10; exact vSW_mono h9 (by omega)), hp_6, hfr_11, (by first | omega | with_reducible rfl)⟩
  rintro i gl_12 ⟨ht0_13, hsa_14, hw_15, hp_16, hfr_17, hi⟩ ih_29
  have htl := trn_len c i
  refine w_iload dX10_turn_29 3 rfl ?_
  refine w_aload_n dX10_turn_31 rfl 2 rfl ?_
  obtain ⟨fx_20, hfx_20⟩ := vSW_col hw_15
  refine w_calli (As := []) (rest := [.int (zI ((i : Nat) : Int))]) (n := 0) (w_X0_size hw_15 (by first | omega | with_reducible rfl)) gX10_turn_X0_size rfl rfl rfl (by decide +kernel) ⟨Nat.le_of_ble_eq_true rfl, Nat.le_of_ble_eq_true rfl⟩ rfl (by first | omega | with_reducible rfl) hfx_20 rfl (Nat.le_of_ble_eq_true rfl) ⟨Nat.zero_le _, Nat.zero_le _⟩ dX10_turn_32 rfl (fun g_18 hp_19 => ?_)
  subst g_18
  refine w_as (st' := [.int (zI ((c.length : Nat) : Int)), .int (zI ((i : Nat) : Int))]) (sc_i (by rw [trn_len]) rfl) ?_
  refine w_icmp_ge 63 dX10_turn_35 (by decide) (by first | omega | with_reducible rfl) (by first | omega | with_reducible rfl) (fun c_35 => ?_) (fun c_35 => ?_)
  · refine w_aload_n dX10_turn_63 rfl 2 rfl ?_
    have hie : i = c.length := by omega
    obtain ⟨fx_23, hfx_23⟩ := vSW_col hw_15
    refine w_calli (As := []) (rest := []) (n := 0) (w_X0_allAbove hw_15 (by first | omega | with_reducible rfl) (trn_cok hc hi)) gX10_turn_X0_allAbove rfl rfl rfl (by decide +kernel) ⟨Nat.le_of_ble_eq_true rfl, Nat.le_of_ble_eq_true rfl⟩ rfl (by first | omega | with_reducible rfl) hfx_23 rfl (Nat.le_of_ble_eq_true rfl) ⟨Nat.zero_le _, Nat.zero_le _⟩ dX10_turn_64 rfl (fun g_21 hp_22 => ?_)
    subst g_21
    exact w_iret dX10_turn_67 rfl (by rw [hie]) ⟨Rn_5, (by have h9 := hw_15; rw [hie] at h9; exact h9), (by have h9 := hp_16; simpa using h9), (by first | omega | assumption), hfr_17⟩
  · refine w_aload_n dX10_turn_38 rfl 2 rfl ?_
    refine w_iload dX10_turn_39 3 rfl ?_
    refine w_aload_n dX10_turn_41 rfl 2 rfl ?_
    refine w_iload dX10_turn_42 3 rfl ?_
    obtain ⟨fx_26, hfx_26⟩ := vSW_col hw_15
    refine w_calli (As := [.int (zI ((i : Nat) : Int))]) (rest := [.int (zI ((i : Nat) : Int)), .ref (B + ((63 + 26 * k) + 1))]) (n := 1) (w_X0_totalOf hw_15 (by first | omega | with_reducible rfl) (by omega) (by first | omega | with_reducible rfl)) gX10_turn_X0_totalOf rfl rfl rfl (by decide +kernel) ⟨Nat.le_of_ble_eq_true rfl, Nat.le_of_ble_eq_true rfl⟩ rfl (by first | omega | with_reducible rfl) hfx_26 rfl (Nat.le_of_ble_eq_true rfl) ⟨Nat.zero_le _, Nat.zero_le _⟩ dX10_turn_44 rfl (fun g_24 hp_25 => ?_)
    subst g_24
    refine w_as (st' := [.int (zI (coT c ((i : Nat) : Int))), .int (zI ((i : Nat) : Int)), .ref (B + ((63 + 26 * k) + 1))]) (sc_i (by rw [inA_in (by omega), (trn_at hi ((i : Nat) : Int) (by omega)).1]) rfl) ?_
    refine w_aload_n dX10_turn_47 rfl 2 rfl ?_
    refine w_iload dX10_turn_48 3 rfl ?_
    obtain ⟨fx_29, hfx_29⟩ := vSW_col hw_15
    refine w_calli (As := [.int (zI ((i : Nat) : Int))]) (rest := [.int (zI (coT c ((i : Nat) : Int))), .int (zI ((i : Nat) : Int)), .ref (B + ((63 + 26 * k) + 1))]) (n := 1) (w_X0_aboveOf hw_15 (by first | omega | with_reducible rfl) (by omega) (by first | omega | with_reducible rfl)) gX10_turn_X0_aboveOf rfl rfl rfl (by decide +kernel) ⟨Nat.le_of_ble_eq_true rfl, Nat.le_of_ble_eq_true rfl⟩ rfl (by first | omega | with_reducible rfl) hfx_29 rfl (Nat.le_of_ble_eq_true rfl) ⟨Nat.zero_le _, Nat.zero_le _⟩ dX10_turn_50 rfl (fun g_27 hp_28 => ?_)
    subst g_27
    refine w_as (st' := [.int (zI (coX c ((i : Nat) : Int))), .int (zI (coT c ((i : Nat) : Int))), .int (zI ((i : Nat) : Int)), .ref (B + ((63 + 26 * k) + 1))]) (sc_i (by rw [inA_in (by omega), (trn_at hi ((i : Nat) : Int) (by omega)).2.1, if_neg (by omega)]) rfl) ?_
    refine w_isub dX10_turn_53 ?_
    obtain ⟨fx_32, hfx_32⟩ := vSW_col hw_15
    refine w_callv (As := [.int (zI ((i : Nat) : Int)), .int (zI ((coT c ((i : Nat) : Int)) - (coX c ((i : Nat) : Int))))]) (rest := []) (n := 2) (w_X0_tellAbove hw_15 (by first | omega | with_reducible rfl) (by omega) (by omega)) gX10_turn_X0_tellAbove rfl rfl rfl (by decide +kernel) ⟨Nat.le_of_ble_eq_true rfl, Nat.le_of_ble_eq_true rfl⟩ rfl (by first | omega | with_reducible rfl) hfx_32 rfl (Nat.le_of_ble_eq_true rfl) ⟨Nat.zero_le _, Nat.zero_le _⟩ dX10_turn_54 rfl (fun g_30 hp_31 => ?_)
    obtain ⟨hw_33, hf_34⟩ := hp_31
    have ht0_35 : vTop cy B g_30 0 la := vTop_fr ht0_13 (fun q h1 h2 => hf_34 q (by omega))
    have hsa_36 : vSA cy B g_30 62  := vSA_fr hsa_14 (fun q h1 h2 => hf_34 q (by omega))
    have hp_37 : vPast cy B g_30 50 (uZ wh ((nx : Nat) : Int) ((k : Nat) : Int)) (uF Rw nx Rn_5) (if nx + 1 < 6 then nx + 1 else 0) (min (sz + 1) 6) := vPast_fr hp_16 (fun q h1 h2 => hf_34 q (by omega))
    have hfr_38 : ∀ q, ((q < 50 ∨ 59 ≤ q) ∧ (q < (63 + 26 * k) ∨ (63 + 26 * k) + 26 ≤ q)) → g_30 q = g q := fun q hq => (hf_34 q (by omega)).trans (hfr_17 q hq)
    refine w_iinc 3 [(4, .int (zI (((i : Nat) : Int) + 1))), (0, .ref (B + 0)), (2, .ref (B + (63 + 26 * k))), (3, .ref (B + ((63 + 26 * k) + 1)))] dX10_turn_57 rfl (by decide) rfl ?_
    refine w_goto 29 dX10_turn_60 (by decide) ?_
    refine w_sub [(0, .ref (B + 0)), (2, .ref (B + (63 + 26 * k))), (3, .ref (B + ((63 + 26 * k) + 1))), (4, .int (zI (((i : Nat) : Int) + 1)))] [1, 2, 3, 0] rfl ?_
    refine w_lv (lv' := [(0, .ref (B + 0)), (2, .ref (B + (63 + 26 * k))), (3, .ref (B + ((63 + 26 * k) + 1))), (4, .int (zI (((i + 1) : Nat) : Int)))]) (lc_s (lc_s (lc_s (lc_i (by first | omega | with_reducible rfl) rfl)))) ?_
    exact ih_29 (i + 1) g_30 ⟨ht0_35, hsa_36, (by have h9 := hw_33; rw [show M + ((i : Nat) : Int) + 1 = M + (((i + 1) : Nat) : Int) by omega] at h9; exact h9), hp_37, hfr_38, (by first | omega | with_reducible rfl)⟩ (by first | omega | with_reducible rfl)

set_option maxHeartbeats 4000000 in
set_option maxRecDepth 100000 in
theorem n_X10_undo {l : Launch} {D : va_G} {cy : Nat → ClassId} {B N : Nat} {g : Nat → va_E} {la : Nat} {nx sz : Nat} {wh : Int → Int} {Rw : Nat → Int → Int} (ht0 : vTop cy B g 0 la) (hsa : vSA cy B g 62 ) (hp : vPast cy B g 50 wh Rw nx sz) (hN : 141 ≤ N) (hla : la ≤ 3) (hx : nx < 6) (hs6 : sz ≤ 6) (hz : sz = 0) : CTi l yX10_undo wsX10_undo (rmo 3 66) D cy B N g [.ref (B + 0)] (-2) (fun g' => g' = g) := by
  refine WW_of (cc := cX10_undo) (maxL := 2) (ret := (some .int)) (own := RX10) (by decide) rfl rfl (Nat.le_of_ble_eq_true rfl) rfl ?_
  intro pp ee ss mm bl me co hmn
  refine w_aload_n dX10_undo_0 rfl 0 rfl ?_
  refine w_aload_n dX10_undo_1 rfl 0 rfl ?_
  refine w_get (i := 2) (T := TX10) (NF := 6) 0 (by first | omega | with_reducible rfl) ht0 rfl (fun _ h => (List.mem_cons_of_mem _ (List.mem_append_left _ (List.mem_append_left _ (List.mem_append_left _ (List.mem_append_right _ h)))))) (by decide) (List.mem_of_getElem? (i := 1) rfl) rfl dX10_undo_2 ?_
  refine w_calli (As := []) (rest := [.ref (B + 0)]) (n := 0) (c_X3_latest hp (by first | omega | with_reducible rfl) (by first | omega | with_reducible rfl) (by first | omega | with_reducible rfl)) gX10_undo_X3_latest rfl rfl rfl (by decide +kernel) ⟨Nat.le_of_ble_eq_true rfl, Nat.le_of_ble_eq_true rfl⟩ rfl (by first | omega | with_reducible rfl) hp.1 rfl (Nat.le_of_ble_eq_true rfl) ⟨Nat.zero_le _, Nat.zero_le _⟩ dX10_undo_5 rfl (fun g_1 hp_2 => ?_)
  subst g_1
  refine w_as (st' := [.int (zI (-1)), .ref (B + 0)]) (sc_i (by first | omega | with_reducible rfl) rfl) ?_
  refine w_callq (As := [.int (zI (-1))]) (rest := []) (n := 1) (c_X10_find ht0 hsa (by first | omega | with_reducible rfl) (by first | omega | with_reducible rfl) (by first | omega | with_reducible rfl)) gX10_undo_X10_find rfl rfl rfl (by decide +kernel) ⟨Nat.le_of_ble_eq_true rfl, Nat.le_of_ble_eq_true rfl⟩ rfl (by first | omega | with_reducible rfl) ht0 rfl (Nat.le_of_ble_eq_true rfl) ⟨Nat.zero_le _, Nat.zero_le _⟩ dX10_undo_8 rfl (fun g_3 hp_4 => ?_)
  subst g_3
  refine w_as (st' := [.null]) (sc_q0 (by rw [if_neg (by omega)]) rfl) ?_
  refine w_astore_nN [(1, .null), (0, .ref (B + 0))] dX10_undo_11 rfl (by decide) rfl ?_
  refine w_aload_nN dX10_undo_12 rfl 0 rfl ?_
  refine w_ifnonnullN dX10_undo_13 ?_
  refine w_bipush dX10_undo_16 (by decide) ?_
  exact w_iret dX10_undo_18 rfl (by first | with_reducible rfl | omega | (split <;> omega)) rfl
set_option maxHeartbeats 4000000 in
set_option maxRecDepth 100000 in
theorem y_X10_undo {l : Launch} {D : va_G} {cy : Nat → ClassId} {B N : Nat} {g : Nat → va_E} {la k : Nat} {c : List Co} {M : Int} {fr : Nat} {nx sz : Nat} {wh : Int → Int} {Rw : Nat → Int → Int} (ht0 : vTop cy B g 0 la) (hsa : vSA cy B g 62 ) (hw : vSW cy B g (63 + 26 * k) c M fr) (hp : vPast cy B g 50 wh Rw nx sz) (hN : 141 ≤ N) (hk : k < la ∧ la ≤ 3) (hM : M < 2147483648) (hc5 : c.length ≤ 5 ∧ 1 ≤ c.length) (hx : nx < 6) (hs6 : sz ≤ 6) (hz : 0 < sz) (hwh : wh ((lrow nx : Nat) : Int) = ((k : Nat) : Int)) : CTi l yX10_undo wsX10_undo (rmo 3 66) D cy B N g [.ref (B + 0)] (((sz - 1) : Nat) : Int) (fun g' => vSW cy B g' (63 + 26 * k) (put c (Rw (lrow nx))) (M + 10) 0 ∧ vPast cy B g' 50 wh Rw (lrow nx) (sz - 1) ∧ (∀ q, ((q < 50 ∨ 59 ≤ q) ∧ (q < (63 + 26 * k) ∨ (63 + 26 * k) + 26 ≤ q)) → g' q = g q)) := by
  refine WW_of (cc := cX10_undo) (maxL := 2) (ret := (some .int)) (own := RX10) (by decide) rfl rfl (Nat.le_of_ble_eq_true rfl) rfl ?_
  intro pp ee ss mm bl me co hmn
  have hfr_0 : ∀ q, ((q < 50 ∨ 59 ≤ q) ∧ (q < (63 + 26 * k) ∨ (63 + 26 * k) + 26 ≤ q)) → g q = g q := fun _ _ => rfl
  refine w_aload_n dX10_undo_0 rfl 0 rfl ?_
  refine w_aload_n dX10_undo_1 rfl 0 rfl ?_
  refine w_get (i := 2) (T := TX10) (NF := 6) 0 (by first | omega | with_reducible rfl) ht0 rfl (fun _ h => (List.mem_cons_of_mem _ (List.mem_append_left _ (List.mem_append_left _ (List.mem_append_left _ (List.mem_append_right _ h)))))) (by decide) (List.mem_of_getElem? (i := 1) rfl) rfl dX10_undo_2 ?_
  refine w_calli (As := []) (rest := [.ref (B + 0)]) (n := 0) (c_X3_latest hp (by first | omega | with_reducible rfl) (by first | omega | with_reducible rfl) (by first | omega | with_reducible rfl)) gX10_undo_X3_latest rfl rfl rfl (by decide +kernel) ⟨Nat.le_of_ble_eq_true rfl, Nat.le_of_ble_eq_true rfl⟩ rfl (by first | omega | with_reducible rfl) hp.1 rfl (Nat.le_of_ble_eq_true rfl) ⟨Nat.zero_le _, Nat.zero_le _⟩ dX10_undo_5 rfl (fun g_1 hp_2 => ?_)
  subst g_1
  refine w_as (st' := [.int (zI ((k : Nat) : Int)), .ref (B + 0)]) (sc_i (by rw [if_pos hz, hwh]) rfl) ?_
  refine w_callq (As := [.int (zI ((k : Nat) : Int))]) (rest := []) (n := 1) (c_X10_find ht0 hsa (by first | omega | with_reducible rfl) (by first | omega | with_reducible rfl) (by first | omega | with_reducible rfl)) gX10_undo_X10_find rfl rfl rfl (by decide +kernel) ⟨Nat.le_of_ble_eq_true rfl, Nat.le_of_ble_eq_true rfl⟩ rfl (by first | omega | with_reducible rfl) ht0 rfl (Nat.le_of_ble_eq_true rfl) ⟨Nat.zero_le _, Nat.zero_le _⟩ dX10_undo_8 rfl (fun g_3 hp_4 => ?_)
  subst g_3
  refine w_as (st' := [.ref (B + (63 + 26 * k))]) (sc_q (by rw [if_pos (by omega), Int.toNat_natCast]) rfl) ?_
  refine w_astore_n [(1, .ref (B + (63 + 26 * k))), (0, .ref (B + 0))] dX10_undo_11 rfl (by decide) rfl ?_
  refine w_aload_n dX10_undo_12 rfl 0 rfl ?_
  refine w_ifnonnull 19 dX10_undo_13 (by decide) ?_
  refine w_aload_n dX10_undo_19 rfl 1 rfl ?_
  refine w_get (i := 2) (T := TX10) (NF := 6) 0 (by first | omega | with_reducible rfl) ht0 rfl (fun _ h => (List.mem_cons_of_mem _ (List.mem_append_left _ (List.mem_append_left _ (List.mem_append_left _ (List.mem_append_right _ h)))))) (by decide) (List.mem_of_getElem? (i := 1) rfl) rfl dX10_undo_20 ?_
  refine w_aload_n dX10_undo_23 rfl 0 rfl ?_
  refine w_get (i := 0) (T := TX7) (NF := 4) (63 + 26 * k) (by first | omega | with_reducible rfl) (vSW_str hw) rfl (fun _ h => (List.mem_cons_of_mem _ (List.mem_append_left _ (List.mem_append_left _ (List.mem_append_right _ h))))) (by decide) (List.mem_of_getElem? (i := 2) rfl) rfl dX10_undo_24 ?_
  refine w_callv (As := [.ref (B + ((63 + 26 * k) + 1))]) (rest := []) (n := 1) (w_X3_giveBack hp hw (by first | omega | with_reducible rfl) (by first | omega | with_reducible rfl) (by first | omega | with_reducible rfl) (by first | omega | with_reducible rfl) (by first | omega | with_reducible rfl) (by first | omega | with_reducible rfl) (by first | omega | with_reducible rfl)) gX10_undo_X3_giveBack rfl rfl rfl (by decide +kernel) ⟨Nat.le_of_ble_eq_true rfl, Nat.le_of_ble_eq_true rfl⟩ rfl (by first | omega | with_reducible rfl) hp.1 rfl (Nat.le_of_ble_eq_true rfl) ⟨Nat.zero_le _, Nat.zero_le _⟩ dX10_undo_27 rfl (fun g_5 hp_6 => ?_)
  obtain ⟨hp_7, hw_8, hf_9⟩ := hp_6
  have ht0_10 : vTop cy B g_5 0 la := vTop_fr ht0 (fun q h1 h2 => hf_9 q (by omega))
  have hsa_11 : vSA cy B g_5 62  := vSA_fr hsa (fun q h1 h2 => hf_9 q (by omega))
  have hfr_12 : ∀ q, ((q < 50 ∨ 59 ≤ q) ∧ (q < (63 + 26 * k) ∨ (63 + 26 * k) + 26 ≤ q)) → g_5 q = g q := fun q hq => (hf_9 q (by omega)).trans (hfr_0 q hq)
  refine w_aload_n dX10_undo_30 rfl 1 rfl ?_
  refine w_get (i := 2) (T := TX10) (NF := 6) 0 (by first | omega | with_reducible rfl) ht0_10 rfl (fun _ h => (List.mem_cons_of_mem _ (List.mem_append_left _ (List.mem_append_left _ (List.mem_append_left _ (List.mem_append_right _ h)))))) (by decide) (List.mem_of_getElem? (i := 1) rfl) rfl dX10_undo_31 ?_
  refine w_calli (As := []) (rest := []) (n := 0) (c_X3_size hp_7 (by first | omega | with_reducible rfl)) gX10_undo_X3_size rfl rfl rfl (by decide +kernel) ⟨Nat.le_of_ble_eq_true rfl, Nat.le_of_ble_eq_true rfl⟩ rfl (by first | omega | with_reducible rfl) hp_7.1 rfl (Nat.le_of_ble_eq_true rfl) ⟨Nat.zero_le _, Nat.zero_le _⟩ dX10_undo_34 rfl (fun g_13 hp_14 => ?_)
  subst g_13
  exact w_iret dX10_undo_37 rfl (by first | with_reducible rfl | omega | (split <;> omega)) ⟨hw_8, hp_7, hfr_12⟩

set_option maxHeartbeats 4000000 in
set_option maxRecDepth 100000 in
theorem c_X10_countInColumns {l : Launch} {D : va_G} {cy : Nat → ClassId} {B N : Nat} {g : Nat → va_E} {b : Nat} {c : List Co} {M : Int} {fr : Nat} {what : Int} (hw : vSW cy B g b c M fr) (hB : b + 26 ≤ N) (hc : cok c) (h_what : -2147483648 ≤ what ∧ what < 2147483648) : CTi l yX10_countInColumns wsX10_countInColumns (rmo 2 43) D cy B N g [.ref (B + (b + 1)), .int (zI what)] (cnt1 c what) (fun g' => g' = g) := by
  refine WW_of (cc := cX10_countInColumns) (maxL := 2) (ret := (some .int)) (own := RX10) (by decide) rfl rfl (Nat.le_of_ble_eq_true rfl) rfl ?_
  intro pp ee ss mm bl me co hmn
  have hc5 := hc.1
  refine w_iload_n dX10_countInColumns_0 rfl 1 rfl ?_
  by_cases c_1 : what < 1 ∨ 3 < what
  · refine w_tout 43 dX10_countInColumns_1 (by first | omega | with_reducible rfl) c_1 (by decide) ?_
    refine w_aload_n dX10_countInColumns_43 rfl 0 rfl ?_
    obtain ⟨fx_3, hfx_3⟩ := vSW_col hw
    refine w_calli (As := []) (rest := []) (n := 0) (w_X0_seenSum hw (by first | omega | with_reducible rfl) (by first | omega | with_reducible rfl)) gX10_countInColumns_X0_seenSum rfl rfl rfl (by decide +kernel) ⟨Nat.le_of_ble_eq_true rfl, Nat.le_of_ble_eq_true rfl⟩ rfl (by first | omega | with_reducible rfl) hfx_3 rfl (Nat.le_of_ble_eq_true rfl) ⟨Nat.zero_le _, Nat.zero_le _⟩ dX10_countInColumns_44 rfl (fun g_1 hp_2 => ?_)
    subst g_1
    exact w_iret dX10_countInColumns_47 rfl (by unfold cnt1; rw [if_neg (by omega), if_neg (by omega), if_neg (by omega)]) rfl
  · rcases (show what = 1 ∨ what = 2 ∨ what = 3 by omega) with c_1 | c_1 | c_1
    · refine w_tin (z := what) (off := 27) 28 dX10_countInColumns_1 (by first | omega | with_reducible rfl) (by omega) (by omega) (by rw [c_1]; rfl) (by decide) ?_
      refine w_aload_n dX10_countInColumns_28 rfl 0 rfl ?_
      obtain ⟨fx_6, hfx_6⟩ := vSW_col hw
      refine w_calli (As := []) (rest := []) (n := 0) (w_X0_size hw (by first | omega | with_reducible rfl)) gX10_countInColumns_X0_size rfl rfl rfl (by decide +kernel) ⟨Nat.le_of_ble_eq_true rfl, Nat.le_of_ble_eq_true rfl⟩ rfl (by first | omega | with_reducible rfl) hfx_6 rfl (Nat.le_of_ble_eq_true rfl) ⟨Nat.zero_le _, Nat.zero_le _⟩ dX10_countInColumns_29 rfl (fun g_4 hp_5 => ?_)
      subst g_4
      exact w_iret dX10_countInColumns_32 rfl (by unfold cnt1; rw [if_pos c_1]) rfl
    · refine w_tin (z := what) (off := 32) 33 dX10_countInColumns_1 (by first | omega | with_reducible rfl) (by omega) (by omega) (by rw [c_1]; rfl) (by decide) ?_
      refine w_aload_n dX10_countInColumns_33 rfl 0 rfl ?_
      obtain ⟨fx_9, hfx_9⟩ := vSW_col hw
      refine w_calli (As := []) (rest := []) (n := 0) (w_X0_allTotal hw (by first | omega | with_reducible rfl) (by first | omega | with_reducible rfl)) gX10_countInColumns_X0_allTotal rfl rfl rfl (by decide +kernel) ⟨Nat.le_of_ble_eq_true rfl, Nat.le_of_ble_eq_true rfl⟩ rfl (by first | omega | with_reducible rfl) hfx_9 rfl (Nat.le_of_ble_eq_true rfl) ⟨Nat.zero_le _, Nat.zero_le _⟩ dX10_countInColumns_34 rfl (fun g_7 hp_8 => ?_)
      subst g_7
      exact w_iret dX10_countInColumns_37 rfl (by unfold cnt1; rw [if_neg (by omega), if_pos c_1]) rfl
    · refine w_tin (z := what) (off := 37) 38 dX10_countInColumns_1 (by first | omega | with_reducible rfl) (by omega) (by omega) (by rw [c_1]; rfl) (by decide) ?_
      refine w_aload_n dX10_countInColumns_38 rfl 0 rfl ?_
      obtain ⟨fx_12, hfx_12⟩ := vSW_col hw
      refine w_calli (As := []) (rest := []) (n := 0) (w_X0_allAbove hw (by first | omega | with_reducible rfl) (by first | omega | with_reducible rfl)) gX10_countInColumns_X0_allAbove rfl rfl rfl (by decide +kernel) ⟨Nat.le_of_ble_eq_true rfl, Nat.le_of_ble_eq_true rfl⟩ rfl (by first | omega | with_reducible rfl) hfx_12 rfl (Nat.le_of_ble_eq_true rfl) ⟨Nat.zero_le _, Nat.zero_le _⟩ dX10_countInColumns_39 rfl (fun g_10 hp_11 => ?_)
      subst g_10
      exact w_iret dX10_countInColumns_42 rfl (by unfold cnt1; rw [if_neg (by omega), if_neg (by omega), if_pos c_1]) rfl

set_option maxHeartbeats 4000000 in
set_option maxRecDepth 100000 in
theorem c_X10_countInStrata {l : Launch} {D : va_G} {cy : Nat → ClassId} {B N : Nat} {g : Nat → va_E} {la : Nat} {cs : Nat → List Co} {Ms : Nat → Int} {fs : Nat → Nat} {what : Int} (ht0 : vTop cy B g 0 la) (hsa : vSA cy B g 62 ) (hss : vSWs cy B g 63 cs Ms fs) (hN : 141 ≤ N) (hla : la ≤ 3) (hck : ∀ i : Nat, i < la → cok (cs i)) (h_what : -2147483648 ≤ what ∧ what < 2147483648) : CTi l yX10_countInStrata wsX10_countInStrata (rmo 3 64) D cy B N g [.ref (B + 0), .int (zI what)] (cntS cs what la) (fun g' => g' = g) := by
  refine WW_of (cc := cX10_countInStrata) (maxL := 5) (ret := (some .int)) (own := RX10) (by decide) rfl rfl (Nat.le_of_ble_eq_true rfl) rfl ?_
  intro pp ee ss mm bl me co hmn
  refine w_iconst dX10_countInStrata_0 ?_
  refine w_istore_n [(2, .int (zI 0)), (0, .ref (B + 0)), (1, .int (zI what))] dX10_countInStrata_1 rfl (by decide) rfl ?_
  refine w_iconst dX10_countInStrata_2 ?_
  refine w_istore_n [(3, .int (zI 0)), (2, .int (zI 0)), (0, .ref (B + 0)), (1, .int (zI what))] dX10_countInStrata_3 rfl (by decide) rfl ?_
  refine w_sub [(0, .ref (B + 0)), (1, .int (zI what)), (2, .int (zI 0)), (3, .int (zI 0))] [2, 3, 1, 0] rfl ?_
  refine w_lv (lv' := [(0, .ref (B + 0)), (1, .int (zI what)), (2, .int (zI (cntS cs what 0))), (3, .int (zI ((0 : Nat) : Int)))]) (lc_s (lc_s (lc_i rfl (lc_i (by first | omega | with_reducible rfl) rfl)))) ?_
  refine w_loop1 (fun (k : Nat) => k ≤ la) (fun (k : Nat) => la - k) (fun (k : Nat) => g) (fun (k : Nat) => [(0, .ref (B + 0)), (1, .int (zI what)), (2, .int (zI (cntS cs what k))), (3, .int (zI ((k : Nat) : Int)))]) ?_ 0 (by first | omega | with_reducible rfl)
  rintro k hk ih_4
  refine w_iload_n dX10_countInStrata_4 rfl 3 rfl ?_
  refine w_aload_n dX10_countInStrata_5 rfl 0 rfl ?_
  refine w_get (i := 5) (T := TX10) (NF := 6) 0 (by first | omega | with_reducible rfl) ht0 rfl (fun _ h => (List.mem_cons_of_mem _ (List.mem_append_left _ (List.mem_append_left _ (List.mem_append_right _ h))))) (by decide) (List.mem_of_getElem? (i := 1) rfl) rfl dX10_countInStrata_6 ?_
  refine w_icmp_ge 42 dX10_countInStrata_9 (by decide) (by first | omega | with_reducible rfl) (by first | omega | with_reducible rfl) (fun c_9 => ?_) (fun c_9 => ?_)
  · have hkl : k = la := by omega
    refine w_iload_n dX10_countInStrata_42 rfl 2 rfl ?_
    exact w_iret dX10_countInStrata_43 rfl (by rw [hkl]) rfl
  · refine w_aload_n dX10_countInStrata_12 rfl 0 rfl ?_
    refine w_iload_n dX10_countInStrata_13 rfl 3 rfl ?_
    refine w_callq (As := [.int (zI ((k : Nat) : Int))]) (rest := []) (n := 1) (c_X10_find ht0 hsa (by first | omega | with_reducible rfl) (by first | omega | with_reducible rfl) (by first | omega | with_reducible rfl)) gX10_countInStrata_X10_find rfl rfl rfl (by decide +kernel) ⟨Nat.le_of_ble_eq_true rfl, Nat.le_of_ble_eq_true rfl⟩ rfl (by first | omega | with_reducible rfl) ht0 rfl (Nat.le_of_ble_eq_true rfl) ⟨Nat.zero_le _, Nat.zero_le _⟩ dX10_countInStrata_14 rfl (fun g_1 hp_2 => ?_)
    subst g_1
    refine w_as (st' := [.ref (B + (63 + 26 * k))]) (sc_q (by rw [if_pos (by omega), Int.toNat_natCast]) rfl) ?_
    refine w_astore [(4, .ref (B + (63 + 26 * k))), (0, .ref (B + 0)), (1, .int (zI what)), (2, .int (zI (cntS cs what k))), (3, .int (zI ((k : Nat) : Int)))] dX10_countInStrata_17 (by decide) rfl ?_
    refine w_aload dX10_countInStrata_19 0 rfl ?_
    refine w_ifnull dX10_countInStrata_21 ?_
    refine w_iload_n dX10_countInStrata_24 rfl 3 rfl ?_
    refine w_aload dX10_countInStrata_25 0 rfl ?_
    refine w_get (i := 0) (T := TX7) (NF := 4) (63 + 26 * k) (by first | omega | with_reducible rfl) (vSW_str (hss k (by first | omega | with_reducible rfl))) rfl (fun _ h => (List.mem_cons_of_mem _ (List.mem_append_left _ (List.mem_append_right _ h)))) (by decide) (List.mem_of_getElem? (i := 2) rfl) rfl dX10_countInStrata_27 ?_
    refine w_iload_n dX10_countInStrata_30 rfl 2 rfl ?_
    refine w_calliS (As := [.ref (B + ((63 + 26 * k) + 1)), .int (zI what)]) (rest := [.int (zI (cntS cs what k))]) (n := 2) (c_X10_countInColumns (hss k (by first | omega | with_reducible rfl)) (by first | omega | with_reducible rfl) (hck k (by omega)) (by first | omega | with_reducible rfl)) gX10_countInStrata_X10_countInColumns rfl rfl rfl (by decide +kernel) ⟨Nat.le_of_ble_eq_true rfl, Nat.le_of_ble_eq_true rfl⟩ rfl (Nat.le_of_ble_eq_true rfl) ⟨Nat.zero_le _, Nat.zero_le _⟩ dX10_countInStrata_31 rfl (fun g_3 hp_4 => ?_)
    subst g_3
    refine w_iadd dX10_countInStrata_34 ?_
    refine w_istore_n [(2, .int (zI ((cntS cs what k) + (cnt1 (cs k) what)))), (4, .ref (B + (63 + 26 * k))), (0, .ref (B + 0)), (1, .int (zI what)), (3, .int (zI ((k : Nat) : Int)))] dX10_countInStrata_35 rfl (by decide) rfl ?_
    refine w_iinc 4 [(3, .int (zI (((k : Nat) : Int) + 1))), (2, .int (zI ((cntS cs what k) + (cnt1 (cs k) what)))), (4, .ref (B + (63 + 26 * k))), (0, .ref (B + 0)), (1, .int (zI what))] dX10_countInStrata_36 rfl (by decide) rfl ?_
    refine w_goto 4 dX10_countInStrata_39 (by decide) ?_
    refine w_sub [(0, .ref (B + 0)), (1, .int (zI what)), (2, .int (zI ((cntS cs what k) + (cnt1 (cs k) what)))), (3, .int (zI (((k : Nat) : Int) + 1)))] [3, 4, 1, 0] rfl ?_
    refine w_lv (lv' := [(0, .ref (B + 0)), (1, .int (zI what)), (2, .int (zI (cntS cs what (k + 1)))), (3, .int (zI (((k + 1) : Nat) : Int)))]) (lc_s (lc_s (lc_i rfl (lc_i (by first | omega | with_reducible rfl) rfl)))) ?_
    exact ih_4 (k + 1) (by first | omega | with_reducible rfl) (by first | omega | with_reducible rfl)

set_option maxHeartbeats 4000000 in
set_option maxRecDepth 100000 in
theorem c_X10_count {l : Launch} {D : va_G} {cy : Nat → ClassId} {B N : Nat} {g : Nat → va_E} {la : Nat} {cs : Nat → List Co} {Ms : Nat → Int} {fs : Nat → Nat} {nx sz : Nat} {wh : Int → Int} {Rw : Nat → Int → Int} {n : Nat} {L : Int → Int} {what : Int} (ht0 : vTop cy B g 0 la) (hsa : vSA cy B g 62 ) (hss : vSWs cy B g 63 cs Ms fs) (hp : vPast cy B g 50 wh Rw nx sz) (htx : vText cy B g 16 n L) (hN : 141 ≤ N) (hla : la ≤ 3) (hck : ∀ i : Nat, i < la → cok (cs i)) (h_what : -2147483648 ≤ what ∧ what < 2147483648) : CTi l yX10_count wsX10_count (rmo 4 88) D cy B N g [.ref (B + 0), .int (zI what)] (if what = 0 then ((la : Nat) : Int) else if what = 5 then ((sz : Nat) : Int) else if what = 6 then ((n : Nat) : Int) else if what < 0 ∨ 4 < what then -1 else cntS cs what la) (fun g' => g' = g) := by
  refine WW_of (cc := cX10_count) (maxL := 2) (ret := (some .int)) (own := RX10) (by decide) rfl rfl (Nat.le_of_ble_eq_true rfl) rfl ?_
  intro pp ee ss mm bl me co hmn
  refine w_iload_n dX10_count_0 rfl 1 rfl ?_
  by_cases c_1 : what = 0
  · refine w_look (off := 35) 36 dX10_count_1 rfl (by first | omega | with_reducible rfl) (by rw [c_1]; rfl) (by decide) ?_
    refine w_aload_n dX10_count_36 rfl 0 rfl ?_
    refine w_get (i := 5) (T := TX10) (NF := 6) 0 (by first | omega | with_reducible rfl) ht0 rfl (fun _ h => (List.mem_cons_of_mem _ (List.mem_append_left _ (List.mem_append_left _ (List.mem_append_left _ (List.mem_append_left _ (List.mem_append_right _ h))))))) (by decide) (List.mem_of_getElem? (i := 1) rfl) rfl dX10_count_37 ?_
    exact w_iret dX10_count_40 rfl (by rw [if_pos c_1]) rfl
  have c_1_0 := c_1
  by_cases c_1 : what = 5
  · refine w_look (off := 40) 41 dX10_count_1 rfl (by first | omega | with_reducible rfl) (by rw [c_1]; rfl) (by decide) ?_
    refine w_aload_n dX10_count_41 rfl 0 rfl ?_
    refine w_get (i := 2) (T := TX10) (NF := 6) 0 (by first | omega | with_reducible rfl) ht0 rfl (fun _ h => (List.mem_cons_of_mem _ (List.mem_append_left _ (List.mem_append_left _ (List.mem_append_left _ (List.mem_append_left _ (List.mem_append_right _ h))))))) (by decide) (List.mem_of_getElem? (i := 2) rfl) rfl dX10_count_42 ?_
    refine w_calli (As := []) (rest := []) (n := 0) (c_X3_size hp (by first | omega | with_reducible rfl)) gX10_count_X3_size rfl rfl rfl (by decide +kernel) ⟨Nat.le_of_ble_eq_true rfl, Nat.le_of_ble_eq_true rfl⟩ rfl (by first | omega | with_reducible rfl) hp.1 rfl (Nat.le_of_ble_eq_true rfl) ⟨Nat.zero_le _, Nat.zero_le _⟩ dX10_count_45 rfl (fun g_1 hp_2 => ?_)
    subst g_1
    exact w_iret dX10_count_48 rfl (by rw [if_neg (by omega), if_pos c_1]) rfl
  have c_1_5 := c_1
  by_cases c_1 : what = 6
  · refine w_look (off := 48) 49 dX10_count_1 rfl (by first | omega | with_reducible rfl) (by rw [c_1]; rfl) (by decide) ?_
    refine w_aload_n dX10_count_49 rfl 0 rfl ?_
    refine w_get (i := 0) (T := TX10) (NF := 6) 0 (by first | omega | with_reducible rfl) ht0 rfl (fun _ h => (List.mem_cons_of_mem _ (List.mem_append_left _ (List.mem_append_left _ (List.mem_append_left _ (List.mem_append_left _ (List.mem_append_right _ h))))))) (by decide) (List.mem_of_getElem? (i := 3) rfl) rfl dX10_count_50 ?_
    refine w_calli (As := []) (rest := []) (n := 0) (c_X9_size htx (by first | omega | with_reducible rfl)) gX10_count_X9_size rfl rfl rfl (by decide +kernel) ⟨Nat.le_of_ble_eq_true rfl, Nat.le_of_ble_eq_true rfl⟩ rfl (by first | omega | with_reducible rfl) htx.1 rfl (Nat.le_of_ble_eq_true rfl) ⟨Nat.zero_le _, Nat.zero_le _⟩ dX10_count_53 rfl (fun g_3 hp_4 => ?_)
    subst g_3
    exact w_iret dX10_count_56 rfl (by rw [if_neg (by omega), if_neg (by omega), if_pos c_1]) rfl
  have c_1_6 := c_1
  · refine w_look (off := 56) 57 dX10_count_1 rfl (by first | omega | with_reducible rfl) (by simp [Op.lookupswitch.offset, c_1_0, Ne.symm c_1_0, c_1_5, Ne.symm c_1_5, c_1_6, Ne.symm c_1_6]) (by decide) ?_
    refine w_iload_n dX10_count_57 rfl 1 rfl ?_
    refine w_if_lt 66 dX10_count_58 (by decide) (by first | omega | with_reducible rfl) (fun c_58 => ?_) (fun c_58 => ?_)
    · refine w_iconst dX10_count_66 ?_
      refine w_goto 75 dX10_count_67 (by decide) ?_
      exact w_iret dX10_count_75 rfl (by rw [if_neg (by omega), if_neg (by omega), if_neg (by omega)]; first | rw [if_pos (by omega)] | rw [if_neg (by omega)]) rfl
    · refine w_iload_n dX10_count_61 rfl 1 rfl ?_
      refine w_iconst dX10_count_62 ?_
      refine w_icmp_le 70 dX10_count_63 (by decide) (by first | omega | with_reducible rfl) (by first | omega | with_reducible rfl) (fun c_63 => ?_) (fun c_63 => ?_)
      · refine w_aload_n dX10_count_70 rfl 0 rfl ?_
        refine w_iload_n dX10_count_71 rfl 1 rfl ?_
        refine w_calli (As := [.int (zI what)]) (rest := []) (n := 1) (c_X10_countInStrata ht0 hsa hss (by first | omega | with_reducible rfl) (by first | omega | with_reducible rfl) hck (by first | omega | with_reducible rfl)) gX10_count_X10_countInStrata rfl rfl rfl (by decide +kernel) ⟨Nat.le_of_ble_eq_true rfl, Nat.le_of_ble_eq_true rfl⟩ rfl (by first | omega | with_reducible rfl) ht0 rfl (Nat.le_of_ble_eq_true rfl) ⟨Nat.zero_le _, Nat.zero_le _⟩ dX10_count_72 rfl (fun g_5 hp_6 => ?_)
        subst g_5
        exact w_iret dX10_count_75 rfl (by rw [if_neg (by omega), if_neg (by omega), if_neg (by omega)]; first | rw [if_pos (by omega)] | rw [if_neg (by omega)]) rfl
      · refine w_iconst dX10_count_66 ?_
        refine w_goto 75 dX10_count_67 (by decide) ?_
        exact w_iret dX10_count_75 rfl (by rw [if_neg (by omega), if_neg (by omega), if_neg (by omega)]; first | rw [if_pos (by omega)] | rw [if_neg (by omega)]) rfl

