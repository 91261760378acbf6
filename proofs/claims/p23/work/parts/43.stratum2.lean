/-! ===== Stratum: a table by its number, the likeliest table ===== -/
def pk (f : Nat → Int) : Nat → Nat → Int → Nat × Int
  | 0, x, t => (x, t)
  | k + 1, x, t => if t < f x then (x, t) else pk f k (x + 1) (t - f x)
def pl (f : Nat → Int) (v : Int) : Nat → Nat → Nat
  | 0, x => x
  | k + 1, x => if f x = v then x else pl f v k (x + 1)
theorem pk_rg (f : Nat → Int) : ∀ (k x : Nat) (t : Int), x ≤ (pk f k x t).1 ∧ (pk f k x t).1 ≤ x + k
  | 0, x, t => by rw [pk]; omega
  | k + 1, x, t => by
    rw [pk]
    split
    · omega
    · have := pk_rg f k (x + 1) (t - f x)
      omega
theorem pl_rg (f : Nat → Int) (v : Int) : ∀ (k x : Nat), x ≤ pl f v k x ∧ pl f v k x ≤ x + k
  | 0, x => by rw [pl]; omega
  | k + 1, x => by
    rw [pl]
    split
    · omega
    · have := pl_rg f v k (x + 1)
      omega
theorem pk_go {f : Nat → Int} {M y : Nat} {t : Int} {p : Nat × Int} (h : pk f (M - y) y t = p) (hy : y < M) (hc : f y ≤ t) : pk f (M - (y + 1)) (y + 1) (t - f y) = p := by
  rw [show M - y = (M - (y + 1)) + 1 by omega, pk, if_neg (by omega)] at h
  exact h
theorem pk_ok {f : Nat → Int} {M y : Nat} {t : Int} {p : Nat × Int} (h : pk f (M - y) y t = p) (hy : y < M) (hc : t < f y) : p = (y, t) := by
  rw [show M - y = (M - (y + 1)) + 1 by omega, pk, if_pos hc] at h
  exact h.symm
theorem pl_go {f : Nat → Int} {v : Int} {M y p : Nat} (h : pl f v (M - y) y = p) (hy : y < M) (hc : ¬ f y = v) : pl f v (M - (y + 1)) (y + 1) = p := by
  rw [show M - y = (M - (y + 1)) + 1 by omega, pl, if_neg hc] at h
  exact h
theorem pl_ok {f : Nat → Int} {v : Int} {M y p : Nat} (h : pl f v (M - y) y = p) (hy : y < M) (hc : f y = v) : p = y := by
  rw [show M - y = (M - (y + 1)) + 1 by omega, pl, if_pos hc] at h
  exact h.symm
/-- numbers of the columns ahead of j: so many taken, what is left of the table's number, the latest number -/
noncomputable def un (T V : Int → Int) (n R : Nat) (t0 : Int) : Nat → Nat × Int × Nat
  | 0 => (0, t0, 0)
  | j + 1 => let s := un T V n R t0 j; let l := lo (clL T V (j + 1) (n - (j + 1))) (R - s.1); let p := pk (fun x => NV T V n R 4 (j + 1) (s.1 + x)) (min (T (j : Int)).toNat (R - s.1) - l) l s.2.1; (s.1 + p.1, p.2, p.1)
noncomputable def lz (T V : Int → Int) (n R : Nat) : Nat → Nat × Nat
  | 0 => (0, 0)
  | j + 1 => let s := lz T V n R j; let l := lo (clL T V (j + 1) (n - (j + 1))) (R - s.1); let p := pl (fun x => (ch (T (j : Int)).toNat x : Int) * NV T V n R 2 (j + 1) (s.1 + x)) (NV T V n R 2 j s.1) (min (T (j : Int)).toNat (R - s.1) - l) l; (s.1 + p, p)
theorem thr_lo {T V : Int → Int} {n R j a : Nat} (ht : thr T V n R j a) (hj : j < n) : lo (clL T V (j + 1) (n - (j + 1))) (R - a) ≤ min (T ((j : Nat) : Int)).toNat (R - a) := by
  obtain ⟨t1, t2, t3, t4⟩ := ht
  rw [clL_c hj, tsum] at t4
  unfold lo
  have h9 : ((T ((j : Nat) : Int)).toNat, (V ((j : Nat) : Int)).toNat).fst = (T ((j : Nat) : Int)).toNat := rfl
  omega
theorem NV_tc {T V : Int → Int} {n R j a : Nat} (hok : okT T V n) : 0 ≤ NV T V n R 4 j a ∧ NV T V n R 4 j a ≤ 371293 := by
  by_cases h : thr T V n R j a
  · rw [NV_in h (by omega)]
    exact tc_rg hok (by have := h.1; omega)
  · rw [NV_out h]
    omega
theorem NV_lg {T V : Int → Int} {n R j a : Nat} (hok : okT T V n) : 0 ≤ NV T V n R 2 j a ∧ NV T V n R 2 j a ≤ 2 ^ tsum (clL T V j (n - j)) := by
  by_cases h : thr T V n R j a
  · rw [NV_in h (by omega)]
    exact lg_bh
  · rw [NV_out h]
    exact ⟨by omega, Int.le_of_lt (Int.pow_pos (by omega))⟩
theorem chlg_rg {T V : Int → Int} {n R j a x : Nat} (hok : okT T V n) (hj : j < n) : 0 ≤ (ch (T ((j : Nat) : Int)).toNat x : Int) * NV T V n R 2 (j + 1) a ∧ (ch (T ((j : Nat) : Int)).toNat x : Int) * NV T V n R 2 (j + 1) a ≤ 1152921504606846976 := by
  have h1 := NV_lg (R := R) (j := j + 1) (a := a) hok
  have h2 := ch_le (T ((j : Nat) : Int)).toNat x
  have h3 : ((ch (T ((j : Nat) : Int)).toNat x : Nat) : Int) ≤ 2 ^ (T ((j : Nat) : Int)).toNat := by exact_mod_cast h2
  refine ⟨Int.mul_nonneg (by omega) h1.1, ?_⟩
  have h4 : (ch (T ((j : Nat) : Int)).toNat x : Int) * NV T V n R 2 (j + 1) a ≤ 2 ^ (T ((j : Nat) : Int)).toNat * 2 ^ tsum (clL T V (j + 1) (n - (j + 1))) := Int.mul_le_mul h3 h1.2 h1.1 (Int.le_of_lt (Int.pow_pos (by omega)))
  rw [← Int.pow_add] at h4
  have h5 := okT_ts hok (m := n - j) (j := j) (by omega)
  rw [clL_c hj, tsum] at h5
  have h7 : ((T ((j : Nat) : Int)).toNat, (V ((j : Nat) : Int)).toNat).fst = (T ((j : Nat) : Int)).toNat := rfl
  have h8 := hok.1
  have h6 := pow_60 (k := (T ((j : Nat) : Int)).toNat + tsum (clL T V (j + 1) (n - (j + 1)))) (by omega)
  omega
theorem lgn_rg {T V : Int → Int} {n R j a : Nat} (hok : okT T V n) : 0 ≤ NV T V n R 2 j a ∧ NV T V n R 2 j a ≤ 1152921504606846976 := by
  have h1 := NV_lg (R := R) (j := j) (a := a) hok
  by_cases h : j ≤ n
  · have h5 := okT_ts hok (m := n - j) (j := j) (by omega)
    have h8 := hok.1
    have h6 := pow_60 (k := tsum (clL T V j (n - j))) (by omega)
    omega
  · rw [NV_far (by omega)]
    omega
theorem thr_next' {T V : Int → Int} {n R j a x : Nat} (ht : thr T V n R j a) (hj : j < n) (h1 : lo (clL T V (j + 1) (n - (j + 1))) (R - a) ≤ x) (h2 : x ≤ min (T ((j : Nat) : Int)).toNat (R - a)) : thr T V n R (j + 1) (a + x) :=
  thr_next (m := n - (j + 1)) ht (by omega) h1 (by omega) (by omega)
set_option maxHeartbeats 4000000 in
set_option maxRecDepth 100000 in
theorem c_X7_numberIn {l : Launch} {D : va_G} {cy : Nat → ClassId} {B N : Nat} {g : Nat → va_E} {b : Nat} {tf : Int → Int} {nver : Int} {G : Nat → Int → Int} {sets n R : Nat} {cver : Int} {T X V : Int → Int} {Wy : Nat → Int → Int} {t w : Int} (hq : vStr cy B g b ) (hn : vNet cy B g (b + 11) (b + 1) tf ((R : Nat) : Int) nver G) (hc : vCol cy B g (b + 1) sets n cver T X V Wy) (hB : b + 26 ≤ N) (hok : okT T V n) (hR : R ≤ 60) (hNF : NF T V n R G) (hRt : R ≤ tsum (clL T V 0 n)) (htf : ∀ j : Nat, j ≤ 5 → tf ((j : Nat) : Int) = ((tsum (clL T V j (n - j)) : Nat) : Int)) (hWy : ∀ j : Nat, j < n → ∀ x : Nat, x ≤ 12 → Wy j ((x : Nat) : Int) = ((ch (T ((j : Nat) : Int)).toNat x : Nat) : Int)) (htt : 0 ≤ t ∧ t < 2147483648) (hw : 0 ≤ w ∧ w < 5) : CTi l yX7_numberIn wsX7_numberIn (rmo 2 62) D cy B N g [.ref (B + b), .int (zI t), .int (zI w)] ((((un T V n R t (min (w.toNat + 1) n)).2.2 : Nat)) : Int) (fun g' => g' = g) := by
  refine WW_of (cc := cX7_numberIn) (maxL := 11) (ret := (some .int)) (own := RX7) (by decide) rfl rfl (Nat.le_of_ble_eq_true rfl) rfl ?_
  intro pp ee ss mm bl me co hmn
  have hn5 : n ≤ 5 := hok.1
  have htfr : ∀ i : Int, 0 ≤ i → i ≤ 5 → 0 ≤ tf i ∧ tf i ≤ 60 := fun i h1 h2 => by
    obtain ⟨k, rfl⟩ := Int.eq_ofNat_of_zero_le h1
    have h3 := htf k (by omega)
    by_cases hk : k ≤ n
    · have h4 := okT_ts hok (m := n - k) (j := k) (by omega)
      omega
    · rw [show n - k = 0 by omega] at h3
      rw [clL, tsum] at h3
      omega
  have hth0 : thr T V n R 0 0 := ⟨by omega, by omega, by omega, by simpa using hRt⟩
  refine w_iload_n dX7_numberIn_0 rfl 1 rfl ?_
  refine w_i2l dX7_numberIn_1 (by first | omega | with_reducible rfl) ?_
  refine w_lstore_n [(3, .long (zJ t)), (0, .ref (B + b)), (1, .int (zI t)), (2, .int (zI w))] dX7_numberIn_2 rfl (by decide) rfl ?_
  refine w_iconst dX7_numberIn_3 ?_
  refine w_istore [(5, .int (zI 0)), (3, .long (zJ t)), (0, .ref (B + b)), (1, .int (zI t)), (2, .int (zI w))] dX7_numberIn_4 (by decide) rfl ?_
  refine w_iconst dX7_numberIn_6 ?_
  refine w_istore [(6, .int (zI 0)), (5, .int (zI 0)), (3, .long (zJ t)), (0, .ref (B + b)), (1, .int (zI t)), (2, .int (zI w))] dX7_numberIn_7 (by decide) rfl ?_
  refine w_iconst dX7_numberIn_9 ?_
  refine w_istore [(7, .int (zI 0)), (6, .int (zI 0)), (5, .int (zI 0)), (3, .long (zJ t)), (0, .ref (B + b)), (1, .int (zI t)), (2, .int (zI w))] dX7_numberIn_10 (by decide) rfl ?_
  refine w_sub [(0, .ref (B + b)), (1, .int (zI t)), (2, .int (zI w)), (3, .long (zJ t)), (5, .int (zI 0)), (6, .int (zI 0)), (7, .int (zI 0))] [4, 5, 6, 3, 2, 1, 0] rfl ?_
  refine w_lv (lv' := [(0, .ref (B + b)), (1, .int (zI t)), (2, .int (zI w)), (3, .long (zJ t)), (5, .int (zI ((0 : Nat) : Int))), (6, .int (zI ((0 : Nat) : Int))), (7, .int (zI ((0 : Nat) : Int)))]) (lc_s (lc_s (lc_s (lc_l (by first | omega | with_reducible rfl) (lc_i (by first | omega | with_reducible rfl) (lc_i (by first | omega | with_reducible rfl) (lc_i (by first | omega | with_reducible rfl) rfl))))))) ?_
  refine w_loop4 (fun (j : Nat) (tk : Nat) (tb1 : Int) (nm : Nat) => (j ≤ n ∧ (j : Int) ≤ w + 1) ∧ thr T V n R j tk ∧ (0 ≤ tb1 ∧ tb1 < 2147483648) ∧ un T V n R t j = (tk, tb1, nm)) (fun (j : Nat) (tk : Nat) (tb1 : Int) (nm : Nat) => n - j) (fun (j : Nat) (tk : Nat) (tb1 : Int) (nm : Nat) => g) (fun (j : Nat) (tk : Nat) (tb1 : Int) (nm : Nat) => [(0, .ref (B + b)), (1, .int (zI t)), (2, .int (zI w)), (3, .long (zJ tb1)), (5, .int (zI ((tk : Nat) : Int))), (6, .int (zI ((nm : Nat) : Int))), (7, .int (zI ((j : Nat) : Int)))]) ?_ 0 0 t 0 ⟨(by first | omega | with_reducible rfl), hth0, (by first | omega | with_reducible rfl), rfl⟩
  rintro j tk tb1 nm ⟨hj, hth, htb, hun⟩ ih_12
  refine w_iload dX7_numberIn_12 6 rfl ?_
  refine w_iload_n dX7_numberIn_14 rfl 2 rfl ?_
  refine w_icmp_gt 116 dX7_numberIn_15 (by decide) (by first | omega | with_reducible rfl) (by first | omega | with_reducible rfl) (fun c_15 => ?_) (fun c_15 => ?_)
  · have hjw : j = min (w.toNat + 1) n := by omega
    refine w_iload dX7_numberIn_116 5 rfl ?_
    exact w_iret dX7_numberIn_118 rfl (by rw [← hjw, hun]) rfl
  · refine w_iload dX7_numberIn_18 6 rfl ?_
    refine w_aload_n dX7_numberIn_20 rfl 0 rfl ?_
    refine w_get (i := 0) (T := TX7) (NF := 4) b (by first | omega | with_reducible rfl) hq rfl (fun _ h => (List.mem_cons_of_mem _ (List.mem_append_left _ (List.mem_append_left _ (List.mem_append_right _ h))))) (by decide) (List.mem_of_getElem? (i := 1) rfl) rfl dX7_numberIn_21 ?_
    refine w_calli (As := []) (rest := [.int (zI ((j : Nat) : Int))]) (n := 0) (c_X0_size hc (by first | omega | with_reducible rfl)) gX7_numberIn_X0_size rfl rfl rfl (by decide +kernel) ⟨Nat.le_of_ble_eq_true rfl, Nat.le_of_ble_eq_true rfl⟩ rfl (by first | omega | with_reducible rfl) hc.1 rfl (Nat.le_of_ble_eq_true rfl) ⟨Nat.zero_le _, Nat.zero_le _⟩ dX7_numberIn_24 rfl (fun g_1 hp_2 => ?_)
    subst g_1
    refine w_icmp_ge 116 dX7_numberIn_27 (by decide) (by first | omega | with_reducible rfl) (by first | omega | with_reducible rfl) (fun c_27 => ?_) (fun c_27 => ?_)
    · have hjw : j = min (w.toNat + 1) n := by omega
      refine w_iload dX7_numberIn_116 5 rfl ?_
      exact w_iret dX7_numberIn_118 rfl (by rw [← hjw, hun]) rfl
    · have hq1 := hok.2 ((j : Nat) : Int) (by omega) (by omega)
      have ht3 : tf (((j : Nat) : Int) + 1) = ((tsum (clL T V (j + 1) (n - (j + 1))) : Nat) : Int) := htf (j + 1) (by omega)
      have htR := hth.2.1
      have hlm := thr_lo hth (by omega)
      refine w_aload_n dX7_numberIn_30 rfl 0 rfl ?_
      refine w_get (i := 1) (T := TX7) (NF := 4) b (by first | omega | with_reducible rfl) hq rfl (fun _ h => (List.mem_cons_of_mem _ (List.mem_append_left _ (List.mem_append_left _ (List.mem_append_right _ h))))) (by decide) (List.mem_of_getElem? (i := 2) rfl) rfl dX7_numberIn_31 ?_
      refine w_iload dX7_numberIn_34 6 rfl ?_
      refine w_iload dX7_numberIn_36 4 rfl ?_
      refine w_calli (As := [.int (zI ((j : Nat) : Int)), .int (zI ((tk : Nat) : Int))]) (rest := []) (n := 2) (c_X2_most hn hc (by first | omega | with_reducible rfl) (by first | omega | with_reducible rfl) hn5 (by omega) (by omega) (by first | omega | with_reducible rfl) (by first | omega | with_reducible rfl)) gX7_numberIn_X2_most rfl rfl rfl (by decide +kernel) ⟨Nat.le_of_ble_eq_true rfl, Nat.le_of_ble_eq_true rfl⟩ rfl (by first | omega | with_reducible rfl) hn.1 rfl (Nat.le_of_ble_eq_true rfl) ⟨Nat.zero_le _, Nat.zero_le _⟩ dX7_numberIn_38 rfl (fun g_3 hp_4 => ?_)
      subst g_3
      refine w_as (st' := [.int (zI (((min (T ((j : Nat) : Int)).toNat (R - tk)) : Nat) : Int))]) (sc_i (by first | omega | with_reducible rfl) rfl) ?_
      refine w_istore [(8, .int (zI (((min (T ((j : Nat) : Int)).toNat (R - tk)) : Nat) : Int))), (0, .ref (B + b)), (1, .int (zI t)), (2, .int (zI w)), (3, .long (zJ tb1)), (5, .int (zI ((tk : Nat) : Int))), (6, .int (zI ((nm : Nat) : Int))), (7, .int (zI ((j : Nat) : Int)))] dX7_numberIn_41 (by decide) rfl ?_
      refine w_aload_n dX7_numberIn_43 rfl 1 rfl ?_
      refine w_get (i := 1) (T := TX7) (NF := 4) b (by first | omega | with_reducible rfl) hq rfl (fun _ h => (List.mem_cons_of_mem _ (List.mem_append_left _ (List.mem_append_left _ (List.mem_append_right _ h))))) (by decide) (List.mem_of_getElem? (i := 2) rfl) rfl dX7_numberIn_44 ?_
      refine w_iload dX7_numberIn_47 7 rfl ?_
      refine w_iload dX7_numberIn_49 5 rfl ?_
      refine w_calli (As := [.int (zI ((j : Nat) : Int)), .int (zI ((tk : Nat) : Int))]) (rest := []) (n := 2) (c_X2_fewest hn (by first | omega | with_reducible rfl) (by omega) htfr (by first | omega | with_reducible rfl) (by first | omega | with_reducible rfl)) gX7_numberIn_X2_fewest rfl rfl rfl (by decide +kernel) ⟨Nat.le_of_ble_eq_true rfl, Nat.le_of_ble_eq_true rfl⟩ rfl (by first | omega | with_reducible rfl) hn.1 rfl (Nat.le_of_ble_eq_true rfl) ⟨Nat.zero_le _, Nat.zero_le _⟩ dX7_numberIn_51 rfl (fun g_5 hp_6 => ?_)
      subst g_5
      refine w_as (st' := [.int (zI (((lo (clL T V (j + 1) (n - (j + 1))) (R - tk)) : Nat) : Int))]) (sc_i (by rw [ht3]; unfold lo; omega) rfl) ?_
      refine w_istore [(6, .int (zI (((lo (clL T V (j + 1) (n - (j + 1))) (R - tk)) : Nat) : Int))), (8, .int (zI (((min (T ((j : Nat) : Int)).toNat (R - tk)) : Nat) : Int))), (0, .ref (B + b)), (1, .int (zI t)), (2, .int (zI w)), (3, .long (zJ tb1)), (5, .int (zI ((tk : Nat) : Int))), (7, .int (zI ((j : Nat) : Int)))] dX7_numberIn_54 (by decide) rfl ?_
      refine w_sub [(0, .ref (B + b)), (1, .int (zI t)), (2, .int (zI w)), (3, .long (zJ tb1)), (5, .int (zI ((tk : Nat) : Int))), (6, .int (zI (((lo (clL T V (j + 1) (n - (j + 1))) (R - tk)) : Nat) : Int))), (7, .int (zI ((j : Nat) : Int))), (8, .int (zI (((min (T ((j : Nat) : Int)).toNat (R - tk)) : Nat) : Int)))] [2, 3, 4, 5, 6, 0, 7, 1] rfl ?_
      refine w_lv (lv' := [(0, .ref (B + b)), (1, .int (zI t)), (2, .int (zI w)), (3, .long (zJ tb1)), (5, .int (zI ((tk : Nat) : Int))), (6, .int (zI ((((lo (clL T V (j + 1) (n - (j + 1))) (R - tk)) + 0) : Nat) : Int))), (7, .int (zI ((j : Nat) : Int))), (8, .int (zI (((min (T ((j : Nat) : Int)).toNat (R - tk)) : Nat) : Int)))]) (lc_s (lc_s (lc_s (lc_l (by first | omega | with_reducible rfl) (lc_s (lc_i (by first | omega | with_reducible rfl) (lc_s (lc_s rfl)))))))) ?_
      refine w_loop2 (fun (x : Nat) (tx : Int) => (lo (clL T V (j + 1) (n - (j + 1))) (R - tk)) + x ≤ (min (T ((j : Nat) : Int)).toNat (R - tk)) ∧ (0 ≤ tx ∧ tx ≤ tb1) ∧ pk (fun x => NV T V n R 4 (j + 1) (tk + x)) ((min (T ((j : Nat) : Int)).toNat (R - tk)) - ((lo (clL T V (j + 1) (n - (j + 1))) (R - tk)) + x)) ((lo (clL T V (j + 1) (n - (j + 1))) (R - tk)) + x) tx = pk (fun x => NV T V n R 4 (j + 1) (tk + x)) ((min (T ((j : Nat) : Int)).toNat (R - tk)) - (lo (clL T V (j + 1) (n - (j + 1))) (R - tk))) (lo (clL T V (j + 1) (n - (j + 1))) (R - tk)) tb1) (fun (x : Nat) (tx : Int) => (min (T ((j : Nat) : Int)).toNat (R - tk)) - ((lo (clL T V (j + 1) (n - (j + 1))) (R - tk)) + x)) (fun (x : Nat) (tx : Int) => g) (fun (x : Nat) (tx : Int) => [(0, .ref (B + b)), (1, .int (zI t)), (2, .int (zI w)), (3, .long (zJ tx)), (5, .int (zI ((tk : Nat) : Int))), (6, .int (zI ((((lo (clL T V (j + 1) (n - (j + 1))) (R - tk)) + x) : Nat) : Int))), (7, .int (zI ((j : Nat) : Int))), (8, .int (zI (((min (T ((j : Nat) : Int)).toNat (R - tk)) : Nat) : Int)))]) ?_ 0 tb1 ⟨(by first | omega | with_reducible rfl), (by first | omega | with_reducible rfl), rfl⟩
      rintro x tx ⟨hx, htx, hpk⟩ ih_56
      refine w_iload dX7_numberIn_56 5 rfl ?_
      refine w_iload dX7_numberIn_58 7 rfl ?_
      refine w_icmp_ge 103 dX7_numberIn_60 (by decide) (by first | omega | with_reducible rfl) (by first | omega | with_reducible rfl) (fun c_60 => ?_) (fun c_60 => ?_)
      · have hpz : pk (fun x => NV T V n R 4 (j + 1) (tk + x)) ((min (T ((j : Nat) : Int)).toNat (R - tk)) - (lo (clL T V (j + 1) (n - (j + 1))) (R - tk))) (lo (clL T V (j + 1) (n - (j + 1))) (R - tk)) tb1 = ((lo (clL T V (j + 1) (n - (j + 1))) (R - tk)) + x, tx) := by rw [← hpk, show (min (T ((j : Nat) : Int)).toNat (R - tk)) - ((lo (clL T V (j + 1) (n - (j + 1))) (R - tk)) + x) = 0 by omega]; rfl
        refine w_iload dX7_numberIn_103 4 rfl ?_
        refine w_iload dX7_numberIn_105 5 rfl ?_
        refine w_iadd dX7_numberIn_107 ?_
        refine w_istore [(5, .int (zI (((tk : Nat) : Int) + ((((lo (clL T V (j + 1) (n - (j + 1))) (R - tk)) + x) : Nat) : Int)))), (0, .ref (B + b)), (1, .int (zI t)), (2, .int (zI w)), (3, .long (zJ tx)), (6, .int (zI ((((lo (clL T V (j + 1) (n - (j + 1))) (R - tk)) + x) : Nat) : Int))), (7, .int (zI ((j : Nat) : Int))), (8, .int (zI (((min (T ((j : Nat) : Int)).toNat (R - tk)) : Nat) : Int)))] dX7_numberIn_108 (by decide) rfl ?_
        refine w_iinc 6 [(7, .int (zI (((j : Nat) : Int) + 1))), (5, .int (zI (((tk : Nat) : Int) + ((((lo (clL T V (j + 1) (n - (j + 1))) (R - tk)) + x) : Nat) : Int)))), (0, .ref (B + b)), (1, .int (zI t)), (2, .int (zI w)), (3, .long (zJ tx)), (6, .int (zI ((((lo (clL T V (j + 1) (n - (j + 1))) (R - tk)) + x) : Nat) : Int))), (8, .int (zI (((min (T ((j : Nat) : Int)).toNat (R - tk)) : Nat) : Int)))] dX7_numberIn_110 rfl (by decide) rfl ?_
        refine w_goto 12 dX7_numberIn_113 (by decide) ?_
        refine w_sub [(0, .ref (B + b)), (1, .int (zI t)), (2, .int (zI w)), (3, .long (zJ tx)), (5, .int (zI (((tk : Nat) : Int) + ((((lo (clL T V (j + 1) (n - (j + 1))) (R - tk)) + x) : Nat) : Int)))), (6, .int (zI ((((lo (clL T V (j + 1) (n - (j + 1))) (R - tk)) + x) : Nat) : Int))), (7, .int (zI (((j : Nat) : Int) + 1)))] [2, 3, 4, 5, 1, 6, 0] rfl ?_
        refine w_lv (lv' := [(0, .ref (B + b)), (1, .int (zI t)), (2, .int (zI w)), (3, .long (zJ tx)), (5, .int (zI (((tk + ((lo (clL T V (j + 1) (n - (j + 1))) (R - tk)) + x)) : Nat) : Int))), (6, .int (zI ((((lo (clL T V (j + 1) (n - (j + 1))) (R - tk)) + x) : Nat) : Int))), (7, .int (zI (((j + 1) : Nat) : Int)))]) (lc_s (lc_s (lc_s (lc_l (by first | omega | with_reducible rfl) (lc_i (by first | omega | with_reducible rfl) (lc_i (by first | omega | with_reducible rfl) (lc_i (by first | omega | with_reducible rfl) rfl))))))) ?_
        exact ih_12 (j + 1) (tk + ((lo (clL T V (j + 1) (n - (j + 1))) (R - tk)) + x)) tx ((lo (clL T V (j + 1) (n - (j + 1))) (R - tk)) + x) ⟨(by first | omega | with_reducible rfl), (thr_next' hth (by omega) (by omega) (by omega)), (by first | omega | with_reducible rfl), (by show (_, _, _) = (_, _, _); simp only [hun]; rw [hpz])⟩ (by first | omega | with_reducible rfl)
      · have hnt := NV_tc (R := R) (j := j + 1) (a := tk + ((lo (clL T V (j + 1) (n - (j + 1))) (R - tk)) + x)) hok
        refine w_aload_n dX7_numberIn_63 rfl 0 rfl ?_
        refine w_get (i := 1) (T := TX7) (NF := 4) b (by first | omega | with_reducible rfl) hq rfl (fun _ h => (List.mem_cons_of_mem _ (List.mem_append_left _ (List.mem_append_left _ (List.mem_append_right _ h))))) (by decide) (List.mem_of_getElem? (i := 2) rfl) rfl dX7_numberIn_64 ?_
        refine w_iconst dX7_numberIn_67 ?_
        refine w_iload dX7_numberIn_68 6 rfl ?_
        refine w_iconst dX7_numberIn_70 ?_
        refine w_iadd dX7_numberIn_71 ?_
        refine w_iload dX7_numberIn_72 4 rfl ?_
        refine w_iload dX7_numberIn_74 5 rfl ?_
        refine w_iadd dX7_numberIn_76 ?_
        refine w_calll (As := [.int (zI 4), .int (zI (((j : Nat) : Int) + 1)), .int (zI (((tk : Nat) : Int) + ((((lo (clL T V (j + 1) (n - (j + 1))) (R - tk)) + x) : Nat) : Int)))]) (rest := []) (n := 3) (c_X2_at hn (by first | omega | with_reducible rfl) (by first | omega | with_reducible rfl) (by first | omega | with_reducible rfl) (by first | omega | with_reducible rfl)) gX7_numberIn_X2_at rfl rfl rfl (by decide +kernel) ⟨Nat.le_of_ble_eq_true rfl, Nat.le_of_ble_eq_true rfl⟩ rfl (by first | omega | with_reducible rfl) hn.1 rfl (Nat.le_of_ble_eq_true rfl) ⟨Nat.zero_le _, Nat.zero_le _⟩ dX7_numberIn_77 rfl (fun g_7 hp_8 => ?_)
        subst g_7
        refine w_as (st' := [.long (zJ (NV T V n R 4 (j + 1) (tk + ((lo (clL T V (j + 1) (n - (j + 1))) (R - tk)) + x))))]) (sc_l (NF_NV (kd := 4) (j := j + 1) (a := tk + ((lo (clL T V (j + 1) (n - (j + 1))) (R - tk)) + x)) hNF (by omega) (by omega) (by omega) rfl (by omega) (by omega)) rfl) ?_
        refine w_lstore [(9, .long (zJ (NV T V n R 4 (j + 1) (tk + ((lo (clL T V (j + 1) (n - (j + 1))) (R - tk)) + x))))), (0, .ref (B + b)), (1, .int (zI t)), (2, .int (zI w)), (3, .long (zJ tx)), (5, .int (zI ((tk : Nat) : Int))), (6, .int (zI ((((lo (clL T V (j + 1) (n - (j + 1))) (R - tk)) + x) : Nat) : Int))), (7, .int (zI ((j : Nat) : Int))), (8, .int (zI (((min (T ((j : Nat) : Int)).toNat (R - tk)) : Nat) : Int)))] dX7_numberIn_80 (by decide) rfl ?_
        refine w_lload_n dX7_numberIn_82 rfl 4 rfl ?_
        refine w_lload dX7_numberIn_83 0 rfl ?_
        refine w_lcmp_ge 92 dX7_numberIn_85 dX7_numberIn_86 (by decide) (by first | omega | with_reducible rfl) (by first | omega | with_reducible rfl) (fun c_85 => ?_) (fun c_85 => ?_)
        · refine w_lload_n dX7_numberIn_92 rfl 4 rfl ?_
          refine w_lload dX7_numberIn_93 0 rfl ?_
          refine w_lsub dX7_numberIn_95 ?_
          refine w_lstore_n [(3, .long (zJ (tx - (NV T V n R 4 (j + 1) (tk + ((lo (clL T V (j + 1) (n - (j + 1))) (R - tk)) + x)))))), (9, .long (zJ (NV T V n R 4 (j + 1) (tk + ((lo (clL T V (j + 1) (n - (j + 1))) (R - tk)) + x))))), (0, .ref (B + b)), (1, .int (zI t)), (2, .int (zI w)), (5, .int (zI ((tk : Nat) : Int))), (6, .int (zI ((((lo (clL T V (j + 1) (n - (j + 1))) (R - tk)) + x) : Nat) : Int))), (7, .int (zI ((j : Nat) : Int))), (8, .int (zI (((min (T ((j : Nat) : Int)).toNat (R - tk)) : Nat) : Int)))] dX7_numberIn_96 rfl (by decide) rfl ?_
          refine w_iinc 6 [(6, .int (zI (((((lo (clL T V (j + 1) (n - (j + 1))) (R - tk)) + x) : Nat) : Int) + 1))), (3, .long (zJ (tx - (NV T V n R 4 (j + 1) (tk + ((lo (clL T V (j + 1) (n - (j + 1))) (R - tk)) + x)))))), (9, .long (zJ (NV T V n R 4 (j + 1) (tk + ((lo (clL T V (j + 1) (n - (j + 1))) (R - tk)) + x))))), (0, .ref (B + b)), (1, .int (zI t)), (2, .int (zI w)), (5, .int (zI ((tk : Nat) : Int))), (7, .int (zI ((j : Nat) : Int))), (8, .int (zI (((min (T ((j : Nat) : Int)).toNat (R - tk)) : Nat) : Int)))] dX7_numberIn_97 rfl (by decide) rfl ?_
          refine w_goto 56 dX7_numberIn_100 (by decide) ?_
          refine w_sub [(0, .ref (B + b)), (1, .int (zI t)), (2, .int (zI w)), (3, .long (zJ (tx - (NV T V n R 4 (j + 1) (tk + ((lo (clL T V (j + 1) (n - (j + 1))) (R - tk)) + x)))))), (5, .int (zI ((tk : Nat) : Int))), (6, .int (zI (((((lo (clL T V (j + 1) (n - (j + 1))) (R - tk)) + x) : Nat) : Int) + 1))), (7, .int (zI ((j : Nat) : Int))), (8, .int (zI (((min (T ((j : Nat) : Int)).toNat (R - tk)) : Nat) : Int)))] [3, 4, 5, 1, 6, 0, 7, 8] rfl ?_
          refine w_lv (lv' := [(0, .ref (B + b)), (1, .int (zI t)), (2, .int (zI w)), (3, .long (zJ (tx - (NV T V n R 4 (j + 1) (tk + ((lo (clL T V (j + 1) (n - (j + 1))) (R - tk)) + x)))))), (5, .int (zI ((tk : Nat) : Int))), (6, .int (zI ((((lo (clL T V (j + 1) (n - (j + 1))) (R - tk)) + (x + 1)) : Nat) : Int))), (7, .int (zI ((j : Nat) : Int))), (8, .int (zI (((min (T ((j : Nat) : Int)).toNat (R - tk)) : Nat) : Int)))]) (lc_s (lc_s (lc_s (lc_l (by first | omega | with_reducible rfl) (lc_s (lc_i (by first | omega | with_reducible rfl) (lc_s (lc_s rfl)))))))) ?_
          exact ih_56 (x + 1) (tx - (NV T V n R 4 (j + 1) (tk + ((lo (clL T V (j + 1) (n - (j + 1))) (R - tk)) + x)))) ⟨(by first | omega | with_reducible rfl), (by first | omega | with_reducible rfl), (pk_go (y := (lo (clL T V (j + 1) (n - (j + 1))) (R - tk)) + x) hpk (by omega) (by omega))⟩ (by first | omega | with_reducible rfl)
        · have hpz : pk (fun x => NV T V n R 4 (j + 1) (tk + x)) ((min (T ((j : Nat) : Int)).toNat (R - tk)) - (lo (clL T V (j + 1) (n - (j + 1))) (R - tk))) (lo (clL T V (j + 1) (n - (j + 1))) (R - tk)) tb1 = ((lo (clL T V (j + 1) (n - (j + 1))) (R - tk)) + x, tx) := pk_ok hpk (by omega) (by omega)
          refine w_goto 103 dX7_numberIn_89 (by decide) ?_
          refine w_iload dX7_numberIn_103 5 rfl ?_
          refine w_iload dX7_numberIn_105 6 rfl ?_
          refine w_iadd dX7_numberIn_107 ?_
          refine w_istore [(5, .int (zI (((tk : Nat) : Int) + ((((lo (clL T V (j + 1) (n - (j + 1))) (R - tk)) + x) : Nat) : Int)))), (9, .long (zJ (NV T V n R 4 (j + 1) (tk + ((lo (clL T V (j + 1) (n - (j + 1))) (R - tk)) + x))))), (0, .ref (B + b)), (1, .int (zI t)), (2, .int (zI w)), (3, .long (zJ tx)), (6, .int (zI ((((lo (clL T V (j + 1) (n - (j + 1))) (R - tk)) + x) : Nat) : Int))), (7, .int (zI ((j : Nat) : Int))), (8, .int (zI (((min (T ((j : Nat) : Int)).toNat (R - tk)) : Nat) : Int)))] dX7_numberIn_108 (by decide) rfl ?_
          refine w_iinc 7 [(7, .int (zI (((j : Nat) : Int) + 1))), (5, .int (zI (((tk : Nat) : Int) + ((((lo (clL T V (j + 1) (n - (j + 1))) (R - tk)) + x) : Nat) : Int)))), (9, .long (zJ (NV T V n R 4 (j + 1) (tk + ((lo (clL T V (j + 1) (n - (j + 1))) (R - tk)) + x))))), (0, .ref (B + b)), (1, .int (zI t)), (2, .int (zI w)), (3, .long (zJ tx)), (6, .int (zI ((((lo (clL T V (j + 1) (n - (j + 1))) (R - tk)) + x) : Nat) : Int))), (8, .int (zI (((min (T ((j : Nat) : Int)).toNat (R - tk)) : Nat) : Int)))] dX7_numberIn_110 rfl (by decide) rfl ?_
          refine w_goto 12 dX7_numberIn_113 (by decide) ?_
          refine w_sub [(0, .ref (B + b)), (1, .int (zI t)), (2, .int (zI w)), (3, .long (zJ tx)), (5, .int (zI (((tk : Nat) : Int) + ((((lo (clL T V (j + 1) (n - (j + 1))) (R - tk)) + x) : Nat) : Int)))), (6, .int (zI ((((lo (clL T V (j + 1) (n - (j + 1))) (R - tk)) + x) : Nat) : Int))), (7, .int (zI (((j : Nat) : Int) + 1)))] [3, 4, 5, 6, 1, 7, 0] rfl ?_
          refine w_lv (lv' := [(0, .ref (B + b)), (1, .int (zI t)), (2, .int (zI w)), (3, .long (zJ tx)), (5, .int (zI (((tk + ((lo (clL T V (j + 1) (n - (j + 1))) (R - tk)) + x)) : Nat) : Int))), (6, .int (zI ((((lo (clL T V (j + 1) (n - (j + 1))) (R - tk)) + x) : Nat) : Int))), (7, .int (zI (((j + 1) : Nat) : Int)))]) (lc_s (lc_s (lc_s (lc_l (by first | omega | with_reducible rfl) (lc_i (by first | omega | with_reducible rfl) (lc_i (by first | omega | with_reducible rfl) (lc_i (by first | omega | with_reducible rfl) rfl))))))) ?_
          exact ih_12 (j + 1) (tk + ((lo (clL T V (j + 1) (n - (j + 1))) (R - tk)) + x)) tx ((lo (clL T V (j + 1) (n - (j + 1))) (R - tk)) + x) ⟨(by first | omega | with_reducible rfl), (thr_next' hth (by omega) (by omega) (by omega)), (by first | omega | with_reducible rfl), (by show (_, _, _) = (_, _, _); simp only [hun]; rw [hpz])⟩ (by first | omega | with_reducible rfl)
set_option maxHeartbeats 4000000 in
set_option maxRecDepth 100000 in
theorem c_X7_numberInLikeliest {l : Launch} {D : va_G} {cy : Nat → ClassId} {B N : Nat} {g : Nat → va_E} {b : Nat} {tf : Int → Int} {nver : Int} {G : Nat → Int → Int} {sets n R : Nat} {cver : Int} {T X V : Int → Int} {Wy : Nat → Int → Int} {w : Int} (hq : vStr cy B g b ) (hn : vNet cy B g (b + 11) (b + 1) tf ((R : Nat) : Int) nver G) (hc : vCol cy B g (b + 1) sets n cver T X V Wy) (hB : b + 26 ≤ N) (hok : okT T V n) (hR : R ≤ 60) (hNF : NF T V n R G) (hRt : R ≤ tsum (clL T V 0 n)) (htf : ∀ j : Nat, j ≤ 5 → tf ((j : Nat) : Int) = ((tsum (clL T V j (n - j)) : Nat) : Int)) (hWy : ∀ j : Nat, j < n → ∀ x : Nat, x ≤ 12 → Wy j ((x : Nat) : Int) = ((ch (T ((j : Nat) : Int)).toNat x : Nat) : Int)) (hw : 0 ≤ w ∧ w < 5) : CTi l yX7_numberInLikeliest wsX7_numberInLikeliest (rmo 2 62) D cy B N g [.ref (B + b), .int (zI w)] ((((lz T V n R (min (w.toNat + 1) n)).2 : Nat)) : Int) (fun g' => g' = g) := by
  refine WW_of (cc := cX7_numberInLikeliest) (maxL := 8) (ret := (some .int)) (own := RX7) (by decide) rfl rfl (Nat.le_of_ble_eq_true rfl) rfl ?_
  intro pp ee ss mm bl me co hmn
  have hn5 : n ≤ 5 := hok.1
  have htfr : ∀ i : Int, 0 ≤ i → i ≤ 5 → 0 ≤ tf i ∧ tf i ≤ 60 := fun i h1 h2 => by
    obtain ⟨k, rfl⟩ := Int.eq_ofNat_of_zero_le h1
    have h3 := htf k (by omega)
    by_cases hk : k ≤ n
    · have h4 := okT_ts hok (m := n - k) (j := k) (by omega)
      omega
    · rw [show n - k = 0 by omega] at h3
      rw [clL, tsum] at h3
      omega
  have hth0 : thr T V n R 0 0 := ⟨by omega, by omega, by omega, by simpa using hRt⟩
  refine w_iconst dX7_numberInLikeliest_0 ?_
  refine w_istore_n [(2, .int (zI 0)), (0, .ref (B + b)), (1, .int (zI w))] dX7_numberInLikeliest_1 rfl (by decide) rfl ?_
  refine w_iconst dX7_numberInLikeliest_2 ?_
  refine w_istore_n [(3, .int (zI 0)), (2, .int (zI 0)), (0, .ref (B + b)), (1, .int (zI w))] dX7_numberInLikeliest_3 rfl (by decide) rfl ?_
  refine w_iconst dX7_numberInLikeliest_4 ?_
  refine w_istore [(4, .int (zI 0)), (3, .int (zI 0)), (2, .int (zI 0)), (0, .ref (B + b)), (1, .int (zI w))] dX7_numberInLikeliest_5 (by decide) rfl ?_
  refine w_sub [(0, .ref (B + b)), (1, .int (zI w)), (2, .int (zI 0)), (3, .int (zI 0)), (4, .int (zI 0))] [3, 4, 2, 1, 0] rfl ?_
  refine w_lv (lv' := [(0, .ref (B + b)), (1, .int (zI w)), (2, .int (zI ((0 : Nat) : Int))), (3, .int (zI ((0 : Nat) : Int))), (4, .int (zI ((0 : Nat) : Int)))]) (lc_s (lc_s (lc_i (by first | omega | with_reducible rfl) (lc_i (by first | omega | with_reducible rfl) (lc_i (by first | omega | with_reducible rfl) rfl))))) ?_
  refine w_loop3 (fun (j : Nat) (tk : Nat) (nm : Nat) => (j ≤ n ∧ (j : Int) ≤ w + 1) ∧ thr T V n R j tk ∧ lz T V n R j = (tk, nm)) (fun (j : Nat) (tk : Nat) (nm : Nat) => n - j) (fun (j : Nat) (tk : Nat) (nm : Nat) => g) (fun (j : Nat) (tk : Nat) (nm : Nat) => [(0, .ref (B + b)), (1, .int (zI w)), (2, .int (zI ((tk : Nat) : Int))), (3, .int (zI ((nm : Nat) : Int))), (4, .int (zI ((j : Nat) : Int)))]) ?_ 0 0 0 ⟨(by first | omega | with_reducible rfl), hth0, rfl⟩
  rintro j tk nm ⟨hj, hth, hun⟩ ih_7
  refine w_iload dX7_numberInLikeliest_7 4 rfl ?_
  refine w_iload_n dX7_numberInLikeliest_9 rfl 1 rfl ?_
  refine w_icmp_gt 118 dX7_numberInLikeliest_10 (by decide) (by first | omega | with_reducible rfl) (by first | omega | with_reducible rfl) (fun c_10 => ?_) (fun c_10 => ?_)
  · have hjw : j = min (w.toNat + 1) n := by omega
    refine w_iload_n dX7_numberInLikeliest_118 rfl 3 rfl ?_
    exact w_iret dX7_numberInLikeliest_119 rfl (by rw [← hjw, hun]) rfl
  · refine w_iload dX7_numberInLikeliest_13 4 rfl ?_
    refine w_aload_n dX7_numberInLikeliest_15 rfl 0 rfl ?_
    refine w_get (i := 0) (T := TX7) (NF := 4) b (by first | omega | with_reducible rfl) hq rfl (fun _ h => (List.mem_cons_of_mem _ (List.mem_append_left _ (List.mem_append_left _ (List.mem_append_right _ h))))) (by decide) (List.mem_of_getElem? (i := 1) rfl) rfl dX7_numberInLikeliest_16 ?_
    refine w_calli (As := []) (rest := [.int (zI ((j : Nat) : Int))]) (n := 0) (c_X0_size hc (by first | omega | with_reducible rfl)) gX7_numberInLikeliest_X0_size rfl rfl rfl (by decide +kernel) ⟨Nat.le_of_ble_eq_true rfl, Nat.le_of_ble_eq_true rfl⟩ rfl (by first | omega | with_reducible rfl) hc.1 rfl (Nat.le_of_ble_eq_true rfl) ⟨Nat.zero_le _, Nat.zero_le _⟩ dX7_numberInLikeliest_19 rfl (fun g_1 hp_2 => ?_)
    subst g_1
    refine w_icmp_ge 118 dX7_numberInLikeliest_22 (by decide) (by first | omega | with_reducible rfl) (by first | omega | with_reducible rfl) (fun c_22 => ?_) (fun c_22 => ?_)
    · have hjw : j = min (w.toNat + 1) n := by omega
      refine w_iload_n dX7_numberInLikeliest_118 rfl 3 rfl ?_
      exact w_iret dX7_numberInLikeliest_119 rfl (by rw [← hjw, hun]) rfl
    · have hq1 := hok.2 ((j : Nat) : Int) (by omega) (by omega)
      have ht3 : tf (((j : Nat) : Int) + 1) = ((tsum (clL T V (j + 1) (n - (j + 1))) : Nat) : Int) := htf (j + 1) (by omega)
      have htR := hth.2.1
      have hlm := thr_lo hth (by omega)
      refine w_aload_n dX7_numberInLikeliest_25 rfl 0 rfl ?_
      refine w_get (i := 1) (T := TX7) (NF := 4) b (by first | omega | with_reducible rfl) hq rfl (fun _ h => (List.mem_cons_of_mem _ (List.mem_append_left _ (List.mem_append_left _ (List.mem_append_right _ h))))) (by decide) (List.mem_of_getElem? (i := 2) rfl) rfl dX7_numberInLikeliest_26 ?_
      refine w_iconst dX7_numberInLikeliest_29 ?_
      refine w_iload dX7_numberInLikeliest_30 4 rfl ?_
      refine w_iload_n dX7_numberInLikeliest_32 rfl 2 rfl ?_
      refine w_calll (As := [.int (zI 2), .int (zI ((j : Nat) : Int)), .int (zI ((tk : Nat) : Int))]) (rest := []) (n := 3) (c_X2_at hn (by first | omega | with_reducible rfl) (by first | omega | with_reducible rfl) (by first | omega | with_reducible rfl) (by first | omega | with_reducible rfl)) gX7_numberInLikeliest_X2_at rfl rfl rfl (by decide +kernel) ⟨Nat.le_of_ble_eq_true rfl, Nat.le_of_ble_eq_true rfl⟩ rfl (by first | omega | with_reducible rfl) hn.1 rfl (Nat.le_of_ble_eq_true rfl) ⟨Nat.zero_le _, Nat.zero_le _⟩ dX7_numberInLikeliest_33 rfl (fun g_3 hp_4 => ?_)
      subst g_3
      have hlv := lgn_rg (R := R) (j := j) (a := tk) hok
      refine w_as (st' := [.long (zJ (NV T V n R 2 j tk))]) (sc_l (NF_NV (kd := 2) (j := j) (a := tk) hNF (by omega) (by omega) (by omega) rfl rfl rfl) rfl) ?_
      refine w_lstore [(5, .long (zJ (NV T V n R 2 j tk))), (0, .ref (B + b)), (1, .int (zI w)), (2, .int (zI ((tk : Nat) : Int))), (3, .int (zI ((nm : Nat) : Int))), (4, .int (zI ((j : Nat) : Int)))] dX7_numberInLikeliest_36 (by decide) rfl ?_
      refine w_aload_n dX7_numberInLikeliest_38 rfl 1 rfl ?_
      refine w_get (i := 1) (T := TX7) (NF := 4) b (by first | omega | with_reducible rfl) hq rfl (fun _ h => (List.mem_cons_of_mem _ (List.mem_append_left _ (List.mem_append_left _ (List.mem_append_right _ h))))) (by decide) (List.mem_of_getElem? (i := 2) rfl) rfl dX7_numberInLikeliest_39 ?_
      refine w_iload dX7_numberInLikeliest_42 5 rfl ?_
      refine w_iload_n dX7_numberInLikeliest_44 rfl 3 rfl ?_
      refine w_calli (As := [.int (zI ((j : Nat) : Int)), .int (zI ((tk : Nat) : Int))]) (rest := []) (n := 2) (c_X2_most hn hc (by first | omega | with_reducible rfl) (by first | omega | with_reducible rfl) hn5 (by omega) (by omega) (by first | omega | with_reducible rfl) (by first | omega | with_reducible rfl)) gX7_numberInLikeliest_X2_most rfl rfl rfl (by decide +kernel) ⟨Nat.le_of_ble_eq_true rfl, Nat.le_of_ble_eq_true rfl⟩ rfl (by first | omega | with_reducible rfl) hn.1 rfl (Nat.le_of_ble_eq_true rfl) ⟨Nat.zero_le _, Nat.zero_le _⟩ dX7_numberInLikeliest_45 rfl (fun g_5 hp_6 => ?_)
      subst g_5
      refine w_as (st' := [.int (zI (((min (T ((j : Nat) : Int)).toNat (R - tk)) : Nat) : Int))]) (sc_i (by first | omega | with_reducible rfl) rfl) ?_
      refine w_istore [(7, .int (zI (((min (T ((j : Nat) : Int)).toNat (R - tk)) : Nat) : Int))), (5, .long (zJ (NV T V n R 2 j tk))), (0, .ref (B + b)), (1, .int (zI w)), (2, .int (zI ((tk : Nat) : Int))), (3, .int (zI ((nm : Nat) : Int))), (4, .int (zI ((j : Nat) : Int)))] dX7_numberInLikeliest_48 (by decide) rfl ?_
      refine w_aload_n dX7_numberInLikeliest_50 rfl 2 rfl ?_
      refine w_get (i := 1) (T := TX7) (NF := 4) b (by first | omega | with_reducible rfl) hq rfl (fun _ h => (List.mem_cons_of_mem _ (List.mem_append_left _ (List.mem_append_left _ (List.mem_append_right _ h))))) (by decide) (List.mem_of_getElem? (i := 2) rfl) rfl dX7_numberInLikeliest_51 ?_
      refine w_iload dX7_numberInLikeliest_54 6 rfl ?_
      refine w_iload_n dX7_numberInLikeliest_56 rfl 4 rfl ?_
      refine w_calli (As := [.int (zI ((j : Nat) : Int)), .int (zI ((tk : Nat) : Int))]) (rest := []) (n := 2) (c_X2_fewest hn (by first | omega | with_reducible rfl) (by omega) htfr (by first | omega | with_reducible rfl) (by first | omega | with_reducible rfl)) gX7_numberInLikeliest_X2_fewest rfl rfl rfl (by decide +kernel) ⟨Nat.le_of_ble_eq_true rfl, Nat.le_of_ble_eq_true rfl⟩ rfl (by first | omega | with_reducible rfl) hn.1 rfl (Nat.le_of_ble_eq_true rfl) ⟨Nat.zero_le _, Nat.zero_le _⟩ dX7_numberInLikeliest_57 rfl (fun g_7 hp_8 => ?_)
      subst g_7
      refine w_as (st' := [.int (zI (((lo (clL T V (j + 1) (n - (j + 1))) (R - tk)) : Nat) : Int))]) (sc_i (by rw [ht3]; unfold lo; omega) rfl) ?_
      refine w_istore_n [(3, .int (zI (((lo (clL T V (j + 1) (n - (j + 1))) (R - tk)) : Nat) : Int))), (7, .int (zI (((min (T ((j : Nat) : Int)).toNat (R - tk)) : Nat) : Int))), (5, .long (zJ (NV T V n R 2 j tk))), (0, .ref (B + b)), (1, .int (zI w)), (2, .int (zI ((tk : Nat) : Int))), (4, .int (zI ((j : Nat) : Int)))] dX7_numberInLikeliest_60 rfl (by decide) rfl ?_
      refine w_sub [(0, .ref (B + b)), (1, .int (zI w)), (2, .int (zI ((tk : Nat) : Int))), (3, .int (zI (((lo (clL T V (j + 1) (n - (j + 1))) (R - tk)) : Nat) : Int))), (4, .int (zI ((j : Nat) : Int))), (5, .long (zJ (NV T V n R 2 j tk))), (7, .int (zI (((min (T ((j : Nat) : Int)).toNat (R - tk)) : Nat) : Int)))] [3, 4, 5, 0, 6, 2, 1] rfl ?_
      refine w_lv (lv' := [(0, .ref (B + b)), (1, .int (zI w)), (2, .int (zI ((tk : Nat) : Int))), (3, .int (zI ((((lo (clL T V (j + 1) (n - (j + 1))) (R - tk)) + 0) : Nat) : Int))), (4, .int (zI ((j : Nat) : Int))), (5, .long (zJ (NV T V n R 2 j tk))), (7, .int (zI (((min (T ((j : Nat) : Int)).toNat (R - tk)) : Nat) : Int)))]) (lc_s (lc_s (lc_s (lc_i (by first | omega | with_reducible rfl) (lc_s (lc_s (lc_s rfl))))))) ?_
      refine w_loop1 (fun (x : Nat) => (lo (clL T V (j + 1) (n - (j + 1))) (R - tk)) + x ≤ (min (T ((j : Nat) : Int)).toNat (R - tk)) ∧ pl (fun x => (ch (T ((j : Nat) : Int)).toNat x : Int) * NV T V n R 2 (j + 1) (tk + x)) (NV T V n R 2 j tk) ((min (T ((j : Nat) : Int)).toNat (R - tk)) - ((lo (clL T V (j + 1) (n - (j + 1))) (R - tk)) + x)) ((lo (clL T V (j + 1) (n - (j + 1))) (R - tk)) + x) = pl (fun x => (ch (T ((j : Nat) : Int)).toNat x : Int) * NV T V n R 2 (j + 1) (tk + x)) (NV T V n R 2 j tk) ((min (T ((j : Nat) : Int)).toNat (R - tk)) - (lo (clL T V (j + 1) (n - (j + 1))) (R - tk))) (lo (clL T V (j + 1) (n - (j + 1))) (R - tk))) (fun (x : Nat) => (min (T ((j : Nat) : Int)).toNat (R - tk)) - ((lo (clL T V (j + 1) (n - (j + 1))) (R - tk)) + x)) (fun (x : Nat) => g) (fun (x : Nat) => [(0, .ref (B + b)), (1, .int (zI w)), (2, .int (zI ((tk : Nat) : Int))), (3, .int (zI ((((lo (clL T V (j + 1) (n - (j + 1))) (R - tk)) + x) : Nat) : Int))), (4, .int (zI ((j : Nat) : Int))), (5, .long (zJ (NV T V n R 2 j tk))), (7, .int (zI (((min (T ((j : Nat) : Int)).toNat (R - tk)) : Nat) : Int)))]) ?_ 0 ⟨(by first | omega | with_reducible rfl), rfl⟩
      rintro x ⟨hx, hpk⟩ ih_61
      refine w_iload_n dX7_numberInLikeliest_61 rfl 3 rfl ?_
      refine w_iload dX7_numberInLikeliest_62 6 rfl ?_
      refine w_icmp_ge 108 dX7_numberInLikeliest_64 (by decide) (by first | omega | with_reducible rfl) (by first | omega | with_reducible rfl) (fun c_64 => ?_) (fun c_64 => ?_)
      · have hpz : pl (fun x => (ch (T ((j : Nat) : Int)).toNat x : Int) * NV T V n R 2 (j + 1) (tk + x)) (NV T V n R 2 j tk) ((min (T ((j : Nat) : Int)).toNat (R - tk)) - (lo (clL T V (j + 1) (n - (j + 1))) (R - tk))) (lo (clL T V (j + 1) (n - (j + 1))) (R - tk)) = (lo (clL T V (j + 1) (n - (j + 1))) (R - tk)) + x := by rw [← hpk, show (min (T ((j : Nat) : Int)).toNat (R - tk)) - ((lo (clL T V (j + 1) (n - (j + 1))) (R - tk)) + x) = 0 by omega]; rfl
        refine w_iload_n dX7_numberInLikeliest_108 rfl 2 rfl ?_
        refine w_iload_n dX7_numberInLikeliest_109 rfl 3 rfl ?_
        refine w_iadd dX7_numberInLikeliest_110 ?_
        refine w_istore_n [(2, .int (zI (((tk : Nat) : Int) + ((((lo (clL T V (j + 1) (n - (j + 1))) (R - tk)) + x) : Nat) : Int)))), (0, .ref (B + b)), (1, .int (zI w)), (3, .int (zI ((((lo (clL T V (j + 1) (n - (j + 1))) (R - tk)) + x) : Nat) : Int))), (4, .int (zI ((j : Nat) : Int))), (5, .long (zJ (NV T V n R 2 j tk))), (7, .int (zI (((min (T ((j : Nat) : Int)).toNat (R - tk)) : Nat) : Int)))] dX7_numberInLikeliest_111 rfl (by decide) rfl ?_
        refine w_iinc 4 [(4, .int (zI (((j : Nat) : Int) + 1))), (2, .int (zI (((tk : Nat) : Int) + ((((lo (clL T V (j + 1) (n - (j + 1))) (R - tk)) + x) : Nat) : Int)))), (0, .ref (B + b)), (1, .int (zI w)), (3, .int (zI ((((lo (clL T V (j + 1) (n - (j + 1))) (R - tk)) + x) : Nat) : Int))), (5, .long (zJ (NV T V n R 2 j tk))), (7, .int (zI (((min (T ((j : Nat) : Int)).toNat (R - tk)) : Nat) : Int)))] dX7_numberInLikeliest_112 rfl (by decide) rfl ?_
        refine w_goto 7 dX7_numberInLikeliest_115 (by decide) ?_
        refine w_sub [(0, .ref (B + b)), (1, .int (zI w)), (2, .int (zI (((tk : Nat) : Int) + ((((lo (clL T V (j + 1) (n - (j + 1))) (R - tk)) + x) : Nat) : Int)))), (3, .int (zI ((((lo (clL T V (j + 1) (n - (j + 1))) (R - tk)) + x) : Nat) : Int))), (4, .int (zI (((j : Nat) : Int) + 1)))] [2, 3, 1, 4, 0] rfl ?_
        refine w_lv (lv' := [(0, .ref (B + b)), (1, .int (zI w)), (2, .int (zI (((tk + ((lo (clL T V (j + 1) (n - (j + 1))) (R - tk)) + x)) : Nat) : Int))), (3, .int (zI ((((lo (clL T V (j + 1) (n - (j + 1))) (R - tk)) + x) : Nat) : Int))), (4, .int (zI (((j + 1) : Nat) : Int)))]) (lc_s (lc_s (lc_i (by first | omega | with_reducible rfl) (lc_i (by first | omega | with_reducible rfl) (lc_i (by first | omega | with_reducible rfl) rfl))))) ?_
        exact ih_7 (j + 1) (tk + ((lo (clL T V (j + 1) (n - (j + 1))) (R - tk)) + x)) ((lo (clL T V (j + 1) (n - (j + 1))) (R - tk)) + x) ⟨(by first | omega | with_reducible rfl), (thr_next' hth (by omega) (by omega) (by omega)), (by show (_, _) = (_, _); simp only [hun]; rw [hpz])⟩ (by first | omega | with_reducible rfl)
      · have hcl := chlg_rg (R := R) (j := j) (a := tk + ((lo (clL T V (j + 1) (n - (j + 1))) (R - tk)) + x)) (x := (lo (clL T V (j + 1) (n - (j + 1))) (R - tk)) + x) hok (by omega)
        refine w_aload_n dX7_numberInLikeliest_67 rfl 0 rfl ?_
        refine w_get (i := 0) (T := TX7) (NF := 4) b (by first | omega | with_reducible rfl) hq rfl (fun _ h => (List.mem_cons_of_mem _ (List.mem_append_left _ (List.mem_append_left _ (List.mem_append_right _ h))))) (by decide) (List.mem_of_getElem? (i := 1) rfl) rfl dX7_numberInLikeliest_68 ?_
        refine w_iload dX7_numberInLikeliest_71 4 rfl ?_
        refine w_iload_n dX7_numberInLikeliest_73 rfl 3 rfl ?_
        refine w_calll (As := [.int (zI ((j : Nat) : Int)), .int (zI ((((lo (clL T V (j + 1) (n - (j + 1))) (R - tk)) + x) : Nat) : Int))]) (rest := []) (n := 2) (c_X0_waysOf hc (by first | omega | with_reducible rfl) (by first | omega | with_reducible rfl) (by first | omega | with_reducible rfl) (by first | omega | with_reducible rfl)) gX7_numberInLikeliest_X0_waysOf rfl rfl rfl (by decide +kernel) ⟨Nat.le_of_ble_eq_true rfl, Nat.le_of_ble_eq_true rfl⟩ rfl (by first | omega | with_reducible rfl) hc.1 rfl (Nat.le_of_ble_eq_true rfl) ⟨Nat.zero_le _, Nat.zero_le _⟩ dX7_numberInLikeliest_74 rfl (fun g_9 hp_10 => ?_)
        subst g_9
        refine w_as (st' := [.long (zJ ((ch (T ((j : Nat) : Int)).toNat ((lo (clL T V (j + 1) (n - (j + 1))) (R - tk)) + x) : Nat) : Int))]) (sc_l (by rw [wyA_in (by omega), Int.toNat_natCast]; exact hWy _ (by omega) _ (by omega)) rfl) ?_
        refine w_aload_n dX7_numberInLikeliest_77 rfl 0 rfl ?_
        refine w_get (i := 1) (T := TX7) (NF := 4) b (by first | omega | with_reducible rfl) hq rfl (fun _ h => (List.mem_cons_of_mem _ (List.mem_append_left _ (List.mem_append_left _ (List.mem_append_right _ h))))) (by decide) (List.mem_of_getElem? (i := 2) rfl) rfl dX7_numberInLikeliest_78 ?_
        refine w_iconst dX7_numberInLikeliest_81 ?_
        refine w_iload dX7_numberInLikeliest_82 4 rfl ?_
        refine w_iconst dX7_numberInLikeliest_84 ?_
        refine w_iadd dX7_numberInLikeliest_85 ?_
        refine w_iload_n dX7_numberInLikeliest_86 rfl 2 rfl ?_
        refine w_iload_n dX7_numberInLikeliest_87 rfl 3 rfl ?_
        refine w_iadd dX7_numberInLikeliest_88 ?_
        refine w_calll (As := [.int (zI 2), .int (zI (((j : Nat) : Int) + 1)), .int (zI (((tk : Nat) : Int) + ((((lo (clL T V (j + 1) (n - (j + 1))) (R - tk)) + x) : Nat) : Int)))]) (rest := [.long (zJ ((ch (T ((j : Nat) : Int)).toNat ((lo (clL T V (j + 1) (n - (j + 1))) (R - tk)) + x) : Nat) : Int))]) (n := 3) (c_X2_at hn (by first | omega | with_reducible rfl) (by first | omega | with_reducible rfl) (by first | omega | with_reducible rfl) (by first | omega | with_reducible rfl)) gX7_numberInLikeliest_X2_at rfl rfl rfl (by decide +kernel) ⟨Nat.le_of_ble_eq_true rfl, Nat.le_of_ble_eq_true rfl⟩ rfl (by first | omega | with_reducible rfl) hn.1 rfl (Nat.le_of_ble_eq_true rfl) ⟨Nat.zero_le _, Nat.zero_le _⟩ dX7_numberInLikeliest_89 rfl (fun g_11 hp_12 => ?_)
        subst g_11
        refine w_as (st' := [.long (zJ (NV T V n R 2 (j + 1) (tk + ((lo (clL T V (j + 1) (n - (j + 1))) (R - tk)) + x)))), .long (zJ ((ch (T ((j : Nat) : Int)).toNat ((lo (clL T V (j + 1) (n - (j + 1))) (R - tk)) + x) : Nat) : Int))]) (sc_l (NF_NV (kd := 2) (j := j + 1) (a := tk + ((lo (clL T V (j + 1) (n - (j + 1))) (R - tk)) + x)) hNF (by omega) (by omega) (by omega) rfl (by omega) (by omega)) rfl) ?_
        refine w_lmul dX7_numberInLikeliest_92 ?_
        refine w_lload dX7_numberInLikeliest_93 5 rfl ?_
        refine w_lcmp_ne 102 dX7_numberInLikeliest_95 dX7_numberInLikeliest_96 (by decide) (by first | omega | with_reducible rfl) (by first | omega | with_reducible rfl) (fun c_95 => ?_) (fun c_95 => ?_)
        · refine w_iinc 3 [(3, .int (zI (((((lo (clL T V (j + 1) (n - (j + 1))) (R - tk)) + x) : Nat) : Int) + 1))), (0, .ref (B + b)), (1, .int (zI w)), (2, .int (zI ((tk : Nat) : Int))), (4, .int (zI ((j : Nat) : Int))), (5, .long (zJ (NV T V n R 2 j tk))), (7, .int (zI (((min (T ((j : Nat) : Int)).toNat (R - tk)) : Nat) : Int)))] dX7_numberInLikeliest_102 rfl (by decide) rfl ?_
          refine w_goto 61 dX7_numberInLikeliest_105 (by decide) ?_
          refine w_sub [(0, .ref (B + b)), (1, .int (zI w)), (2, .int (zI ((tk : Nat) : Int))), (3, .int (zI (((((lo (clL T V (j + 1) (n - (j + 1))) (R - tk)) + x) : Nat) : Int) + 1))), (4, .int (zI ((j : Nat) : Int))), (5, .long (zJ (NV T V n R 2 j tk))), (7, .int (zI (((min (T ((j : Nat) : Int)).toNat (R - tk)) : Nat) : Int)))] [1, 2, 3, 0, 4, 5, 6] rfl ?_
          refine w_lv (lv' := [(0, .ref (B + b)), (1, .int (zI w)), (2, .int (zI ((tk : Nat) : Int))), (3, .int (zI ((((lo (clL T V (j + 1) (n - (j + 1))) (R - tk)) + (x + 1)) : Nat) : Int))), (4, .int (zI ((j : Nat) : Int))), (5, .long (zJ (NV T V n R 2 j tk))), (7, .int (zI (((min (T ((j : Nat) : Int)).toNat (R - tk)) : Nat) : Int)))]) (lc_s (lc_s (lc_s (lc_i (by first | omega | with_reducible rfl) (lc_s (lc_s (lc_s rfl))))))) ?_
          exact ih_61 (x + 1) ⟨(by first | omega | with_reducible rfl), (pl_go (y := (lo (clL T V (j + 1) (n - (j + 1))) (R - tk)) + x) hpk (by omega) c_95)⟩ (by first | omega | with_reducible rfl)
        · have hpz : pl (fun x => (ch (T ((j : Nat) : Int)).toNat x : Int) * NV T V n R 2 (j + 1) (tk + x)) (NV T V n R 2 j tk) ((min (T ((j : Nat) : Int)).toNat (R - tk)) - (lo (clL T V (j + 1) (n - (j + 1))) (R - tk))) (lo (clL T V (j + 1) (n - (j + 1))) (R - tk)) = (lo (clL T V (j + 1) (n - (j + 1))) (R - tk)) + x := pl_ok hpk (by omega) (by omega)
          refine w_goto 108 dX7_numberInLikeliest_99 (by decide) ?_
          refine w_iload_n dX7_numberInLikeliest_108 rfl 2 rfl ?_
          refine w_iload_n dX7_numberInLikeliest_109 rfl 3 rfl ?_
          refine w_iadd dX7_numberInLikeliest_110 ?_
          refine w_istore_n [(2, .int (zI (((tk : Nat) : Int) + ((((lo (clL T V (j + 1) (n - (j + 1))) (R - tk)) + x) : Nat) : Int)))), (0, .ref (B + b)), (1, .int (zI w)), (3, .int (zI ((((lo (clL T V (j + 1) (n - (j + 1))) (R - tk)) + x) : Nat) : Int))), (4, .int (zI ((j : Nat) : Int))), (5, .long (zJ (NV T V n R 2 j tk))), (7, .int (zI (((min (T ((j : Nat) : Int)).toNat (R - tk)) : Nat) : Int)))] dX7_numberInLikeliest_111 rfl (by decide) rfl ?_
          refine w_iinc 4 [(4, .int (zI (((j : Nat) : Int) + 1))), (2, .int (zI (((tk : Nat) : Int) + ((((lo (clL T V (j + 1) (n - (j + 1))) (R - tk)) + x) : Nat) : Int)))), (0, .ref (B + b)), (1, .int (zI w)), (3, .int (zI ((((lo (clL T V (j + 1) (n - (j + 1))) (R - tk)) + x) : Nat) : Int))), (5, .long (zJ (NV T V n R 2 j tk))), (7, .int (zI (((min (T ((j : Nat) : Int)).toNat (R - tk)) : Nat) : Int)))] dX7_numberInLikeliest_112 rfl (by decide) rfl ?_
          refine w_goto 7 dX7_numberInLikeliest_115 (by decide) ?_
          refine w_sub [(0, .ref (B + b)), (1, .int (zI w)), (2, .int (zI (((tk : Nat) : Int) + ((((lo (clL T V (j + 1) (n - (j + 1))) (R - tk)) + x) : Nat) : Int)))), (3, .int (zI ((((lo (clL T V (j + 1) (n - (j + 1))) (R - tk)) + x) : Nat) : Int))), (4, .int (zI (((j : Nat) : Int) + 1)))] [2, 3, 1, 4, 0] rfl ?_
          refine w_lv (lv' := [(0, .ref (B + b)), (1, .int (zI w)), (2, .int (zI (((tk + ((lo (clL T V (j + 1) (n - (j + 1))) (R - tk)) + x)) : Nat) : Int))), (3, .int (zI ((((lo (clL T V (j + 1) (n - (j + 1))) (R - tk)) + x) : Nat) : Int))), (4, .int (zI (((j + 1) : Nat) : Int)))]) (lc_s (lc_s (lc_i (by first | omega | with_reducible rfl) (lc_i (by first | omega | with_reducible rfl) (lc_i (by first | omega | with_reducible rfl) rfl))))) ?_
          exact ih_7 (j + 1) (tk + ((lo (clL T V (j + 1) (n - (j + 1))) (R - tk)) + x)) ((lo (clL T V (j + 1) (n - (j + 1))) (R - tk)) + x) ⟨(by first | omega | with_reducible rfl), (thr_next' hth (by omega) (by omega) (by omega)), (by show (_, _) = (_, _); simp only [hun]; rw [hpz])⟩ (by first | omega | with_reducible rfl)
