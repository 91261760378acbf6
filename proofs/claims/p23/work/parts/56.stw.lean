/-! ===== the strata's methods, told over a whole stratum ===== -/
theorem CTq_mono {l : Launch} {y : MethodName} {ws : List Cond} {rm : Room} {D : va_G} {cy : Nat → ClassId} {B N : Nat} {g : Nat → va_E} {av : List Value} {E E' : Option Nat} {Hp Hp' : (Nat → va_E) → Prop} (h : CTq l y ws rm D cy B N g av E Hp) (hE : E = E') (hH : ∀ g', Hp g' → Hp' g') : CTq l y ws rm D cy B N g av E' Hp' := by
  subst hE
  intro p e ha hf hc s m args below h1 h2 h3 h4
  obtain ⟨n, o, k1, k2, k3, ⟨⟨r, u, q1, q2, q3⟩, q4⟩, q5⟩ := h p e ha hf hc s m args below h1 h2 h3 h4
  exact ⟨n, o, k1, k2, k3, ⟨⟨r, u, q1, ⟨q2.1, hH _ q2.2⟩, q3⟩, q4⟩, q5⟩
theorem NF_rg {T V : Int → Int} {n R : Nat} {G : Nat → Int → Int} (h : NF T V n R G) (hok : okT T V n) : ∀ i : Int, 0 ≤ i → i < 366 → 0 ≤ G 1 i ∧ G 1 i < 4611686018427387904 := fun i h1 h2 => by
  obtain ⟨k, rfl⟩ := Int.eq_ofNat_of_zero_le h1
  have hk := Nat.div_add_mod k 61
  have hm := Nat.mod_lt k (show 0 < 61 by omega)
  have h3 := h 1 (k / 61) (k % 61) (by omega) (by omega) (by omega)
  rw [show ((k / 61 : Nat) : Int) * 61 + ((k % 61 : Nat) : Int) = (k : Int) by omega] at h3
  rw [h3]
  rcases thr_dec T V n R (k / 61) (k % 61) with t | t
  · rw [NV_in t (by omega)]
    have h4 := bh_le (cs := clL T V (k / 61) (n - k / 61)) (r := R - k % 61)
    have h8 := t.1
    have h5 := okT_ts hok (m := n - k / 61) (j := k / 61) (by omega)
    have h6 := hok.1
    have h7 := pow_60 (k := tsum (clL T V (k / 61) (n - k / 61))) (by omega)
    show 0 ≤ bh _ _ ∧ bh _ _ < _
    omega
  · rw [NV_out t]
    omega
theorem un_congr {T V T' V' : Int → Int} {n R : Nat} {t0 : Int} (h : ∀ i : Nat, i < n → T ((i : Nat) : Int) = T' ((i : Nat) : Int) ∧ V ((i : Nat) : Int) = V' ((i : Nat) : Int)) : ∀ j : Nat, j ≤ n → un T V n R t0 j = un T' V' n R t0 j
  | 0, _ => rfl
  | j + 1, hj => by
    have e1 := un_congr (R := R) (t0 := t0) h j (by omega)
    have e2 := clL_congr (T := T) (V := V) (T' := T') (V' := V') (m := n - (j + 1)) (j := j + 1) (fun i _ h2 => h i (by omega))
    have e3 := (h j (by omega)).1
    have e4 : ∀ kd i a, NV T V n R kd i a = NV T' V' n R kd i a := fun kd i a => NV_congr h
    simp only [un, e1, e2, e3, e4]
theorem lz_congr {T V T' V' : Int → Int} {n R : Nat} (h : ∀ i : Nat, i < n → T ((i : Nat) : Int) = T' ((i : Nat) : Int) ∧ V ((i : Nat) : Int) = V' ((i : Nat) : Int)) : ∀ j : Nat, j ≤ n → lz T V n R j = lz T' V' n R j
  | 0, _ => rfl
  | j + 1, hj => by
    have e1 := lz_congr (R := R) h j (by omega)
    have e2 := clL_congr (T := T) (V := V) (T' := T') (V' := V') (m := n - (j + 1)) (j := j + 1) (fun i _ h2 => h i (by omega))
    have e3 := (h j (by omega)).1
    have e4 : ∀ kd i a, NV T V n R kd i a = NV T' V' n R kd i a := fun kd i a => NV_congr h
    simp only [lz, e1, e2, e3, e4]
theorem rp_congr {c : List Co} {T X V : Int → Int} {Wy : Nat → Int → Int} (h : AG c T X V Wy) : sm (rp T V X c.length (coR c)) c.length = sm (rp (coT c) (coV c) (coX c) c.length (coR c)) c.length := sm_congr (fun i h1 h2 => by
  have q := AG_i h h1 (by omega)
  have e1 : sm X i.toNat = sm (coX c) i.toNat := sm_congr (fun k h3 h4 => (AG_i h h3 (by omega)).2.1)
  have e4 : ∀ kd i a, NV T V c.length (coR c) kd i a = NV (coT c) (coV c) c.length (coR c) kd i a := fun kd i a => NV_congr (AG_TV h)
  unfold rp rkf
  simp only [q.2.1, e1, e4])
def vSWs (cy : Nat → ClassId) (B : Nat) (g : Nat → va_E) (b : Nat) (cs : Nat → List Co) (Ms : Nat → Int) (fs : Nat → Nat) : Prop := ∀ k : Nat, k < 3 → vSW cy B g (b + 26 * k) (cs k) (Ms k) (fs k)
theorem vSWs_fr {cy : Nat → ClassId} {B : Nat} {g g' : Nat → va_E} {b : Nat} {cs : Nat → List Co} {Ms : Nat → Int} {fs : Nat → Nat} (h : vSWs cy B g b cs Ms fs) (hq : ∀ q, b ≤ q → q < b + 78 → g' q = g q) : vSWs cy B g' b cs Ms fs := fun k hk => vSW_fr (h k hk) (fun q h1 h2 => hq q (by omega) (by omega))
theorem vSWs_set {cy : Nat → ClassId} {B : Nat} {g g' : Nat → va_E} {b : Nat} {cs : Nat → List Co} {Ms : Nat → Int} {fs : Nat → Nat} (i : Nat) {c1 : List Co} {M1 : Int} {fr1 : Nat} (h : vSWs cy B g b cs Ms fs) (hi : i < 3) (h1 : vSW cy B g' (b + 26 * i) c1 M1 fr1) (hq : ∀ q, (q < b + 26 * i ∨ b + 26 * i + 26 ≤ q) → g' q = g q) : vSWs cy B g' b (uF cs i c1) (uF Ms i M1) (uF fs i fr1) := by
  intro k hk
  by_cases hki : k = i
  · subst hki
    simp only [uF_same]
    exact h1
  · simp only [uF_ne hki]
    exact vSW_fr (h k hk) (fun q h2 h3 => hq q (by omega))
set_option maxHeartbeats 1000000 in
theorem w_X0_size {l : Launch} {D : va_G} {cy : Nat → ClassId} {B N : Nat} {g : Nat → va_E} {b : Nat} {c : List Co} {M : Int} {fr : Nat}  (hw : vSW cy B g b c M fr) (hB : b + 26 ≤ N) : CTi l yX0_size wsX0_size (rmo 0 0) D cy B N g [.ref (B + (b + 1))] ((c.length : Nat) : Int) (fun g' => g' = g) := by
  obtain ⟨ver, nver, rver, sver, T, X, V, Wy, tf, aa, G, sw, rw1, rt, lc, W, Tb, le, gr, hq, hcol, hn, hwr, hsu, hag, hM9, hN9, hR9, hS9⟩ := hw
  exact CTi_mono (c_X0_size (hc := hcol) (hN := by first | omega | assumption)) (by rfl) (fun _ h => h)

set_option maxHeartbeats 1000000 in
theorem w_X0_has {l : Launch} {D : va_G} {cy : Nat → ClassId} {B N : Nat} {g : Nat → va_E} {b : Nat} {c : List Co} {M : Int} {fr : Nat} {j : Int} (hw : vSW cy B g b c M fr) (hB : b + 26 ≤ N) (hc5 : c.length ≤ 5) (h_j : -2147483648 ≤ j ∧ j < 2147483648) : CTi l yX0_has wsX0_has (rmo 0 0) D cy B N g [.ref (B + (b + 1)), .int (zI j)] (if 0 ≤ j ∧ j < c.length then 1 else 0) (fun g' => g' = g) := by
  obtain ⟨ver, nver, rver, sver, T, X, V, Wy, tf, aa, G, sw, rw1, rt, lc, W, Tb, le, gr, hq, hcol, hn, hwr, hsu, hag, hM9, hN9, hR9, hS9⟩ := hw
  exact CTi_mono (c_X0_has (hc := hcol) (hN := by first | omega | assumption) (hn := by first | omega | assumption) (h_j := by first | omega | assumption)) (by rfl) (fun _ h => h)

set_option maxHeartbeats 1000000 in
theorem w_X0_totalOf {l : Launch} {D : va_G} {cy : Nat → ClassId} {B N : Nat} {g : Nat → va_E} {b : Nat} {c : List Co} {M : Int} {fr : Nat} {j : Int} (hw : vSW cy B g b c M fr) (hB : b + 26 ≤ N) (hc5 : c.length ≤ 5) (h_j : -2147483648 ≤ j ∧ j < 2147483648) : CTi l yX0_totalOf wsX0_totalOf (rmo 0 0) D cy B N g [.ref (B + (b + 1)), .int (zI j)] (inA c.length (coT c) j) (fun g' => g' = g) := by
  obtain ⟨ver, nver, rver, sver, T, X, V, Wy, tf, aa, G, sw, rw1, rt, lc, W, Tb, le, gr, hq, hcol, hn, hwr, hsu, hag, hM9, hN9, hR9, hS9⟩ := hw
  exact CTi_mono (c_X0_totalOf (hc := hcol) (hN := by first | omega | assumption) (hn := by first | omega | assumption) (h_j := by first | omega | assumption)) (by exact (AG_in hag j).1) (fun _ h => h)

set_option maxHeartbeats 1000000 in
theorem w_X0_aboveOf {l : Launch} {D : va_G} {cy : Nat → ClassId} {B N : Nat} {g : Nat → va_E} {b : Nat} {c : List Co} {M : Int} {fr : Nat} {j : Int} (hw : vSW cy B g b c M fr) (hB : b + 26 ≤ N) (hc5 : c.length ≤ 5) (h_j : -2147483648 ≤ j ∧ j < 2147483648) : CTi l yX0_aboveOf wsX0_aboveOf (rmo 0 0) D cy B N g [.ref (B + (b + 1)), .int (zI j)] (inA c.length (coX c) j) (fun g' => g' = g) := by
  obtain ⟨ver, nver, rver, sver, T, X, V, Wy, tf, aa, G, sw, rw1, rt, lc, W, Tb, le, gr, hq, hcol, hn, hwr, hsu, hag, hM9, hN9, hR9, hS9⟩ := hw
  exact CTi_mono (c_X0_aboveOf (hc := hcol) (hN := by first | omega | assumption) (hn := by first | omega | assumption) (h_j := by first | omega | assumption)) (by exact (AG_in hag j).2.1) (fun _ h => h)

set_option maxHeartbeats 1000000 in
theorem w_X0_scoreOf {l : Launch} {D : va_G} {cy : Nat → ClassId} {B N : Nat} {g : Nat → va_E} {b : Nat} {c : List Co} {M : Int} {fr : Nat} {j : Int} (hw : vSW cy B g b c M fr) (hB : b + 26 ≤ N) (hc5 : c.length ≤ 5) (h_j : -2147483648 ≤ j ∧ j < 2147483648) : CTi l yX0_scoreOf wsX0_scoreOf (rmo 0 0) D cy B N g [.ref (B + (b + 1)), .int (zI j)] (inA c.length (coV c) j) (fun g' => g' = g) := by
  obtain ⟨ver, nver, rver, sver, T, X, V, Wy, tf, aa, G, sw, rw1, rt, lc, W, Tb, le, gr, hq, hcol, hn, hwr, hsu, hag, hM9, hN9, hR9, hS9⟩ := hw
  exact CTi_mono (c_X0_scoreOf (hc := hcol) (hN := by first | omega | assumption) (hn := by first | omega | assumption) (h_j := by first | omega | assumption)) (by exact (AG_in hag j).2.2) (fun _ h => h)

set_option maxHeartbeats 1000000 in
theorem w_X0_allTotal {l : Launch} {D : va_G} {cy : Nat → ClassId} {B N : Nat} {g : Nat → va_E} {b : Nat} {c : List Co} {M : Int} {fr : Nat}  (hw : vSW cy B g b c M fr) (hB : b + 26 ≤ N) (hc5 : c.length ≤ 5) : CTi l yX0_allTotal wsX0_allTotal (rmo 1 21) D cy B N g [.ref (B + (b + 1))] (sm (coT c) c.length) (fun g' => g' = g) := by
  obtain ⟨ver, nver, rver, sver, T, X, V, Wy, tf, aa, G, sw, rw1, rt, lc, W, Tb, le, gr, hq, hcol, hn, hwr, hsu, hag, hM9, hN9, hR9, hS9⟩ := hw
  exact CTi_mono (c_X0_allTotal (hc := hcol) (hN := by first | omega | assumption) (hn := by first | omega | assumption)) (by exact AG_T hag) (fun _ h => h)

set_option maxHeartbeats 1000000 in
theorem w_X0_allAbove {l : Launch} {D : va_G} {cy : Nat → ClassId} {B N : Nat} {g : Nat → va_E} {b : Nat} {c : List Co} {M : Int} {fr : Nat}  (hw : vSW cy B g b c M fr) (hB : b + 26 ≤ N) (hc : cok c) : CTi l yX0_allAbove wsX0_allAbove (rmo 1 21) D cy B N g [.ref (B + (b + 1))] ((coR c : Nat) : Int) (fun g' => g' = g) := by
  obtain ⟨ver, nver, rver, sver, T, X, V, Wy, tf, aa, G, sw, rw1, rt, lc, W, Tb, le, gr, hq, hcol, hn, hwr, hsu, hag, hM9, hN9, hR9, hS9⟩ := hw
  obtain ⟨o1, o2, o3, o4, o5, o6, o7, o8, o9⟩ := SO_of hc hag
  have hc5 := hc.1
  exact CTi_mono (c_X0_allAbove (hc := hcol) (hN := by first | omega | assumption) (hn := by first | omega | assumption)) (by exact o6) (fun _ h => h)

set_option maxHeartbeats 1000000 in
theorem w_X0_seenSum {l : Launch} {D : va_G} {cy : Nat → ClassId} {B N : Nat} {g : Nat → va_E} {b : Nat} {c : List Co} {M : Int} {fr : Nat}  (hw : vSW cy B g b c M fr) (hB : b + 26 ≤ N) (hc5 : c.length ≤ 5) : CTi l yX0_seenSum wsX0_seenSum (rmo 1 21) D cy B N g [.ref (B + (b + 1))] (coS c) (fun g' => g' = g) := by
  obtain ⟨ver, nver, rver, sver, T, X, V, Wy, tf, aa, G, sw, rw1, rt, lc, W, Tb, le, gr, hq, hcol, hn, hwr, hsu, hag, hM9, hN9, hR9, hS9⟩ := hw
  exact CTi_mono (c_X0_seenSum (hc := hcol) (hN := by first | omega | assumption) (hn := by first | omega | assumption)) (by exact AG_S hag) (fun _ h => h)

set_option maxHeartbeats 1000000 in
theorem w_X0_seenWays {l : Launch} {D : va_G} {cy : Nat → ClassId} {B N : Nat} {g : Nat → va_E} {b : Nat} {c : List Co} {M : Int} {fr : Nat}  (hw : vSW cy B g b c M fr) (hB : b + 26 ≤ N) (hc : cok c) : CTl l yX0_seenWays wsX0_seenWays (rmo 1 22) D cy B N g [.ref (B + (b + 1))] (coP c) (fun g' => g' = g) := by
  obtain ⟨ver, nver, rver, sver, T, X, V, Wy, tf, aa, G, sw, rw1, rt, lc, W, Tb, le, gr, hq, hcol, hn, hwr, hsu, hag, hM9, hN9, hR9, hS9⟩ := hw
  obtain ⟨o1, o2, o3, o4, o5, o6, o7, o8, o9⟩ := SO_of hc hag
  have hc5 := hc.1
  exact CTl_mono (c_X0_seenWays (hc := hcol) (hN := by first | omega | assumption) (hn := by first | omega | assumption) (hX := o5)) (by exact AG_P hc hag) (fun _ h => h)

set_option maxHeartbeats 1000000 in
theorem w_X2_at0 {l : Launch} {D : va_G} {cy : Nat → ClassId} {B N : Nat} {g : Nat → va_E} {b : Nat} {c : List Co} {M : Int} {fr : Nat} {kd : Nat} (hw : vSW cy B g b c M fr) (hB : b + 26 ≤ N) (hc : cok c) (hfr : 1 ≤ fr) (hkd : 0 < kd ∧ kd < 8) : CTl l yX2_at wsX2_at (rmo 0 0) D cy B N g [.ref (B + (b + 11)), .int (zI ((kd : Nat) : Int)), .int (zI 0), .int (zI 0)] (nvF kd (coL c) (coR c)) (fun g' => g' = g) := by
  obtain ⟨ver, nver, rver, sver, T, X, V, Wy, tf, aa, G, sw, rw1, rt, lc, W, Tb, le, gr, hq, hcol, hn, hwr, hsu, hag, hM9, hN9, hR9, hS9⟩ := hw
  obtain ⟨o1, o2, o3, o4, o5, o6, o7, o8, o9⟩ := SO_of hc hag
  have hc5 := hc.1
  have hnv := hN9.2.1 hfr
  obtain ⟨f1, f2, f3⟩ := hN9.2.2 hnv
  subst f1
  exact CTl_mono (c_X2_at (hn := hn) (hB := by first | omega | assumption) (h_kd := by first | omega | assumption) (h_j := by first | omega | assumption) (h_a := by first | omega | assumption)) (by rw [← AG_cl hag]; exact NF_at (kd := kd) (j := 0) (a := 0) (m := c.length) f3 ⟨by omega, by omega, by omega, o3⟩ (by omega) o1.1 o2 (by omega) (by omega) rfl) (fun _ h => h)

set_option maxHeartbeats 1000000 in
theorem w_X2_atN {l : Launch} {D : va_G} {cy : Nat → ClassId} {B N : Nat} {g : Nat → va_E} {b : Nat} {c : List Co} {M : Int} {fr : Nat} {kd j a : Int} (hw : vSW cy B g b c M fr) (hB : b + 26 ≤ N) (hc : cok c) (hfr : 1 ≤ fr) (hkd : 0 ≤ kd ∧ kd < 8) (hj : 0 ≤ j ∧ j ≤ 5) (ha : 0 ≤ a ∧ a ≤ 60) : CTl l yX2_at wsX2_at (rmo 0 0) D cy B N g [.ref (B + (b + 11)), .int (zI kd), .int (zI j), .int (zI a)] (NV (coT c) (coV c) c.length (coR c) kd.toNat j.toNat a.toNat) (fun g' => g' = g) := by
  obtain ⟨ver, nver, rver, sver, T, X, V, Wy, tf, aa, G, sw, rw1, rt, lc, W, Tb, le, gr, hq, hcol, hn, hwr, hsu, hag, hM9, hN9, hR9, hS9⟩ := hw
  obtain ⟨o1, o2, o3, o4, o5, o6, o7, o8, o9⟩ := SO_of hc hag
  have hc5 := hc.1
  have hnv := hN9.2.1 hfr
  obtain ⟨f1, f2, f3⟩ := hN9.2.2 hnv
  subst f1
  exact CTl_mono (c_X2_at (hn := hn) (hB := by first | omega | assumption) (h_kd := by first | omega | assumption) (h_j := by first | omega | assumption) (h_a := by first | omega | assumption)) (by rw [← NV_congr (AG_TV hag)]; exact NF_NV (kd := kd.toNat) (j := j.toNat) (a := a.toNat) f3 (by omega) (by omega) (by omega) (by omega) (by omega) (by omega)) (fun _ h => h)

set_option maxHeartbeats 1000000 in
theorem w_X2_isThere {l : Launch} {D : va_G} {cy : Nat → ClassId} {B N : Nat} {g : Nat → va_E} {b : Nat} {c : List Co} {M : Int} {fr : Nat} {j a : Int} (hw : vSW cy B g b c M fr) (hB : b + 26 ≤ N) (hc : cok c) (hfr : 1 ≤ fr) (hj : 0 ≤ j ∧ j ≤ 5) (ha : 0 ≤ a ∧ a ≤ 60) : CTi l yX2_isThere wsX2_isThere (rmo 1 23) D cy B N g [.ref (B + (b + 11)), .int (zI j), .int (zI a)] (if 0 < (NV (coT c) (coV c) c.length (coR c) 1 j.toNat a.toNat) then 1 else 0) (fun g' => g' = g) := by
  obtain ⟨ver, nver, rver, sver, T, X, V, Wy, tf, aa, G, sw, rw1, rt, lc, W, Tb, le, gr, hq, hcol, hn, hwr, hsu, hag, hM9, hN9, hR9, hS9⟩ := hw
  obtain ⟨o1, o2, o3, o4, o5, o6, o7, o8, o9⟩ := SO_of hc hag
  have hc5 := hc.1
  have hnv := hN9.2.1 hfr
  obtain ⟨f1, f2, f3⟩ := hN9.2.2 hnv
  subst f1
  exact CTi_mono (c_X2_isThere (hn := hn) (hB := by first | omega | assumption) (hj := by first | omega | assumption) (ha := by first | omega | assumption) (hG1 := NF_rg f3 o1)) (by rw [← NV_congr (AG_TV hag), ← f3 1 j.toNat a.toNat (by omega) (by omega) (by omega), show ((j.toNat : Nat) : Int) = j by omega, show ((a.toNat : Nat) : Int) = a by omega]) (fun _ h => h)

set_option maxHeartbeats 1000000 in
theorem w_X7_allWays {l : Launch} {D : va_G} {cy : Nat → ClassId} {B N : Nat} {g : Nat → va_E} {b : Nat} {c : List Co} {M : Int} {fr : Nat}  (hw : vSW cy B g b c M fr) (hB : b + 26 ≤ N) (hc : cok c) (hfr : 1 ≤ fr) : CTl l yX7_allWays wsX7_allWays (rmo 1 23) D cy B N g [.ref (B + b)] (bh (coL c) (coR c)) (fun g' => g' = g) := by
  obtain ⟨ver, nver, rver, sver, T, X, V, Wy, tf, aa, G, sw, rw1, rt, lc, W, Tb, le, gr, hq, hcol, hn, hwr, hsu, hag, hM9, hN9, hR9, hS9⟩ := hw
  obtain ⟨o1, o2, o3, o4, o5, o6, o7, o8, o9⟩ := SO_of hc hag
  have hc5 := hc.1
  have hnv := hN9.2.1 hfr
  obtain ⟨f1, f2, f3⟩ := hN9.2.2 hnv
  subst f1
  exact CTl_mono (c_X7_allWays (hq := hq) (hn := hn) (hB := by first | omega | assumption) (hok := o1) (hR := o2) (hNF := f3) (hRt := o3) (sets := 1) (cver := ver) (X := X) (Wy := Wy)) (by rw [AG_cl hag]) (fun _ h => h)

set_option maxHeartbeats 1000000 in
theorem w_X7_tableCount {l : Launch} {D : va_G} {cy : Nat → ClassId} {B N : Nat} {g : Nat → va_E} {b : Nat} {c : List Co} {M : Int} {fr : Nat}  (hw : vSW cy B g b c M fr) (hB : b + 26 ≤ N) (hc : cok c) (hfr : 1 ≤ fr) : CTi l yX7_tableCount wsX7_tableCount (rmo 1 23) D cy B N g [.ref (B + b)] (tc (coL c) (coR c)) (fun g' => g' = g) := by
  obtain ⟨ver, nver, rver, sver, T, X, V, Wy, tf, aa, G, sw, rw1, rt, lc, W, Tb, le, gr, hq, hcol, hn, hwr, hsu, hag, hM9, hN9, hR9, hS9⟩ := hw
  obtain ⟨o1, o2, o3, o4, o5, o6, o7, o8, o9⟩ := SO_of hc hag
  have hc5 := hc.1
  have hnv := hN9.2.1 hfr
  obtain ⟨f1, f2, f3⟩ := hN9.2.2 hnv
  subst f1
  exact CTi_mono (c_X7_tableCount (hq := hq) (hn := hn) (hB := by first | omega | assumption) (hok := o1) (hR := o2) (hNF := f3) (hRt := o3) (sets := 1) (cver := ver) (X := X) (Wy := Wy)) (by rw [AG_cl hag]) (fun _ h => h)

set_option maxHeartbeats 1000000 in
theorem w_X7_seenRank {l : Launch} {D : va_G} {cy : Nat → ClassId} {B N : Nat} {g : Nat → va_E} {b : Nat} {c : List Co} {M : Int} {fr : Nat}  (hw : vSW cy B g b c M fr) (hB : b + 26 ≤ N) (hc : cok c) (hfr : 1 ≤ fr) : CTi l yX7_seenRank wsX7_seenRank (rmo 1 23) D cy B N g [.ref (B + b)] (sm (rp (coT c) (coV c) (coX c) c.length (coR c)) c.length) (fun g' => g' = g) := by
  obtain ⟨ver, nver, rver, sver, T, X, V, Wy, tf, aa, G, sw, rw1, rt, lc, W, Tb, le, gr, hq, hcol, hn, hwr, hsu, hag, hM9, hN9, hR9, hS9⟩ := hw
  obtain ⟨o1, o2, o3, o4, o5, o6, o7, o8, o9⟩ := SO_of hc hag
  have hc5 := hc.1
  have hnv := hN9.2.1 hfr
  obtain ⟨f1, f2, f3⟩ := hN9.2.2 hnv
  subst f1
  exact CTi_mono (c_X7_seenRank (hq := hq) (hn := hn) (hc := hcol) (hB := by first | omega | assumption) (hok := o1) (hR := o2) (hNF := f3) (hRt := o3) (hX := o5) (hrk := o9)) (by exact rp_congr hag) (fun _ h => h)

set_option maxHeartbeats 1000000 in
theorem w_X7_numberIn {l : Launch} {D : va_G} {cy : Nat → ClassId} {B N : Nat} {g : Nat → va_E} {b : Nat} {c : List Co} {M : Int} {fr : Nat} {t w : Int} (hw : vSW cy B g b c M fr) (hB : b + 26 ≤ N) (hc : cok c) (hfr : 1 ≤ fr) (htt : 0 ≤ t ∧ t < 2147483648) (hww : 0 ≤ w ∧ w < 5) : CTi l yX7_numberIn wsX7_numberIn (rmo 2 62) D cy B N g [.ref (B + b), .int (zI t), .int (zI w)] ((((un (coT c) (coV c) c.length (coR c) t (min (w.toNat + 1) c.length)).2.2 : Nat)) : Int) (fun g' => g' = g) := by
  obtain ⟨ver, nver, rver, sver, T, X, V, Wy, tf, aa, G, sw, rw1, rt, lc, W, Tb, le, gr, hq, hcol, hn, hwr, hsu, hag, hM9, hN9, hR9, hS9⟩ := hw
  obtain ⟨o1, o2, o3, o4, o5, o6, o7, o8, o9⟩ := SO_of hc hag
  have hc5 := hc.1
  have hnv := hN9.2.1 hfr
  obtain ⟨f1, f2, f3⟩ := hN9.2.2 hnv
  subst f1
  exact CTi_mono (c_X7_numberIn (hq := hq) (hn := hn) (hc := hcol) (hB := by first | omega | assumption) (hok := o1) (hR := o2) (hNF := f3) (hRt := o3) (htf := f2) (hWy := o4) (htt := by first | omega | assumption) (hw := hww)) (by rw [un_congr (AG_TV hag) _ (by omega)]) (fun _ h => h)

set_option maxHeartbeats 1000000 in
theorem w_X7_numberInLikeliest {l : Launch} {D : va_G} {cy : Nat → ClassId} {B N : Nat} {g : Nat → va_E} {b : Nat} {c : List Co} {M : Int} {fr : Nat} {w : Int} (hw : vSW cy B g b c M fr) (hB : b + 26 ≤ N) (hc : cok c) (hfr : 1 ≤ fr) (hww : 0 ≤ w ∧ w < 5) : CTi l yX7_numberInLikeliest wsX7_numberInLikeliest (rmo 2 62) D cy B N g [.ref (B + b), .int (zI w)] ((((lz (coT c) (coV c) c.length (coR c) (min (w.toNat + 1) c.length)).2 : Nat)) : Int) (fun g' => g' = g) := by
  obtain ⟨ver, nver, rver, sver, T, X, V, Wy, tf, aa, G, sw, rw1, rt, lc, W, Tb, le, gr, hq, hcol, hn, hwr, hsu, hag, hM9, hN9, hR9, hS9⟩ := hw
  obtain ⟨o1, o2, o3, o4, o5, o6, o7, o8, o9⟩ := SO_of hc hag
  have hc5 := hc.1
  have hnv := hN9.2.1 hfr
  obtain ⟨f1, f2, f3⟩ := hN9.2.2 hnv
  subst f1
  exact CTi_mono (c_X7_numberInLikeliest (hq := hq) (hn := hn) (hc := hcol) (hB := by first | omega | assumption) (hok := o1) (hR := o2) (hNF := f3) (hRt := o3) (htf := f2) (hWy := o4) (hw := hww)) (by rw [lz_congr (AG_TV hag) _ (by omega)]) (fun _ h => h)

set_option maxHeartbeats 1000000 in
theorem w_X2_refresh {l : Launch} {D : va_G} {cy : Nat → ClassId} {B N : Nat} {g : Nat → va_E} {b : Nat} {c : List Co} {M : Int} {fr : Nat}  (hw : vSW cy B g b c M fr) (hB : b + 26 ≤ N) (hM : M < 2147483648) (hc : cok c) : CTv l yX2_refresh wsX2_refresh (rmo 4 118) D cy B N g [.ref (B + (b + 11))] (fun g' => vSW cy B g' b c M 1 ∧ (∀ q, (q < b ∨ b + 26 ≤ q) → g' q = g q)) := by
  obtain ⟨ver, nver, rver, sver, T, X, V, Wy, tf, aa, G, sw, rw1, rt, lc, W, Tb, le, gr, hq, hcol, hn, hwr, hsu, hag, hM9, hN9, hR9, hS9⟩ := hw
  obtain ⟨o1, o2, o3, o4, o5, o6, o7, o8, o9⟩ := SO_of hc hag
  have hc5 := hc.1
  refine CTv_mono (c_X2_refresh (hn := hn) (hc := hcol) (hB := by first | omega | assumption) (hN := by first | omega | assumption) (hdis := by first | omega | assumption) (hok := o1) (hR := o2) (hRt := o3) (hWy := o4) (hv := ⟨hN9.1, by omega⟩) (hX := o6) (h0 := hN9.2.2)) ?_
  rintro g' ⟨tf1, G1, k1, k2, k3, k4⟩
  exact ⟨⟨ver, ver, rver, sver, T, X, V, Wy, tf1, _, G1, _, _, _, _, W, Tb, _, _, vStr_fr hq (fun q _ _ => k4 q (by omega)), vCol_fr hcol (fun q _ _ => k4 q (by omega)), k1, vRare_fr hwr (fun q _ _ => k4 q (by omega)), vSum_fr hsu (fun q _ _ => k4 q (by omega)), hag, hM9, ⟨⟨by omega, Int.le_refl _⟩, fun _ => rfl, fun _ => ⟨rfl, k2, k3⟩⟩, hR9, hS9⟩, fun q h9 => k4 q (by omega)⟩

set_option maxHeartbeats 1000000 in
theorem w_X7_strangeWays {l : Launch} {D : va_G} {cy : Nat → ClassId} {B N : Nat} {g : Nat → va_E} {b : Nat} {c : List Co} {M : Int} {fr : Nat} {law : Int} (hw : vSW cy B g b c M fr) (hB : b + 26 ≤ N) (hM : M < 2147483648) (hc : cok c) (h2 : 2 ≤ c.length) (hfr : 1 ≤ fr) (h_law : -2147483648 ≤ law ∧ law < 2147483648) : CTl l yX7_strangeWays wsX7_strangeWays (rmo 13 342) D cy B N g [.ref (B + b), .int (zI law)] (if law = 0 then rk 0 (coP c) (coL c) (coR c) 1 else sm (bw (swF (coL c) (coR c)) law (coS c)) 541) (fun g' => vSW cy B g' b c M fr ∧ (∀ q, (q < b ∨ b + 26 ≤ q) → g' q = g q)) := by
  obtain ⟨ver, nver, rver, sver, T, X, V, Wy, tf, aa, G, sw, rw1, rt, lc, W, Tb, le, gr, hq, hcol, hn, hwr, hsu, hag, hM9, hN9, hR9, hS9⟩ := hw
  obtain ⟨o1, o2, o3, o4, o5, o6, o7, o8, o9⟩ := SO_of hc hag
  have hc5 := hc.1
  have hnv := hN9.2.1 hfr
  obtain ⟨f1, f2, f3⟩ := hN9.2.2 hnv
  subst f1
  by_cases hl : law = 0
  · refine CTl_mono (c_X7_strangeWays_r (hq := hq) (hw := hwr) (hn := hn) (hc := hcol) (hB := by first | omega | assumption) (hok := o1) (hR := o2) (hNF := f3) (hRt := o3) (htf := f2) (hWy := o4) (hn1 := (by omega)) (hsw := o7) (hX := o5) (hv := ⟨hR9.1, by omega⟩) (h0 := hR9.2) (hl0 := hl)) (by rw [if_pos hl, AG_cl hag, AG_P hc hag]) ?_
    rintro g' ⟨k1, k2⟩
    exact ⟨⟨ver, nver, ver, sver, T, X, V, Wy, tf, _, G, _, _, _, _, W, Tb, _, _, vStr_fr hq (fun q _ _ => k2 q (by omega)), vCol_fr hcol (fun q _ _ => k2 q (by omega)), vNet_fr hn (fun q _ _ => k2 q (by omega)), k1, vSum_fr hsu (fun q _ _ => k2 q (by omega)), hag, hM9, hN9, ⟨⟨by omega, Int.le_refl _⟩, fun _ => ⟨rfl, rfl, rfl, rfl⟩⟩, hS9⟩, fun q h9 => k2 q (by omega)⟩
  · refine CTl_mono (c_X7_strangeWays_s (hq := hq) (hs := hsu) (hn := hn) (hc := hcol) (hB := by first | omega | assumption) (hok := o1) (hR := o2) (hNF := f3) (hRt := o3) (htf := f2) (hWy := o4) (hn1 := (by omega)) (hv := ⟨hS9.1, by omega⟩) (h0 := hS9.2) (hl1 := ⟨h_law, hl⟩) (hss := o8)) (by rw [if_neg hl, AG_cl hag, AG_S hag]) ?_
    rintro g' ⟨W2, T2, k1, k3, k4, k2⟩
    exact ⟨⟨ver, nver, rver, ver, T, X, V, Wy, tf, _, G, _, _, _, _, W2, T2, _, _, vStr_fr hq (fun q _ _ => k2 q (by omega)), vCol_fr hcol (fun q _ _ => k2 q (by omega)), vNet_fr hn (fun q _ _ => k2 q (by omega)), vRare_fr hwr (fun q _ _ => k2 q (by omega)), k1, hag, hM9, hN9, hR9, ⟨⟨by omega, Int.le_refl _⟩, fun _ => ⟨rfl, rfl, k3, k4⟩⟩⟩, fun q h9 => k2 q (by omega)⟩

set_option maxHeartbeats 1000000 in
theorem w_X7_strangeTables {l : Launch} {D : va_G} {cy : Nat → ClassId} {B N : Nat} {g : Nat → va_E} {b : Nat} {c : List Co} {M : Int} {fr : Nat} {law : Int} (hw : vSW cy B g b c M fr) (hB : b + 26 ≤ N) (hM : M < 2147483648) (hc : cok c) (h2 : 2 ≤ c.length) (hfr : 1 ≤ fr) (h_law : -2147483648 ≤ law ∧ law < 2147483648) : CTi l yX7_strangeTables wsX7_strangeTables (rmo 13 342) D cy B N g [.ref (B + b), .int (zI law)] (if law = 0 then rk 1 (coP c) (coL c) (coR c) 1 else sm (bw (stF (coL c) (coR c)) law (coS c)) 541) (fun g' => vSW cy B g' b c M fr ∧ (∀ q, (q < b ∨ b + 26 ≤ q) → g' q = g q)) := by
  obtain ⟨ver, nver, rver, sver, T, X, V, Wy, tf, aa, G, sw, rw1, rt, lc, W, Tb, le, gr, hq, hcol, hn, hwr, hsu, hag, hM9, hN9, hR9, hS9⟩ := hw
  obtain ⟨o1, o2, o3, o4, o5, o6, o7, o8, o9⟩ := SO_of hc hag
  have hc5 := hc.1
  have hnv := hN9.2.1 hfr
  obtain ⟨f1, f2, f3⟩ := hN9.2.2 hnv
  subst f1
  by_cases hl : law = 0
  · refine CTi_mono (c_X7_strangeTables_r (hq := hq) (hw := hwr) (hn := hn) (hc := hcol) (hB := by first | omega | assumption) (hok := o1) (hR := o2) (hNF := f3) (hRt := o3) (htf := f2) (hWy := o4) (hn1 := (by omega)) (hsw := o7) (hX := o5) (hv := ⟨hR9.1, by omega⟩) (h0 := hR9.2) (hl0 := hl)) (by rw [if_pos hl, AG_cl hag, AG_P hc hag]) ?_
    rintro g' ⟨k1, k2⟩
    exact ⟨⟨ver, nver, ver, sver, T, X, V, Wy, tf, _, G, _, _, _, _, W, Tb, _, _, vStr_fr hq (fun q _ _ => k2 q (by omega)), vCol_fr hcol (fun q _ _ => k2 q (by omega)), vNet_fr hn (fun q _ _ => k2 q (by omega)), k1, vSum_fr hsu (fun q _ _ => k2 q (by omega)), hag, hM9, hN9, ⟨⟨by omega, Int.le_refl _⟩, fun _ => ⟨rfl, rfl, rfl, rfl⟩⟩, hS9⟩, fun q h9 => k2 q (by omega)⟩
  · refine CTi_mono (c_X7_strangeTables_s (hq := hq) (hs := hsu) (hn := hn) (hc := hcol) (hB := by first | omega | assumption) (hok := o1) (hR := o2) (hNF := f3) (hRt := o3) (htf := f2) (hWy := o4) (hn1 := (by omega)) (hv := ⟨hS9.1, by omega⟩) (h0 := hS9.2) (hl1 := ⟨h_law, hl⟩) (hss := o8)) (by rw [if_neg hl, AG_cl hag, AG_S hag]) ?_
    rintro g' ⟨W2, T2, k1, k3, k4, k2⟩
    exact ⟨⟨ver, nver, rver, ver, T, X, V, Wy, tf, _, G, _, _, _, _, W2, T2, _, _, vStr_fr hq (fun q _ _ => k2 q (by omega)), vCol_fr hcol (fun q _ _ => k2 q (by omega)), vNet_fr hn (fun q _ _ => k2 q (by omega)), vRare_fr hwr (fun q _ _ => k2 q (by omega)), k1, hag, hM9, hN9, hR9, ⟨⟨by omega, Int.le_refl _⟩, fun _ => ⟨rfl, rfl, k3, k4⟩⟩⟩, fun q h9 => k2 q (by omega)⟩

set_option maxHeartbeats 1000000 in
theorem w_X7_freshRare {l : Launch} {D : va_G} {cy : Nat → ClassId} {B N : Nat} {g : Nat → va_E} {b : Nat} {c : List Co} {M : Int} {fr : Nat}  (hw : vSW cy B g b c M fr) (hB : b + 26 ≤ N) (hM : M < 2147483648) (hc : cok c) (h2 : 2 ≤ c.length) (hfr : 1 ≤ fr) : CTq l yX7_freshRare wsX7_freshRare (rmo 12 308) D cy B N g [.ref (B + b)] (some (B + (b + 22))) (fun g' => ∃ cv : Int, vSW cy B g' b c M fr ∧ (vRare cy B g' (b + 22) (b + 1) (b + 11) (coP c) (rk 0 (coP c) (coL c) (coR c) 1) (rk 1 (coP c) (coL c) (coR c) 1) (rk 2 (coP c) (coL c) (coR c) 1) cv) ∧ (∀ q, (q < b ∨ b + 26 ≤ q) → g' q = g q)) := by
  obtain ⟨ver, nver, rver, sver, T, X, V, Wy, tf, aa, G, sw, rw1, rt, lc, W, Tb, le, gr, hq, hcol, hn, hwr, hsu, hag, hM9, hN9, hR9, hS9⟩ := hw
  obtain ⟨o1, o2, o3, o4, o5, o6, o7, o8, o9⟩ := SO_of hc hag
  have hc5 := hc.1
  have hnv := hN9.2.1 hfr
  obtain ⟨f1, f2, f3⟩ := hN9.2.2 hnv
  subst f1
  refine CTq_mono (c_X7_freshRare (hq := hq) (hw := hwr) (hn := hn) (hc := hcol) (hB := by first | omega | assumption) (hok := o1) (hR := o2) (hNF := f3) (hRt := o3) (htf := f2) (hWy := o4) (hn1 := (by omega)) (hsw := o7) (hX := o5) (hv := ⟨hR9.1, by omega⟩) (h0 := hR9.2)) rfl ?_
  rintro g' ⟨k1, k2⟩
  refine ⟨ver, ⟨ver, nver, ver, sver, T, X, V, Wy, tf, _, G, _, _, _, _, W, Tb, _, _, vStr_fr hq (fun q _ _ => k2 q (by omega)), vCol_fr hcol (fun q _ _ => k2 q (by omega)), vNet_fr hn (fun q _ _ => k2 q (by omega)), k1, vSum_fr hsu (fun q _ _ => k2 q (by omega)), hag, hM9, hN9, ⟨⟨by omega, Int.le_refl _⟩, fun _ => ⟨rfl, rfl, rfl, rfl⟩⟩, hS9⟩, ?_, fun q h9 => k2 q (by omega)⟩
  rw [← AG_cl hag, ← AG_P hc hag]
  exact k1

set_option maxHeartbeats 1000000 in
theorem w_X7_freshSums {l : Launch} {D : va_G} {cy : Nat → ClassId} {B N : Nat} {g : Nat → va_E} {b : Nat} {c : List Co} {M : Int} {fr : Nat}  (hw : vSW cy B g b c M fr) (hB : b + 26 ≤ N) (hM : M < 2147483648) (hc : cok c) (h2 : 2 ≤ c.length) (hfr : 1 ≤ fr) : CTq l yX7_freshSums wsX7_freshSums (rmo 12 322) D cy B N g [.ref (B + b)] (some (B + (b + 23))) (fun g' => ∃ cv : Int, ∃ W2 : Int → Int, ∃ T2 : Int → Int, vSW cy B g' b c M fr ∧ (vSum cy B g' (b + 23) (b + 1) (b + 11) W2 T2 (les (coL c) (coR c)) (grs (coL c) (coR c)) cv) ∧ (∀ y : Int, 0 ≤ y → y ≤ 540 → W2 y = swF (coL c) (coR c) y) ∧ (∀ q, (q < b ∨ b + 26 ≤ q) → g' q = g q)) := by
  obtain ⟨ver, nver, rver, sver, T, X, V, Wy, tf, aa, G, sw, rw1, rt, lc, W, Tb, le, gr, hq, hcol, hn, hwr, hsu, hag, hM9, hN9, hR9, hS9⟩ := hw
  obtain ⟨o1, o2, o3, o4, o5, o6, o7, o8, o9⟩ := SO_of hc hag
  have hc5 := hc.1
  have hnv := hN9.2.1 hfr
  obtain ⟨f1, f2, f3⟩ := hN9.2.2 hnv
  subst f1
  refine CTq_mono (c_X7_freshSums (hq := hq) (hs := hsu) (hn := hn) (hc := hcol) (hB := by first | omega | assumption) (hok := o1) (hR := o2) (hNF := f3) (hRt := o3) (htf := f2) (hWy := o4) (hn1 := (by omega)) (hv := ⟨hS9.1, by omega⟩) (h0 := hS9.2)) rfl ?_
  rintro g' ⟨W2, T2, k1, k3, k4, k2⟩
  refine ⟨ver, W2, T2, ⟨ver, nver, rver, ver, T, X, V, Wy, tf, _, G, _, _, _, _, W2, T2, _, _, vStr_fr hq (fun q _ _ => k2 q (by omega)), vCol_fr hcol (fun q _ _ => k2 q (by omega)), vNet_fr hn (fun q _ _ => k2 q (by omega)), vRare_fr hwr (fun q _ _ => k2 q (by omega)), k1, hag, hM9, hN9, hR9, ⟨⟨by omega, Int.le_refl _⟩, fun _ => ⟨rfl, rfl, k3, k4⟩⟩⟩, ?_, ?_, fun q h9 => k2 q (by omega)⟩
  · rw [← AG_cl hag]
    exact k1
  · rw [← AG_cl hag]
    exact k3

set_option maxHeartbeats 1000000 in
theorem w_X0_tellAbove {l : Launch} {D : va_G} {cy : Nat → ClassId} {B N : Nat} {g : Nat → va_E} {b : Nat} {c : List Co} {M : Int} {fr : Nat} {j x : Int} (hw : vSW cy B g b c M fr) (hB : b + 26 ≤ N) (hc5 : c.length ≤ 5) (hj : 0 ≤ j ∧ j < c.length) : CTv l yX0_tellAbove wsX0_tellAbove (rmo 1 21) D cy B N g [.ref (B + (b + 1)), .int (zI j), .int (zI x)] (fun g' => vSW cy B g' b (upX c j x) (M + 1) 0 ∧ (∀ q, (q < b ∨ b + 26 ≤ q) → g' q = g q)) := by
  obtain ⟨ver, nver, rver, sver, T, X, V, Wy, tf, aa, G, sw, rw1, rt, lc, W, Tb, le, gr, hq, hcol, hn, hwr, hsu, hag, hM9, hN9, hR9, hS9⟩ := hw
  refine CTv_mono (c_X0_tellAbove (hc := hcol) (hN := by first | omega | assumption) (hn := by first | omega | assumption) (hj := by first | omega | assumption)) ?_
  rintro g' ⟨k1, k2⟩
  rw [← upX_len c j x] at k1
  exact ⟨vSW_new hq hn hwr hsu hM9 hN9 hR9 hS9 k1 (by omega) (AG_upX hag hj) (fun q h9 => k2 q (by omega)), fun q h9 => k2 q (by omega)⟩

set_option maxHeartbeats 1000000 in
theorem w_X0_tellScore {l : Launch} {D : va_G} {cy : Nat → ClassId} {B N : Nat} {g : Nat → va_E} {b : Nat} {c : List Co} {M : Int} {fr : Nat} {j x : Int} (hw : vSW cy B g b c M fr) (hB : b + 26 ≤ N) (hc5 : c.length ≤ 5) (hj : 0 ≤ j ∧ j < c.length) : CTv l yX0_tellScore wsX0_tellScore (rmo 1 21) D cy B N g [.ref (B + (b + 1)), .int (zI j), .int (zI x)] (fun g' => vSW cy B g' b (upV c j x) (M + 1) 0 ∧ (∀ q, (q < b ∨ b + 26 ≤ q) → g' q = g q)) := by
  obtain ⟨ver, nver, rver, sver, T, X, V, Wy, tf, aa, G, sw, rw1, rt, lc, W, Tb, le, gr, hq, hcol, hn, hwr, hsu, hag, hM9, hN9, hR9, hS9⟩ := hw
  refine CTv_mono (c_X0_tellScore (hc := hcol) (hN := by first | omega | assumption) (hn := by first | omega | assumption) (hj := by first | omega | assumption)) ?_
  rintro g' ⟨k1, k2⟩
  rw [← upV_len c j x] at k1
  exact ⟨vSW_new hq hn hwr hsu hM9 hN9 hR9 hS9 k1 (by omega) (AG_upV hag hj) (fun q h9 => k2 q (by omega)), fun q h9 => k2 q (by omega)⟩

set_option maxHeartbeats 1000000 in
theorem w_X3_keep {l : Launch} {D : va_G} {cy : Nat → ClassId} {B N : Nat} {g : Nat → va_E} {b : Nat} {c : List Co} {M : Int} {fr : Nat} {pb nx sz : Nat} {wh : Int → Int} {Rw : Nat → Int → Int} {s : Int} (hp : vPast cy B g pb wh Rw nx sz) (hw : vSW cy B g b c M fr) (hB : b + 26 ≤ N) (hpB : pb + 9 ≤ N) (hx : nx < 6) (hc5 : c.length ≤ 5) (hd : b + 26 ≤ pb ∨ pb + 9 ≤ b) (hs : sz ≤ 6) : CTv l yX3_keep wsX3_keep (rmo 1 40) D cy B N g [.ref (B + pb), .int (zI s), .ref (B + (b + 1))] (fun g' => ∃ Rn : Int → Int, vPast cy B g' pb (uZ wh ((nx : Nat) : Int) s) (uF Rw nx Rn) (if nx + 1 < 6 then nx + 1 else 0) (min (sz + 1) 6) ∧ (∀ j : Int, 0 ≤ j → j < 5 → Rn j = inA c.length (coX c) j ∧ Rn (5 + j) = inA c.length (coV c) j) ∧ (∀ q, (q < pb ∨ pb + 9 ≤ q) → g' q = g q)) := by
  obtain ⟨ver, nver, rver, sver, T, X, V, Wy, tf, aa, G, sw, rw1, rt, lc, W, Tb, le, gr, hq, hcol, hn, hwr, hsu, hag, hM9, hN9, hR9, hS9⟩ := hw
  refine CTv_mono (c_X3_keep (hp := hp) (hc := hcol) (hB := hpB) (hx := by first | omega | assumption) (hs := by first | omega | assumption) (hN := by first | omega | assumption) (hn := by first | omega | assumption) (hd := by first | omega | assumption)) ?_
  rintro g' ⟨Rn, k1, k3, k2⟩
  exact ⟨Rn, k1, fun j h1 h9 => by rw [← (AG_in hag j).2.1, ← (AG_in hag j).2.2]; exact k3 j h1 h9, fun q h9 => k2 q (by omega)⟩

set_option maxHeartbeats 1000000 in
theorem w_X3_giveBack {l : Launch} {D : va_G} {cy : Nat → ClassId} {B N : Nat} {g : Nat → va_E} {b : Nat} {c : List Co} {M : Int} {fr : Nat} {pb nx sz : Nat} {wh : Int → Int} {Rw : Nat → Int → Int} (hp : vPast cy B g pb wh Rw nx sz) (hw : vSW cy B g b c M fr) (hB : b + 26 ≤ N) (hpB : pb + 9 ≤ N) (hx : nx < 6) (hc5 : c.length ≤ 5) (hd : b + 26 ≤ pb ∨ pb + 9 ≤ b) (hs : 0 < sz ∧ sz ≤ 6) (hn1 : 1 ≤ c.length) : CTv l yX3_giveBack wsX3_giveBack (rmo 2 43) D cy B N g [.ref (B + pb), .ref (B + (b + 1))] (fun g' => vPast cy B g' pb wh Rw (lrow nx) (sz - 1) ∧ vSW cy B g' b (put c (Rw (lrow nx))) (M + 10) 0 ∧ (∀ q, ((q < pb ∨ pb + 9 ≤ q) ∧ (q < b ∨ b + 26 ≤ q)) → g' q = g q)) := by
  obtain ⟨ver, nver, rver, sver, T, X, V, Wy, tf, aa, G, sw, rw1, rt, lc, W, Tb, le, gr, hq, hcol, hn, hwr, hsu, hag, hM9, hN9, hR9, hS9⟩ := hw
  refine CTv_mono (c_X3_giveBack (hp := hp) (hc := hcol) (hB := hpB) (hx := by first | omega | assumption) (hs := by first | omega | assumption) (hN := by omega) (hn := by first | omega | assumption) (hd := by first | omega | assumption)) ?_
  rintro g' ⟨X1, V1, k1, k3, k4, k2⟩
  rw [← put_len c (Rw (lrow nx))] at k3
  have hln := put_len c (Rw (lrow nx))
  refine ⟨k1, ?_, fun q h9 => k2 q (by omega)⟩
  refine vSW_new (g := fun q => if q < b ∨ b + 26 ≤ q then g' q else g q) ?_ ?_ ?_ ?_ hM9 hN9 hR9 hS9 k3 (by omega) (AG_put hag k4) ?_
  · exact vStr_fr hq (fun q _ _ => if_neg (by omega))
  · exact vNet_fr hn (fun q _ _ => if_neg (by omega))
  · exact vRare_fr hwr (fun q _ _ => if_neg (by omega))
  · exact vSum_fr hsu (fun q _ _ => if_neg (by omega))
  · intro q h9
    show g' q = if q < b ∨ b + 26 ≤ q then g' q else g q
    by_cases h8 : q < b ∨ b + 26 ≤ q
    · rw [if_pos h8]
    · rw [if_neg h8]
      exact k2 q (by omega)

set_option maxHeartbeats 1000000 in
theorem w_X0_copyOf {l : Launch} {D : va_G} {cy : Nat → ClassId} {B N : Nat} {g : Nat → va_E} {b : Nat} {c : List Co} {M : Int} {fr : Nat} {ob on : Nat} {over : Int} {oT oX oV : Int → Int} {oW : Nat → Int → Int} {Cn : Nat → Int → Int} {c1 : List Co} (hw : vSW cy B g b c M fr) (ho : vCol cy B g ob 1 on over oT oX oV oW) (hst : vSets cy B g 1 Cn) (hB : b + 26 ≤ N) (hoN : ob + 10 ≤ N) (hb : 16 ≤ b ∧ 16 ≤ ob) (hd3 : b + 26 ≤ ob ∨ ob + 10 ≤ b) (hCn : ∀ t x : Nat, t ≤ 12 → x ≤ 12 → setA Cn ((t : Nat) : Int) ((x : Nat) : Int) = ((ch t x : Nat) : Int)) (hc1 : cok c1) (hon : on = c1.length) (hco : ∀ j : Nat, j < on → oT ((j : Nat) : Int) = coT c1 ((j : Nat) : Int) ∧ oX ((j : Nat) : Int) = coX c1 ((j : Nat) : Int) ∧ oV ((j : Nat) : Int) = coV c1 ((j : Nat) : Int)) : CTv l yX0_copyOf wsX0_copyOf (rmo 2 46) D cy B N g [.ref (B + (b + 1)), .ref (B + ob)] (fun g' => vSW cy B g' b c1 (M + 6) 0 ∧ (∀ q, (q < b ∨ b + 26 ≤ q) → g' q = g q)) := by
  obtain ⟨ver, nver, rver, sver, T, X, V, Wy, tf, aa, G, sw, rw1, rt, lc, W, Tb, le, gr, hq, hcol, hn, hwr, hsu, hag, hM9, hN9, hR9, hS9⟩ := hw
  subst hon
  have hco' : ∀ j : Int, 0 ≤ j → j < c1.length → oT j = coT c1 j ∧ oX j = coX c1 j ∧ oV j = coV c1 j := fun j h1 h2 => by
    obtain ⟨k, rfl⟩ := Int.eq_ofNat_of_zero_le h1
    exact hco k (by omega)
  refine CTv_mono (c_X0_copyOf (hc := hcol) (ho := ho) (hs := hst) (hN := by first | omega | assumption) (hoN := by first | omega | assumption) (hSn := by first | omega | assumption) (hd := by first | omega | assumption) (hd2 := by first | omega | assumption) (hd3 := by first | omega | assumption) (hon := hc1.1) (hoT := (fun j h1 h2 => by have d := hco' j h1 h2; have e := hc1.2 j h1 h2; rw [d.1, d.2.1, d.2.2]; omega))) ?_
  rintro g' ⟨T1, X1, V1, W1, k1, k3, k2⟩
  have h15 := hc1.1
  refine ⟨vSW_new hq hn hwr hsu hM9 hN9 hR9 hS9 k1 (by omega) (fun j hj => ?_) (fun q h9 => k2 q (by omega)), fun q h9 => k2 q (by omega)⟩
  obtain ⟨e1, e2, e3, e4⟩ := k3 ((j : Nat) : Int) (by omega) (by omega)
  obtain ⟨d1, d2, d3⟩ := hco' ((j : Nat) : Int) (by omega) (by omega)
  have hb9 := hc1.2 ((j : Nat) : Int) (by omega) (by omega)
  refine ⟨by rw [e1, d1], by rw [e2, d2], by rw [e3, d3], fun x hx => ?_⟩
  have e5 := e4 ((x : Nat) : Int) (by omega) (by omega)
  rw [Int.toNat_natCast] at e5
  rw [e5, e1]
  have h7 := hCn (oT ((j : Nat) : Int)).toNat x (by rw [d1]; omega) hx
  rw [show (((oT ((j : Nat) : Int)).toNat : Nat) : Int) = oT ((j : Nat) : Int) by rw [d1]; omega] at h7
  exact h7

