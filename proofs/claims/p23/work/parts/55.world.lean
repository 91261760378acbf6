/-! ===== a stratum as it is told; what its cells hold ===== -/
def coT (c : List Co) : Int → Int := fun j => (c.getD j.toNat (0, 0, 0)).1
def coX (c : List Co) : Int → Int := fun j => (c.getD j.toNat (0, 0, 0)).2.1
def coV (c : List Co) : Int → Int := fun j => (c.getD j.toNat (0, 0, 0)).2.2
def coW (c : List Co) : Int → Int := fun j => ((ch (coT c j).toNat (coX c j).toNat : Nat) : Int)
def coL (c : List Co) : List (Nat × Nat) := clL (coT c) (coV c) 0 c.length
def coR (c : List Co) : Nat := (sm (coX c) c.length).toNat
def coS (c : List Co) : Int := sm (xv (coX c) (coV c)) c.length
def coP (c : List Co) : Int := pr (coW c) c.length
def cok (c : List Co) : Prop := c.length ≤ 5 ∧ ∀ j : Int, 0 ≤ j → j < c.length → (1 ≤ coT c j ∧ coT c j ≤ 12) ∧ (0 ≤ coX c j ∧ coX c j ≤ coT c j) ∧ (0 ≤ coV c j ∧ coV c j ≤ 9)
def AG (c : List Co) (T X V : Int → Int) (Wy : Nat → Int → Int) : Prop := ∀ j : Nat, j < c.length → T ((j : Nat) : Int) = coT c ((j : Nat) : Int) ∧ X ((j : Nat) : Int) = coX c ((j : Nat) : Int) ∧ V ((j : Nat) : Int) = coV c ((j : Nat) : Int) ∧ ∀ x : Nat, x ≤ 12 → Wy j ((x : Nat) : Int) = ((ch (T ((j : Nat) : Int)).toNat x : Nat) : Int)
theorem clL_congr {T V T' V' : Int → Int} : ∀ {m j : Nat}, (∀ i : Nat, j ≤ i → i < j + m → T ((i : Nat) : Int) = T' ((i : Nat) : Int) ∧ V ((i : Nat) : Int) = V' ((i : Nat) : Int)) → clL T V j m = clL T' V' j m
  | 0, _, _ => rfl
  | m + 1, j, h => by
    rw [clL, clL, clL_congr (m := m) (j := j + 1) (fun i h1 h2 => h i (by omega) (by omega)), (h j (Nat.le_refl _) (by omega)).1, (h j (Nat.le_refl _) (by omega)).2]
theorem clR_congr {T V T' V' : Int → Int} : ∀ {j : Nat}, (∀ i : Nat, i < j → T ((i : Nat) : Int) = T' ((i : Nat) : Int) ∧ V ((i : Nat) : Int) = V' ((i : Nat) : Int)) → clR T V j = clR T' V' j
  | 0, _ => rfl
  | j + 1, h => by
    rw [clR, clR, clR_congr (j := j) (fun i h1 => h i (by omega)), (h j (by omega)).1, (h j (by omega)).2]
theorem NV_congr {T V T' V' : Int → Int} {n R kd j a : Nat} (h : ∀ i : Nat, i < n → T ((i : Nat) : Int) = T' ((i : Nat) : Int) ∧ V ((i : Nat) : Int) = V' ((i : Nat) : Int)) : NV T V n R kd j a = NV T' V' n R kd j a := by
  by_cases hj : j ≤ n
  · have e1 := clL_congr (T := T) (V := V) (T' := T') (V' := V') (m := j) (j := 0) (fun i _ h2 => h i (by omega))
    have e2 := clL_congr (T := T) (V := V) (T' := T') (V' := V') (m := n - j) (j := j) (fun i _ h2 => h i (by omega))
    have e3 := clR_congr (T := T) (V := V) (T' := T') (V' := V') (j := j) (fun i h2 => h i (by omega))
    unfold NV
    rw [e1, e2, e3]
  · rw [NV_far (by omega), NV_far (by omega)]
theorem AG_TV {c : List Co} {T X V : Int → Int} {Wy : Nat → Int → Int} (h : AG c T X V Wy) : ∀ i : Nat, i < c.length → T ((i : Nat) : Int) = coT c ((i : Nat) : Int) ∧ V ((i : Nat) : Int) = coV c ((i : Nat) : Int) := fun i hi => ⟨(h i hi).1, (h i hi).2.2.1⟩
theorem AG_cl {c : List Co} {T X V : Int → Int} {Wy : Nat → Int → Int} (h : AG c T X V Wy) : clL T V 0 c.length = coL c := clL_congr (fun i _ h2 => AG_TV h i (by omega))
theorem AG_i {c : List Co} {T X V : Int → Int} {Wy : Nat → Int → Int} (h : AG c T X V Wy) {j : Int} (h1 : 0 ≤ j) (h2 : j < c.length) : T j = coT c j ∧ X j = coX c j ∧ V j = coV c j ∧ ∀ x : Nat, x ≤ 12 → Wy j.toNat ((x : Nat) : Int) = ((ch (T j).toNat x : Nat) : Int) := by
  obtain ⟨k, rfl⟩ := Int.eq_ofNat_of_zero_le h1
  exact h k (by omega)
theorem AG_in {c : List Co} {T X V : Int → Int} {Wy : Nat → Int → Int} (h : AG c T X V Wy) (j : Int) : inA c.length T j = inA c.length (coT c) j ∧ inA c.length X j = inA c.length (coX c) j ∧ inA c.length V j = inA c.length (coV c) j := by
  by_cases hj : 0 ≤ j ∧ j < c.length
  · rw [inA_in hj, inA_in hj, inA_in hj, inA_in hj, inA_in hj, inA_in hj]
    have q := AG_i h hj.1 hj.2
    exact ⟨q.1, q.2.1, q.2.2.1⟩
  · rw [inA_out hj, inA_out hj, inA_out hj, inA_out hj, inA_out hj, inA_out hj]
    exact ⟨rfl, rfl, rfl⟩
theorem AG_T {c : List Co} {T X V : Int → Int} {Wy : Nat → Int → Int} (h : AG c T X V Wy) : sm T c.length = sm (coT c) c.length := sm_congr (fun i h1 h2 => (AG_i h h1 (by omega)).1)
theorem AG_X {c : List Co} {T X V : Int → Int} {Wy : Nat → Int → Int} (h : AG c T X V Wy) : sm X c.length = sm (coX c) c.length := sm_congr (fun i h1 h2 => (AG_i h h1 (by omega)).2.1)
theorem AG_S {c : List Co} {T X V : Int → Int} {Wy : Nat → Int → Int} (h : AG c T X V Wy) : sm (xv X V) c.length = coS c := sm_congr (fun i h1 h2 => by
  have q := AG_i h h1 (by omega)
  unfold xv
  rw [q.2.1, q.2.2.1])
theorem pr_congr {f g : Int → Int} : ∀ {k : Nat}, (∀ i : Int, 0 ≤ i → i < k → f i = g i) → pr f k = pr g k
  | 0, _ => rfl
  | k + 1, h => by
    show pr f k * f (k : Int) = pr g k * g (k : Int)
    rw [pr_congr (fun i h1 h2 => h i h1 (by omega)), h (k : Int) (by omega) (by omega)]
theorem AG_W {c : List Co} {T X V : Int → Int} {Wy : Nat → Int → Int} (hc : cok c) (h : AG c T X V Wy) {j : Int} (h1 : 0 ≤ j) (h2 : j < c.length) : wx Wy X j = coW c j := by
  have q := AG_i h h1 h2
  have r := hc.2 j h1 h2
  unfold wx coW
  obtain ⟨x, hx⟩ := Int.eq_ofNat_of_zero_le r.2.1.1
  rw [q.2.1, hx, q.2.2.2 x (by omega), q.1, Int.toNat_natCast]
theorem AG_P {c : List Co} {T X V : Int → Int} {Wy : Nat → Int → Int} (hc : cok c) (h : AG c T X V Wy) : pr (wx Wy X) c.length = coP c := pr_congr (fun i h1 h2 => AG_W hc h h1 (by omega))
theorem AG_okT {c : List Co} {T X V : Int → Int} {Wy : Nat → Int → Int} (hc : cok c) (h : AG c T X V Wy) : okT T V c.length := ⟨hc.1, fun j h1 h2 => by
  have q := AG_i h h1 h2
  have r := hc.2 j h1 h2
  rw [q.1, q.2.2.1]
  exact ⟨r.1, r.2.2⟩⟩
theorem co_okT {c : List Co} (hc : cok c) : okT (coT c) (coV c) c.length := ⟨hc.1, fun j h1 h2 => ⟨(hc.2 j h1 h2).1, (hc.2 j h1 h2).2.2⟩⟩
theorem co_bd {c : List Co} (hc : cok c) : ∀ k : Nat, k ≤ c.length → (0 ≤ sm (coX c) k ∧ sm (coX c) k ≤ 12 * k) ∧ sm (coX c) k ≤ ((tsum (clL (coT c) (coV c) 0 k) : Nat) : Int) ∧ (0 ≤ sm (xv (coX c) (coV c)) k ∧ sm (xv (coX c) (coV c)) k ≤ 108 * k) ∧ (0 ≤ pr (coW c) k ∧ pr (coW c) k ≤ 2 ^ tsum (clL (coT c) (coV c) 0 k))
  | 0, _ => by simp [sm, pr, clL, tsum]
  | k + 1, hk => by
    obtain ⟨⟨a1, a2⟩, a3, ⟨a4, a5⟩, a6, a7⟩ := co_bd hc k (by omega)
    obtain ⟨⟨b1, b2⟩, ⟨b3, b4⟩, b5, b6⟩ := hc.2 ((k : Nat) : Int) (by omega) (by omega)
    have hts := ts_pre (coT c) (coV c) k 0
    rw [Nat.zero_add] at hts
    have h1 : 0 ≤ coX c ((k : Nat) : Int) * coV c ((k : Nat) : Int) := Int.mul_nonneg b3 b5
    have h2 : coX c ((k : Nat) : Int) * coV c ((k : Nat) : Int) ≤ 12 * 9 := Int.mul_le_mul (by omega) b6 b5 (by omega)
    refine ⟨?_, ?_, ?_, ?_⟩
    · rw [sm_1]
      omega
    · rw [sm_1, hts]
      omega
    · rw [sm_1]
      show 0 ≤ _ + coX c ((k : Nat) : Int) * coV c ((k : Nat) : Int) ∧ _ + coX c ((k : Nat) : Int) * coV c ((k : Nat) : Int) ≤ _
      omega
    · rw [pr_1, hts, Int.pow_add]
      have h3 := ch_le (coT c ((k : Nat) : Int)).toNat (coX c ((k : Nat) : Int)).toNat
      have h4 : coW c ((k : Nat) : Int) ≤ 2 ^ (coT c ((k : Nat) : Int)).toNat := by
        unfold coW
        exact_mod_cast h3
      have h5 : 0 ≤ coW c ((k : Nat) : Int) := by
        unfold coW
        omega
      exact ⟨Int.mul_nonneg a6 h5, Int.mul_le_mul a7 h4 h5 (Int.le_of_lt (Int.pow_pos (by omega)))⟩
theorem srN_bd {f : Nat → Int} {a : Nat} : ∀ {k : Nat}, (∀ i, i < k → 0 ≤ f (a + i) ∧ f (a + i) ≤ 371293) → 0 ≤ srN f a k ∧ srN f a k ≤ 371293 * k
  | 0, _ => by rw [srN]; omega
  | k + 1, h => by
    have h1 := srN_bd (k := k) (fun i hi => h i (by omega))
    have h2 := h k (by omega)
    rw [srN]
    omega
theorem rp_bd {T V X : Int → Int} {n R : Nat} (hok : okT T V n) (hX : ∀ j : Int, 0 ≤ j → j < n → 0 ≤ X j ∧ X j ≤ 12) : ∀ k : Nat, k ≤ n → 0 ≤ sm (rp T V X n R) k ∧ sm (rp T V X n R) k ≤ 4455516 * k
  | 0, _ => by simp [sm]
  | k + 1, hk => by
    have h1 := rp_bd (R := R) hok hX k (by omega)
    have h2 := hX ((k : Nat) : Int) (by omega) (by omega)
    have h3 := srN_bd (f := rkf T V X n R k) (a := 0) (k := (X ((k : Nat) : Int)).toNat) (fun i _ => NV_tc hok)
    rw [sm_1]
    have h4 : rp T V X n R ((k : Nat) : Int) = srN (rkf T V X n R k) 0 (X ((k : Nat) : Int)).toNat := rfl
    omega
theorem SO_of {c : List Co} {T X V : Int → Int} {Wy : Nat → Int → Int} (hc : cok c) (h : AG c T X V Wy) : okT T V c.length ∧ coR c ≤ 60 ∧ coR c ≤ tsum (clL T V 0 c.length) ∧ (∀ j : Nat, j < c.length → ∀ x : Nat, x ≤ 12 → Wy j ((x : Nat) : Int) = ((ch (T ((j : Nat) : Int)).toNat x : Nat) : Int)) ∧ (∀ j : Int, 0 ≤ j → j < c.length → 0 ≤ X j ∧ X j ≤ 12) ∧ sm X c.length = ((coR c : Nat) : Int) ∧ (0 ≤ pr (wx Wy X) c.length ∧ pr (wx Wy X) c.length ≤ 1152921504606846976) ∧ (0 ≤ sm (xv X V) c.length ∧ sm (xv X V) c.length ≤ 540) ∧ (0 ≤ sm (rp T V X c.length (coR c)) c.length ∧ sm (rp T V X c.length (coR c)) c.length < 2147483648) := by
  obtain ⟨⟨a1, a2⟩, a3, ⟨a4, a5⟩, a6, a7⟩ := co_bd hc c.length (Nat.le_refl _)
  have h5 := hc.1
  have hX : ∀ j : Int, 0 ≤ j → j < c.length → 0 ≤ X j ∧ X j ≤ 12 := fun j h1 h2 => by
    have q := AG_i h h1 h2
    have r := hc.2 j h1 h2
    rw [q.2.1]
    omega
  have hR : ((coR c : Nat) : Int) = sm (coX c) c.length := by
    unfold coR
    omega
  have hcl : clL T V 0 c.length = coL c := AG_cl h
  have hcl2 : clL (coT c) (coV c) 0 c.length = coL c := rfl
  rw [hcl2] at a3 a7
  have hok := AG_okT hc h
  have hts := okT_ts hok (m := c.length) (j := 0) (by omega)
  rw [hcl] at hts
  have hp60 := pow_60 (k := tsum (coL c)) (by omega)
  have hrb := rp_bd (R := coR c) hok hX c.length (Nat.le_refl _)
  refine ⟨hok, by omega, by rw [hcl]; omega, fun j hj => (h j hj).2.2.2, hX, by rw [AG_X h, hR], ?_, ?_, by omega⟩
  · rw [AG_P hc h]
    unfold coP
    omega
  · rw [AG_S h]
    unfold coS
    omega
def swN (c : List Co) (fr : Nat) (ver nver : Int) (T V tf : Int → Int) (aa : Int) (G : Nat → Int → Int) : Prop := (0 ≤ nver ∧ nver ≤ ver) ∧ (1 ≤ fr → nver = ver) ∧ (nver = ver → aa = ((coR c : Nat) : Int) ∧ (∀ j : Nat, j ≤ 5 → tf ((j : Nat) : Int) = ((tsum (clL T V j (c.length - j)) : Nat) : Int)) ∧ NF T V c.length (coR c) G)
def swR (c : List Co) (ver rver sw rw1 rt lc : Int) (T X V : Int → Int) (Wy : Nat → Int → Int) : Prop := (0 ≤ rver ∧ rver ≤ ver) ∧ (rver = ver → sw = pr (wx Wy X) c.length ∧ rw1 = rk 0 (pr (wx Wy X) c.length) (clL T V 0 c.length) (coR c) 1 ∧ rt = rk 1 (pr (wx Wy X) c.length) (clL T V 0 c.length) (coR c) 1 ∧ lc = rk 2 (pr (wx Wy X) c.length) (clL T V 0 c.length) (coR c) 1)
def swS (c : List Co) (ver sver le gr : Int) (W Tb T V : Int → Int) : Prop := (0 ≤ sver ∧ sver ≤ ver) ∧ (sver = ver → le = les (clL T V 0 c.length) (coR c) ∧ gr = grs (clL T V 0 c.length) (coR c) ∧ (∀ y : Int, 0 ≤ y → y ≤ 540 → W y = sW (clL T V 0 c.length) (coR c) 0 1 y) ∧ (∀ y : Int, 0 ≤ y → y ≤ 540 → Tb y = sT (clL T V 0 c.length) (coR c) 0 y))
/-- a stratum's cells from b on hold the columns c; with 1 ≤ fr its net is fresh; its versions are M at most -/
def vSW (cy : Nat → ClassId) (B : Nat) (g : Nat → va_E) (b : Nat) (c : List Co) (M : Int) (fr : Nat) : Prop := ∃ (ver nver rver sver : Int) (T X V : Int → Int) (Wy : Nat → Int → Int) (tf : Int → Int) (aa : Int) (G : Nat → Int → Int) (sw rw1 rt lc : Int) (W Tb : Int → Int) (le gr : Int), vStr cy B g b ∧ vCol cy B g (b + 1) 1 c.length ver T X V Wy ∧ vNet cy B g (b + 11) (b + 1) tf aa nver G ∧ vRare cy B g (b + 22) (b + 1) (b + 11) sw rw1 rt lc rver ∧ vSum cy B g (b + 23) (b + 1) (b + 11) W Tb le gr sver ∧ AG c T X V Wy ∧ (1 ≤ ver ∧ ver ≤ M) ∧ swN c fr ver nver T V tf aa G ∧ swR c ver rver sw rw1 rt lc T X V Wy ∧ swS c ver sver le gr W Tb T V
theorem vSW_fr {cy : Nat → ClassId} {B : Nat} {g g' : Nat → va_E} {b : Nat} {c : List Co} {M : Int} {fr : Nat} (h : vSW cy B g b c M fr) (hq : ∀ q, b ≤ q → q < b + 26 → g' q = g q) : vSW cy B g' b c M fr := by
  obtain ⟨ver, nver, rver, sver, T, X, V, Wy, tf, aa, G, sw, rw1, rt, lc, W, Tb, le, gr, h1, h2, h3, h4, h5, h6⟩ := h
  exact ⟨ver, nver, rver, sver, T, X, V, Wy, tf, aa, G, sw, rw1, rt, lc, W, Tb, le, gr, vStr_fr h1 (fun q _ _ => hq q (by omega) (by omega)), vCol_fr h2 (fun q _ _ => hq q (by omega) (by omega)), vNet_fr h3 (fun q _ _ => hq q (by omega) (by omega)), vRare_fr h4 (fun q _ _ => hq q (by omega) (by omega)), vSum_fr h5 (fun q _ _ => hq q (by omega) (by omega)), h6⟩
theorem vSW_str {cy : Nat → ClassId} {B : Nat} {g : Nat → va_E} {b : Nat} {c : List Co} {M : Int} {fr : Nat} (h : vSW cy B g b c M fr) : vStr cy B g b := by
  obtain ⟨ver, nver, rver, sver, T, X, V, Wy, tf, aa, G, sw, rw1, rt, lc, W, Tb, le, gr, h1, -⟩ := h
  exact h1
theorem vSW_col {cy : Nat → ClassId} {B : Nat} {g : Nat → va_E} {b : Nat} {c : List Co} {M : Int} {fr : Nat} (h : vSW cy B g b c M fr) : ∃ fs, g (b + 1) = .inr (0, fs) := by
  obtain ⟨ver, nver, rver, sver, T, X, V, Wy, tf, aa, G, sw, rw1, rt, lc, W, Tb, le, gr, -, h1, -⟩ := h
  exact ⟨_, h1.1⟩
theorem vSW_net {cy : Nat → ClassId} {B : Nat} {g : Nat → va_E} {b : Nat} {c : List Co} {M : Int} {fr : Nat} (h : vSW cy B g b c M fr) : ∃ fs, g (b + 11) = .inr (2, fs) := by
  obtain ⟨ver, nver, rver, sver, T, X, V, Wy, tf, aa, G, sw, rw1, rt, lc, W, Tb, le, gr, -, -, h1, -⟩ := h
  exact ⟨_, h1.1⟩
theorem vSW_mono {cy : Nat → ClassId} {B : Nat} {g : Nat → va_E} {b : Nat} {c : List Co} {M M' : Int} {fr : Nat} (h : vSW cy B g b c M fr) (hM : M ≤ M') : vSW cy B g b c M' 0 := by
  obtain ⟨ver, nver, rver, sver, T, X, V, Wy, tf, aa, G, sw, rw1, rt, lc, W, Tb, le, gr, h1, h2, h3, h4, h5, h6, h7, h8, h9⟩ := h
  exact ⟨ver, nver, rver, sver, T, X, V, Wy, tf, aa, G, sw, rw1, rt, lc, W, Tb, le, gr, h1, h2, h3, h4, h5, h6, ⟨h7.1, by omega⟩, ⟨h8.1, fun q => absurd q (by omega), h8.2.2⟩, h9⟩
/-- told anew: the net, the walks are out of date -/
theorem vSW_new {cy : Nat → ClassId} {B : Nat} {g g' : Nat → va_E} {b : Nat} {c c' : List Co} {M M' : Int} {ver nver rver sver ver' : Int} {T X V T' X' V' : Int → Int} {Wy Wy' : Nat → Int → Int} {tf : Int → Int} {aa : Int} {G : Nat → Int → Int} {sw rw1 rt lc : Int} {W Tb : Int → Int} {le gr : Int} {fr : Nat}
    (h1 : vStr cy B g b) (h3 : vNet cy B g (b + 11) (b + 1) tf aa nver G) (h4 : vRare cy B g (b + 22) (b + 1) (b + 11) sw rw1 rt lc rver) (h5 : vSum cy B g (b + 23) (b + 1) (b + 11) W Tb le gr sver) (h7 : 1 ≤ ver ∧ ver ≤ M) (h8 : swN c fr ver nver T V tf aa G) (h9 : swR c ver rver sw rw1 rt lc T X V Wy) (h10 : swS c ver sver le gr W Tb T V)
    (h2 : vCol cy B g' (b + 1) 1 c'.length ver' T' X' V' Wy') (hv : ver < ver' ∧ ver' ≤ M') (hag : AG c' T' X' V' Wy') (hq : ∀ q, (q < b + 1 ∨ b + 1 + 10 ≤ q) → g' q = g q) : vSW cy B g' b c' M' 0 := by
  have a1 := h8.1
  have a2 := h9.1
  have a3 := h10.1
  exact ⟨ver', nver, rver, sver, T', X', V', Wy', tf, aa, G, sw, rw1, rt, lc, W, Tb, le, gr, vStr_fr h1 (fun q _ _ => hq q (by omega)), h2, vNet_fr h3 (fun q _ _ => hq q (by omega)), vRare_fr h4 (fun q _ _ => hq q (by omega)), vSum_fr h5 (fun q _ _ => hq q (by omega)), hag, ⟨by omega, by omega⟩, ⟨⟨a1.1, by omega⟩, fun q => absurd q (by omega), fun q => absurd q (by omega)⟩, ⟨⟨a2.1, by omega⟩, fun q => absurd q (by omega)⟩, ⟨⟨a3.1, by omega⟩, fun q => absurd q (by omega)⟩⟩
/-- a column's number, score told anew; a stratum as a row of the past has it -/
def upX (c : List Co) (j x : Int) : List Co := if 0 ≤ j ∧ j < c.length then c.set j.toNat (coT c j, x, coV c j) else c
def upV (c : List Co) (j x : Int) : List Co := if 0 ≤ j ∧ j < c.length then c.set j.toNat (coT c j, coX c j, x) else c
def put (c : List Co) (r : Int → Int) : List Co := (List.range c.length).map (fun j => (coT c ((j : Nat) : Int), r ((j : Nat) : Int), r (5 + ((j : Nat) : Int))))
theorem upX_len (c : List Co) (j x : Int) : (upX c j x).length = c.length := by
  unfold upX
  split
  · exact List.length_set
  · rfl
theorem upV_len (c : List Co) (j x : Int) : (upV c j x).length = c.length := by
  unfold upV
  split
  · exact List.length_set
  · rfl
theorem put_len (c : List Co) (r : Int → Int) : (put c r).length = c.length := by
  unfold put
  rw [List.length_map, List.length_range]
theorem setD_at {α : Type} {l : List α} {i k : Nat} {v d : α} (hi : i < l.length) : (l.set i v).getD k d = if k = i then v else l.getD k d := by
  rw [List.getD_eq_getElem?_getD, List.getElem?_set, List.getD_eq_getElem?_getD]
  by_cases h : k = i
  · subst h
    simp [hi]
  · rw [if_neg (Ne.symm h), if_neg h]
theorem upX_at {c : List Co} {j x : Int} (hj : 0 ≤ j ∧ j < c.length) (i : Int) (hi : 0 ≤ i) : coT (upX c j x) i = coT c i ∧ coX (upX c j x) i = (if i = j then x else coX c i) ∧ coV (upX c j x) i = coV c i := by
  unfold upX coT coX coV
  rw [if_pos hj, setD_at (by omega)]
  by_cases h : i = j
  · subst h
    rw [if_pos rfl, if_pos rfl]
    exact ⟨rfl, rfl, rfl⟩
  · rw [if_neg (show ¬ i.toNat = j.toNat by omega), if_neg h]
    exact ⟨rfl, rfl, rfl⟩
theorem upV_at {c : List Co} {j x : Int} (hj : 0 ≤ j ∧ j < c.length) (i : Int) (hi : 0 ≤ i) : coT (upV c j x) i = coT c i ∧ coX (upV c j x) i = coX c i ∧ coV (upV c j x) i = (if i = j then x else coV c i) := by
  unfold upV coT coX coV
  rw [if_pos hj, setD_at (by omega)]
  by_cases h : i = j
  · subst h
    rw [if_pos rfl, if_pos rfl]
    exact ⟨rfl, rfl, rfl⟩
  · rw [if_neg (show ¬ i.toNat = j.toNat by omega), if_neg h]
    exact ⟨rfl, rfl, rfl⟩
theorem put_at {c : List Co} {r : Int → Int} {i : Int} (h1 : 0 ≤ i) (h2 : i < c.length) : coT (put c r) i = coT c i ∧ coX (put c r) i = r i ∧ coV (put c r) i = r (5 + i) := by
  obtain ⟨k, rfl⟩ := Int.eq_ofNat_of_zero_le h1
  have e : (put c r).getD k (0, 0, 0) = (coT c ((k : Nat) : Int), r ((k : Nat) : Int), r (5 + ((k : Nat) : Int))) := by
    unfold put
    rw [List.getD_eq_getElem?_getD, List.getElem?_map, List.getElem?_range (by omega)]
    rfl
  have e' : (put c r).getD ((k : Nat) : Int).toNat (0, 0, 0) = (coT c ((k : Nat) : Int), r ((k : Nat) : Int), r (5 + ((k : Nat) : Int))) := e
  refine ⟨?_, ?_, ?_⟩
  · show ((put c r).getD ((k : Nat) : Int).toNat (0, 0, 0)).1 = _
    rw [e']
  · show ((put c r).getD ((k : Nat) : Int).toNat (0, 0, 0)).2.1 = _
    rw [e']
  · show ((put c r).getD ((k : Nat) : Int).toNat (0, 0, 0)).2.2 = _
    rw [e']
theorem AG_upX {c : List Co} {T X V : Int → Int} {Wy : Nat → Int → Int} (h : AG c T X V Wy) {j x : Int} (hj : 0 ≤ j ∧ j < c.length) : AG (upX c j x) T (uZ X j x) V Wy := fun i hi => by
  rw [upX_len] at hi
  have q := h i hi
  obtain ⟨e1, e2, e3⟩ := upX_at (x := x) hj ((i : Nat) : Int) (by omega)
  rw [e1, e2, e3]
  exact ⟨q.1, by unfold uZ; (split; rfl; exact q.2.1), q.2.2⟩
theorem AG_upV {c : List Co} {T X V : Int → Int} {Wy : Nat → Int → Int} (h : AG c T X V Wy) {j x : Int} (hj : 0 ≤ j ∧ j < c.length) : AG (upV c j x) T X (uZ V j x) Wy := fun i hi => by
  rw [upV_len] at hi
  have q := h i hi
  obtain ⟨e1, e2, e3⟩ := upV_at (x := x) hj ((i : Nat) : Int) (by omega)
  rw [e1, e2, e3]
  exact ⟨q.1, q.2.1, by unfold uZ; (split; rfl; exact q.2.2.1), q.2.2.2⟩
theorem AG_put {c : List Co} {T X V X1 V1 r : Int → Int} {Wy : Nat → Int → Int} (h : AG c T X V Wy) (hr : ∀ y : Int, 0 ≤ y → y < c.length → X1 y = r y ∧ V1 y = r (5 + y)) : AG (put c r) T X1 V1 Wy := fun i hi => by
  rw [put_len] at hi
  have q := h i hi
  obtain ⟨e1, e2, e3⟩ := put_at (r := r) (c := c) (i := ((i : Nat) : Int)) (by omega) (by omega)
  have w := hr ((i : Nat) : Int) (by omega) (by omega)
  rw [e1, e2, e3]
  exact ⟨q.1, w.1, w.2, q.2.2.2⟩
/-- two strata of the same columns are one -/
theorem co_ext {c d : List Co} (hl : c.length = d.length) (h : ∀ i : Nat, i < c.length → coT c ((i : Nat) : Int) = coT d ((i : Nat) : Int) ∧ coX c ((i : Nat) : Int) = coX d ((i : Nat) : Int) ∧ coV c ((i : Nat) : Int) = coV d ((i : Nat) : Int)) : c = d := by
  apply List.ext_getElem hl
  intro i h1 h2
  have q := h i h1
  have e1 : c.getD ((i : Nat) : Int).toNat (0, 0, 0) = c[i] := by
    rw [Int.toNat_natCast, List.getD_eq_getElem?_getD, List.getElem?_eq_getElem h1]
    rfl
  have e2 : d.getD ((i : Nat) : Int).toNat (0, 0, 0) = d[i] := by
    rw [Int.toNat_natCast, List.getD_eq_getElem?_getD, List.getElem?_eq_getElem h2]
    rfl
  unfold coT coX coV at q
  rw [e1, e2] at q
  exact Prod.ext q.1 (Prod.ext q.2.1 q.2.2)
