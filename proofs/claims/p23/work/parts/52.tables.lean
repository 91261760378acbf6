/-! ===== the walks as sums over all tables ===== -/
theorem sumL_zero {α : Type} {f : α → Int} : ∀ {l : List α}, (∀ u ∈ l, f u = 0) → sumL f l = 0
  | [], _ => rfl
  | u :: l, h => by
    show f u + sumL f l = 0
    rw [h u List.mem_cons_self, sumL_zero (fun v hv => h v (List.mem_cons_of_mem _ hv))]
    rfl
theorem sumL_nn {α : Type} {f : α → Int} : ∀ {l : List α}, (∀ u ∈ l, 0 ≤ f u) → 0 ≤ sumL f l
  | [], _ => Int.le_refl 0
  | u :: l, h => by
    have h1 := h u List.mem_cons_self
    have h2 := sumL_nn (l := l) (fun v hv => h v (List.mem_cons_of_mem _ hv))
    show 0 ≤ f u + sumL f l
    omega
theorem sumL_le {α : Type} {f g : α → Int} : ∀ {l : List α}, (∀ u ∈ l, f u ≤ g u) → sumL f l ≤ sumL g l
  | [], _ => Int.le_refl 0
  | u :: l, h => by
    have h1 := h u List.mem_cons_self
    have h2 := sumL_le (l := l) (fun v hv => h v (List.mem_cons_of_mem _ hv))
    show f u + sumL f l ≤ g u + sumL g l
    omega
theorem sumL_tb (f : List Nat → Int) (c : Nat × Nat) (cs : List (Nat × Nat)) (r : Nat) : sumL f (tb (c :: cs) r) = srN (fun x => sumL (fun u => f (x :: u)) (tb cs (r - x))) (lo cs r) (nn c cs r) := by
  rw [tb, sumL_flat]
  exact srN_congr (fun i _ => sumL_map _ _ _)
theorem nn_x {c : Nat × Nat} {cs : List (Nat × Nat)} {r i : Nat} (h : i < nn c cs r) : lo cs r + i ≤ c.1 ∧ lo cs r + i ≤ r ∧ r - (lo cs r + i) ≤ tsum cs := by
  unfold nn at h
  unfold lo
  omega
theorem nn_pos {c : Nat × Nat} {cs : List (Nat × Nat)} {r : Nat} (h : r ≤ tsum (c :: cs)) : 0 < nn c cs r := by
  rw [tsum] at h
  unfold nn
  omega
theorem wt_pos : ∀ {cs : List (Nat × Nat)} {r : Nat} {u : List Nat}, u ∈ tb cs r → 0 < wt cs u
  | [], r, u, h => by
    simp [tb] at h
    subst h
    simp [wt]
  | c :: cs, r, u, h => by
    obtain ⟨x, v, rfl, h1, h2, h3, hv⟩ := tb_cons.mp h
    have ih := wt_pos hv
    have h4 := ch_pos (n := c.1) (k := x) h2
    show 0 < (ch c.1 x : Int) * wt cs v
    exact Int.mul_pos (by omega) ih
theorem wt_lg : ∀ {cs : List (Nat × Nat)} {r : Nat} {u : List Nat}, u ∈ tb cs r → wt cs u ≤ lg cs r
  | [], r, u, h => by
    simp [tb] at h
    subst h
    simp [wt, lg]
  | c :: cs, r, u, h => by
    obtain ⟨x, v, rfl, h1, h2, h3, hv⟩ := tb_cons.mp h
    have ih := wt_lg hv
    show (ch c.1 x : Int) * wt cs v ≤ lg (c :: cs) r
    rw [lg]
    have h4 := mxN_ge (f := fun x => (ch c.1 x : Int) * lg cs (r - x)) (a := lo cs r) (k := nn c cs r) (i := x - lo cs r) (by unfold nn lo; omega)
    rw [show lo cs r + (x - lo cs r) = x by unfold lo; omega] at h4
    exact Int.le_trans (Int.mul_le_mul_of_nonneg_left ih (by omega)) h4
theorem wt_sh : ∀ {cs : List (Nat × Nat)} {r : Nat} {u : List Nat}, u ∈ tb cs r → sh cs r ≤ wt cs u
  | [], r, u, h => by
    simp [tb] at h
    subst h
    simp [wt, sh]
  | c :: cs, r, u, h => by
    obtain ⟨x, v, rfl, h1, h2, h3, hv⟩ := tb_cons.mp h
    have ih := wt_sh hv
    show sh (c :: cs) r ≤ (ch c.1 x : Int) * wt cs v
    rw [sh]
    have h4 := mnN_le (M := 9223372036854775807) (f := fun x => (ch c.1 x : Int) * sh cs (r - x)) (a := lo cs r) (k := nn c cs r) (i := x - lo cs r) (by unfold nn lo; omega)
    rw [show lo cs r + (x - lo cs r) = x by unfold lo; omega] at h4
    exact Int.le_trans h4 (Int.mul_le_mul_of_nonneg_left ih (by omega))
theorem sc_les : ∀ {cs : List (Nat × Nat)} {r : Nat} {u : List Nat}, u ∈ tb cs r → les cs r ≤ sc cs u ∧ sc cs u ≤ grs cs r
  | [], r, u, h => by
    simp [tb] at h
    subst h
    simp [sc, les, grs]
  | c :: cs, r, u, h => by
    obtain ⟨x, v, rfl, h1, h2, h3, hv⟩ := tb_cons.mp h
    have ih := sc_les hv
    show les (c :: cs) r ≤ (x : Int) * (c.2 : Int) + sc cs v ∧ (x : Int) * (c.2 : Int) + sc cs v ≤ grs (c :: cs) r
    rw [les, grs]
    have h4 := mnN_le (M := 540) (f := fun x => (x : Int) * (c.2 : Int) + les cs (r - x)) (a := lo cs r) (k := nn c cs r) (i := x - lo cs r) (by unfold nn lo; omega)
    have h5 := mxN_ge (f := fun x => (x : Int) * (c.2 : Int) + grs cs (r - x)) (a := lo cs r) (k := nn c cs r) (i := x - lo cs r) (by unfold nn lo; omega)
    rw [show lo cs r + (x - lo cs r) = x by unfold lo; omega] at h4 h5
    have h6 : (fun (x : Nat) => (x : Int) * (c.2 : Int) + les cs (r - x)) x = (x : Int) * (c.2 : Int) + les cs (r - x) := rfl
    have h7 : (fun (x : Nat) => (x : Int) * (c.2 : Int) + grs cs (r - x)) x = (x : Int) * (c.2 : Int) + grs cs (r - x) := rfl
    omega
theorem lg_at : ∀ {cs : List (Nat × Nat)} {r : Nat}, r ≤ tsum cs → ∃ u, u ∈ tb cs r ∧ wt cs u = lg cs r
  | [], r, _ => ⟨[], by simp [tb], rfl⟩
  | c :: cs, r, h => by
    obtain ⟨i, hi, he⟩ := mxN_is (f := fun x => (ch c.1 x : Int) * lg cs (r - x)) (a := lo cs r) (k := nn c cs r) (fun i _ => Int.mul_nonneg (by omega) lg_bh.1) (nn_pos h)
    obtain ⟨h1, h2, h3⟩ := nn_x hi
    obtain ⟨v, hv, hw⟩ := lg_at h3
    refine ⟨(lo cs r + i) :: v, tb_cons.mpr ⟨_, _, rfl, by unfold lo; omega, h1, h2, hv⟩, ?_⟩
    show (ch c.1 (lo cs r + i) : Int) * wt cs v = lg (c :: cs) r
    rw [lg, he, hw]
theorem sh_at : ∀ {cs : List (Nat × Nat)} {r : Nat}, r ≤ tsum cs → tsum cs ≤ 60 → ∃ u, u ∈ tb cs r ∧ wt cs u = sh cs r
  | [], r, _, _ => ⟨[], by simp [tb], rfl⟩
  | c :: cs, r, h, hs => by
    have hs' := hs
    rw [tsum] at hs'
    obtain ⟨i, hi, he⟩ := mnN_is (M := 9223372036854775807) (f := fun x => (ch c.1 x : Int) * sh cs (r - x)) (a := lo cs r) (k := nn c cs r) (fun i hi => by
      obtain ⟨h1, h2, h3⟩ := nn_x hi
      have h4 := sh_le (cs := cs) h3
      have h5 := ch_le c.1 (lo cs r + i)
      have h6 : ((ch c.1 (lo cs r + i) : Nat) : Int) ≤ 2 ^ c.1 := by exact_mod_cast h5
      have h7 : (ch c.1 (lo cs r + i) : Int) * sh cs (r - (lo cs r + i)) ≤ 2 ^ c.1 * 2 ^ tsum cs := Int.mul_le_mul h6 h4.2 h4.1 (Int.le_of_lt (Int.pow_pos (by omega)))
      rw [← Int.pow_add] at h7
      have h8 := pow_60 (k := c.1 + tsum cs) hs'
      show (ch c.1 (lo cs r + i) : Int) * sh cs (r - (lo cs r + i)) ≤ 9223372036854775807
      omega) (nn_pos h)
    obtain ⟨h1, h2, h3⟩ := nn_x hi
    obtain ⟨v, hv, hw⟩ := sh_at h3 (by omega)
    refine ⟨(lo cs r + i) :: v, tb_cons.mpr ⟨_, _, rfl, by unfold lo; omega, h1, h2, hv⟩, ?_⟩
    show (ch c.1 (lo cs r + i) : Int) * wt cs v = sh (c :: cs) r
    rw [sh, he, hw]
theorem les_bd : ∀ {cs : List (Nat × Nat)} {r : Nat}, okS cs → r ≤ tsum cs → les cs r ≤ 9 * tsum cs
  | [], r, _, _ => by simp [les, tsum]
  | c :: cs, r, h, hr => by
    have h0 := nn_pos hr
    obtain ⟨h1, h2, h3⟩ := nn_x h0
    have h4 := mnN_le (M := 540) (f := fun x => (x : Int) * (c.2 : Int) + les cs (r - x)) (a := lo cs r) h0
    have ih := les_bd (fun d hd => h d (List.mem_cons_of_mem _ hd)) h3
    have h5 := h c List.mem_cons_self
    have h6 : ((lo cs r + 0 : Nat) : Int) * (c.2 : Int) ≤ (c.1 : Int) * 9 := Int.mul_le_mul (by omega) (by omega) (by omega) (by omega)
    rw [les, tsum]
    have h7 : (fun (x : Nat) => (x : Int) * (c.2 : Int) + les cs (r - x)) (lo cs r + 0) = ((lo cs r + 0 : Nat) : Int) * (c.2 : Int) + les cs (r - (lo cs r + 0)) := rfl
    omega
theorem les_at : ∀ {cs : List (Nat × Nat)} {r : Nat}, okS cs → r ≤ tsum cs → tsum cs ≤ 60 → ∃ u, u ∈ tb cs r ∧ sc cs u = les cs r
  | [], r, _, _, _ => ⟨[], by simp [tb], rfl⟩
  | c :: cs, r, hk, h, hs => by
    have hs' := hs
    rw [tsum] at hs'
    have hk' : okS cs := fun d hd => hk d (List.mem_cons_of_mem _ hd)
    obtain ⟨i, hi, he⟩ := mnN_is (M := 540) (f := fun x => (x : Int) * (c.2 : Int) + les cs (r - x)) (a := lo cs r) (k := nn c cs r) (fun i hi => by
      obtain ⟨h1, h2, h3⟩ := nn_x hi
      have h4 := les_bd hk' h3
      have h5 := hk c List.mem_cons_self
      have h6 : ((lo cs r + i : Nat) : Int) * (c.2 : Int) ≤ (c.1 : Int) * 9 := Int.mul_le_mul (by omega) (by omega) (by omega) (by omega)
      show ((lo cs r + i : Nat) : Int) * (c.2 : Int) + les cs (r - (lo cs r + i)) ≤ 540
      omega) (nn_pos h)
    obtain ⟨h1, h2, h3⟩ := nn_x hi
    obtain ⟨v, hv, hw⟩ := les_at hk' h3 (by omega)
    refine ⟨(lo cs r + i) :: v, tb_cons.mpr ⟨_, _, rfl, by unfold lo; omega, h1, h2, hv⟩, ?_⟩
    show ((lo cs r + i : Nat) : Int) * (c.2 : Int) + sc cs v = les (c :: cs) r
    rw [les, he, hw]
theorem grs_at : ∀ {cs : List (Nat × Nat)} {r : Nat}, okS cs → r ≤ tsum cs → ∃ u, u ∈ tb cs r ∧ sc cs u = grs cs r
  | [], r, _, _ => ⟨[], by simp [tb], rfl⟩
  | c :: cs, r, hk, h => by
    have hk' : okS cs := fun d hd => hk d (List.mem_cons_of_mem _ hd)
    obtain ⟨i, hi, he⟩ := mxN_is (f := fun x => (x : Int) * (c.2 : Int) + grs cs (r - x)) (a := lo cs r) (k := nn c cs r) (fun i _ => by
      have h1 := grs_rg (r := r - (lo cs r + i)) hk'
      have h2 : (0 : Int) ≤ ((lo cs r + i : Nat) : Int) * (c.2 : Int) := Int.mul_nonneg (by omega) (by omega)
      show 0 ≤ ((lo cs r + i : Nat) : Int) * (c.2 : Int) + grs cs (r - (lo cs r + i))
      omega) (nn_pos h)
    obtain ⟨h1, h2, h3⟩ := nn_x hi
    obtain ⟨v, hv, hw⟩ := grs_at hk' h3
    refine ⟨(lo cs r + i) :: v, tb_cons.mpr ⟨_, _, rfl, by unfold lo; omega, h1, h2, hv⟩, ?_⟩
    show ((lo cs r + i : Nat) : Int) * (c.2 : Int) + sc cs v = grs (c :: cs) r
    rw [grs, he, hw]
/-! the rare walk -/
def flW (s : Int) (cs : List (Nat × Nat)) (w : Int) (u : List Nat) : Int := if w * wt cs u ≤ s then w * wt cs u else 0
def flT (s : Int) (cs : List (Nat × Nat)) (w : Int) (u : List Nat) : Int := if w * wt cs u ≤ s then 1 else 0
theorem rk_of {s : Int} {c : Nat × Nat} {cs : List (Nat × Nat)} {r : Nat} {w : Int} (hw : 0 < w) (ih : ∀ (r : Nat) (w : Int), 0 < w → r ≤ tsum cs → la 0 s cs r w = sumL (flW s cs w) (tb cs r) ∧ la 1 s cs r w = sumL (flT s cs w) (tb cs r)) : rk 0 s (c :: cs) r w = sumL (flW s (c :: cs) w) (tb (c :: cs) r) ∧ rk 1 s (c :: cs) r w = sumL (flT s (c :: cs) w) (tb (c :: cs) r) := by
  have hx : ∀ i, i < nn c cs r → 0 < w * (ch c.1 (lo cs r + i) : Int) ∧ r - (lo cs r + i) ≤ tsum cs := fun i hi => by
    obtain ⟨h1, h2, h3⟩ := nn_x hi
    have h4 := ch_pos (n := c.1) (k := lo cs r + i) h1
    exact ⟨Int.mul_pos hw (by omega), h3⟩
  rw [rk_c, rk_c, sumL_tb, sumL_tb]
  constructor
  · refine srN_congr (fun i hi => ?_)
    show la 0 s cs (r - (lo cs r + i)) (w * (ch c.1 (lo cs r + i) : Int)) = _
    rw [(ih _ _ (hx i hi).1 (hx i hi).2).1]
    refine sumL_congr (fun u _ => ?_)
    unfold flW
    rw [wt, Int.mul_assoc]
  · refine srN_congr (fun i hi => ?_)
    show la 1 s cs (r - (lo cs r + i)) (w * (ch c.1 (lo cs r + i) : Int)) = _
    rw [(ih _ _ (hx i hi).1 (hx i hi).2).2]
    refine sumL_congr (fun u _ => ?_)
    unfold flT
    rw [wt, Int.mul_assoc]
theorem la_tb {s : Int} : ∀ (cs : List (Nat × Nat)) (r : Nat) (w : Int), 0 < w → r ≤ tsum cs → la 0 s cs r w = sumL (flW s cs w) (tb cs r) ∧ la 1 s cs r w = sumL (flT s cs w) (tb cs r)
  | [], r, w, hw, hr => by
    simp [la, rq, rk, lg, sh, bh, tc, tb, sumL, wt, flW, flT]
  | c :: cs, r, w, hw, hr => by
    by_cases h1 : w * lg (c :: cs) r ≤ s
    · obtain ⟨e1, e2, -⟩ := la_yes h1
      rw [e1, e2, bh_tb, tc_tb, ← sumL_mul]
      have hp : ∀ u ∈ tb (c :: cs) r, w * wt (c :: cs) u ≤ s := fun u hu => Int.le_trans (Int.mul_le_mul_of_nonneg_left (wt_lg hu) (by omega)) h1
      exact ⟨sumL_congr (fun u hu => by unfold flW; rw [if_pos (hp u hu)]), sumL_congr (fun u hu => by unfold flT; rw [if_pos (hp u hu)])⟩
    · by_cases h2 : w * sh (c :: cs) r ≤ s
      · obtain ⟨e1, e2, -⟩ := la_walk (by omega) h2
        rw [e1, e2]
        exact rk_of hw (la_tb cs)
      · obtain ⟨e1, e2, -⟩ := la_no (s := s) (w := w) (cs := c :: cs) (r := r) (by omega) (by omega)
        rw [e1, e2]
        have hp : ∀ u ∈ tb (c :: cs) r, ¬ w * wt (c :: cs) u ≤ s := fun u hu q => h2 (Int.le_trans (Int.mul_le_mul_of_nonneg_left (wt_sh hu) (by omega)) q)
        exact ⟨(sumL_zero (fun u hu => by unfold flW; rw [if_neg (hp u hu)])).symm, (sumL_zero (fun u hu => by unfold flT; rw [if_neg (hp u hu)])).symm⟩
theorem rk_tb {s : Int} {c : Nat × Nat} {cs : List (Nat × Nat)} {r : Nat} : rk 0 s (c :: cs) r 1 = sumL (fun u => if wt (c :: cs) u ≤ s then wt (c :: cs) u else 0) (tb (c :: cs) r) ∧ rk 1 s (c :: cs) r 1 = sumL (fun u => if wt (c :: cs) u ≤ s then 1 else 0) (tb (c :: cs) r) := by
  have h := rk_of (s := s) (c := c) (cs := cs) (r := r) (w := 1) (by omega) (la_tb cs)
  rw [h.1, h.2]
  exact ⟨sumL_congr (fun u _ => by unfold flW; rw [Int.one_mul]), sumL_congr (fun u _ => by unfold flT; rw [Int.one_mul])⟩
/-! by sums -/
theorem sW_tb : ∀ (cs : List (Nat × Nat)) (r : Nat) (s w y : Int), sW cs r s w y = sumL (fun u => if s + sc cs u = y then w * wt cs u else 0) (tb cs r)
  | [], r, s, w, y => by simp [sW, tb, sumL, sc, wt]
  | c :: cs, r, s, w, y => by
    rw [sW, sumL_tb]
    refine srN_congr (fun i _ => ?_)
    rw [sW_tb cs]
    refine sumL_congr (fun u _ => ?_)
    rw [sc, wt, Int.add_assoc, Int.mul_assoc]
theorem sT_tb : ∀ (cs : List (Nat × Nat)) (r : Nat) (s y : Int), sT cs r s y = sumL (fun u => if s + sc cs u = y then 1 else 0) (tb cs r)
  | [], r, s, y => by simp [sT, tb, sumL, sc]
  | c :: cs, r, s, y => by
    rw [sT, sumL_tb]
    refine srN_congr (fun i _ => ?_)
    rw [sT_tb cs]
    refine sumL_congr (fun u _ => ?_)
    rw [sc, Int.add_assoc]
theorem sm_zero {f : Int → Int} : ∀ {k : Nat}, (∀ i : Int, 0 ≤ i → i < k → f i = 0) → sm f k = 0
  | 0, _ => rfl
  | k + 1, h => by
    rw [sm_1, sm_zero (fun i h1 h2 => h i h1 (by omega)), h (k : Int) (by omega) (by omega)]
    rfl
theorem sm_add (f g : Int → Int) : ∀ k : Nat, sm (fun y => f y + g y) k = sm f k + sm g k
  | 0 => rfl
  | k + 1 => by
    rw [sm_1, sm_1, sm_1, sm_add f g k]
    omega
theorem sm_one {f : Int → Int} {z : Int} : ∀ {k : Nat}, (∀ i : Int, i ≠ z → f i = 0) → 0 ≤ z → z < k → sm f k = f z
  | 0, _, h1, h2 => absurd h2 (by omega)
  | k + 1, h, h1, h2 => by
    rw [sm_1]
    by_cases hk : z = (k : Int)
    · rw [sm_zero (fun i h3 h4 => h i (by omega)), hk]
      omega
    · rw [sm_one h h1 (by omega), h (k : Int) (Ne.symm hk)]
      omega
theorem bw_tb {law seen : Int} {f z : List Nat → Int} : ∀ {l : List (List Nat)}, (∀ u ∈ l, 0 ≤ z u ∧ z u ≤ 540) → sm (bw (fun y => sumL (fun u => if z u = y then f u else 0) l) law seen) 541 = sumL (fun u => if (law = 1 ∧ seen ≤ z u) ∨ (¬ law = 1 ∧ z u ≤ seen) then f u else 0) l
  | [], _ => sm_zero (fun i _ _ => by
      unfold bw
      show (if _ then (0 : Int) else 0) = 0
      split <;> rfl)
  | u :: l, h => by
    have ih := bw_tb (law := law) (seen := seen) (f := f) (z := z) (l := l) (fun v hv => h v (List.mem_cons_of_mem _ hv))
    have hu := h u List.mem_cons_self
    have e : bw (fun y => sumL (fun u => if z u = y then f u else 0) (u :: l)) law seen = fun y => bw (fun y => if z u = y then f u else 0) law seen y + bw (fun y => sumL (fun u => if z u = y then f u else 0) l) law seen y := by
      funext y
      unfold bw
      show (if _ then (if z u = y then f u else 0) + sumL (fun u => if z u = y then f u else 0) l else 0) = _
      split
      · rfl
      · rfl
    rw [e, sm_add, ih]
    show _ = (if _ then f u else 0) + sumL _ l
    rw [sm_one (z := z u) (fun i hi => by
      unfold bw
      show (if _ then (if z u = i then f u else 0) else 0) = 0
      rw [if_neg (Ne.symm hi)]
      split <;> rfl) hu.1 (by omega)]
    unfold bw
    show (if _ then (if z u = z u then f u else 0) else 0) + _ = _
    rw [if_pos (show z u = z u from rfl)]
/-! the place of a table among all -/
def rkI : List (Nat × Nat) → List Nat → Nat → Int
  | c :: cs, x :: u, r => srN (fun y => tc cs (r - y)) (lo cs r) (x - lo cs r) + rkI cs u (r - x)
  | _, _, _ => 0
theorem range_cut {a k i : Nat} (h : i < k) : List.range' a k = List.range' a i ++ (a + i) :: List.range' (a + i + 1) (k - i - 1) := by
  have h1 : List.range' a k = List.range' a i ++ List.range' (a + i) (k - i) := by
    have := List.range'_append_1 (s := a) (m := i) (n := k - i)
    rw [show i + (k - i) = k by omega] at this
    exact this.symm
  rw [h1, show k - i = (k - i - 1) + 1 by omega, List.range'_succ]
  rfl
theorem tb_cut {c : Nat × Nat} {cs : List (Nat × Nat)} {r i : Nat} (h : i < nn c cs r) : tb (c :: cs) r = (List.range' (lo cs r) i).flatMap (fun x => (tb cs (r - x)).map (fun u => x :: u)) ++ ((tb cs (r - (lo cs r + i))).map (fun u => (lo cs r + i) :: u) ++ (List.range' (lo cs r + i + 1) (nn c cs r - i - 1)).flatMap (fun x => (tb cs (r - x)).map (fun u => x :: u))) := by
  rw [tb, range_cut h, List.flatMap_append, List.flatMap_cons]
theorem rkI_tb : ∀ {cs : List (Nat × Nat)} {r : Nat} {u : List Nat}, u ∈ tb cs r → ∃ pre post, tb cs r = pre ++ u :: post ∧ ((pre.length : Nat) : Int) = rkI cs u r ∧ u ∉ pre ∧ u ∉ post
  | [], r, u, h => by
    simp [tb] at h
    subst h
    exact ⟨[], [], by simp [tb], rfl, by simp, by simp⟩
  | c :: cs, r, u, h => by
    obtain ⟨x, v, rfl, h1, h2, h3, hv⟩ := tb_cons.mp h
    obtain ⟨pre, post, e, hl, n1, n2⟩ := rkI_tb hv
    have hi : x - lo cs r < nn c cs r := by unfold nn lo; omega
    have hx : lo cs r + (x - lo cs r) = x := by unfold lo; omega
    have hc := tb_cut hi
    rw [hx, e] at hc
    refine ⟨(List.range' (lo cs r) (x - lo cs r)).flatMap (fun x => (tb cs (r - x)).map (fun u => x :: u)) ++ pre.map (fun u => x :: u), post.map (fun u => x :: u) ++ (List.range' (x + 1) (nn c cs r - (x - lo cs r) - 1)).flatMap (fun x => (tb cs (r - x)).map (fun u => x :: u)), ?_, ?_, ?_, ?_⟩
    · rw [hc, List.map_append, List.map_cons]
      simp [List.append_assoc]
    · rw [List.length_append, List.length_map, rkI, ← hl]
      have h5 : ((((List.range' (lo cs r) (x - lo cs r)).flatMap (fun x => (tb cs (r - x)).map (fun u => x :: u))).length : Nat) : Int) = srN (fun y => tc cs (r - y)) (lo cs r) (x - lo cs r) := by
        rw [← sumL_one, sumL_flat]
        refine srN_congr (fun i _ => ?_)
        rw [sumL_map, tc_tb]
      omega
    · intro hm
      rcases List.mem_append.mp hm with q | q
      · obtain ⟨y, hy, hq⟩ := List.mem_flatMap.mp q
        obtain ⟨w, -, hw⟩ := List.mem_map.mp hq
        have := (List.mem_range'_1.mp hy).2
        have hyx : y = x := (List.cons.inj hw).1
        omega
      · obtain ⟨w, hw, hq⟩ := List.mem_map.mp q
        have : w = v := (List.cons.inj hq).2
        exact n1 (this ▸ hw)
    · intro hm
      rcases List.mem_append.mp hm with q | q
      · obtain ⟨w, hw, hq⟩ := List.mem_map.mp q
        have : w = v := (List.cons.inj hq).2
        exact n2 (this ▸ hw)
      · obtain ⟨y, hy, hq⟩ := List.mem_flatMap.mp q
        obtain ⟨w, -, hw⟩ := List.mem_map.mp hq
        have := (List.mem_range'_1.mp hy).1
        have hyx : y = x := (List.cons.inj hw).1
        omega
/-! the likeliest table, the first of several -/
def bst : List (Nat × Nat) → Nat → List Nat
  | [], _ => []
  | c :: cs, r => pl (fun x => (ch c.1 x : Int) * lg cs (r - x)) (lg (c :: cs) r) (nn c cs r - 1) (lo cs r) :: bst cs (r - pl (fun x => (ch c.1 x : Int) * lg cs (r - x)) (lg (c :: cs) r) (nn c cs r - 1) (lo cs r))
theorem pl_is {f : Nat → Int} {v : Int} : ∀ (k x : Nat), (∃ i, i ≤ k ∧ f (x + i) = v) → f (pl f v k x) = v ∧ ∀ y, x ≤ y → y < pl f v k x → f y ≠ v
  | 0, x, ⟨i, hi, he⟩ => by
    rw [pl]
    rw [show x + i = x by omega] at he
    exact ⟨he, fun y h1 h2 => by omega⟩
  | k + 1, x, ⟨i, hi, he⟩ => by
    rw [pl]
    by_cases h : f x = v
    · rw [if_pos h]
      exact ⟨h, fun y h1 h2 => by omega⟩
    · rw [if_neg h]
      have hi0 : i ≠ 0 := fun q => by
        subst q
        exact h he
      obtain ⟨a, b⟩ := pl_is (f := f) (v := v) k (x + 1) ⟨i - 1, by omega, by rw [show x + 1 + (i - 1) = x + i by omega]; exact he⟩
      refine ⟨a, fun y h1 h2 => ?_⟩
      by_cases hy : y = x
      · subst hy
        exact h
      · exact b y (by omega) h2
theorem bst_tb : ∀ {cs : List (Nat × Nat)} {r : Nat}, r ≤ tsum cs → ∃ pre post, tb cs r = pre ++ bst cs r :: post ∧ wt cs (bst cs r) = lg cs r ∧ ∀ v ∈ pre, wt cs v < lg cs r
  | [], r, _ => ⟨[], [], by simp [tb, bst], rfl, fun v h => absurd h List.not_mem_nil⟩
  | c :: cs, r, h => by
    have h0 := nn_pos h
    obtain ⟨i, hi, he⟩ := mxN_is (f := fun x => (ch c.1 x : Int) * lg cs (r - x)) (a := lo cs r) (k := nn c cs r) (fun i _ => Int.mul_nonneg (by omega) lg_bh.1) h0
    have hp := pl_rg (fun x => (ch c.1 x : Int) * lg cs (r - x)) (lg (c :: cs) r) (nn c cs r - 1) (lo cs r)
    obtain ⟨p1, p2⟩ := pl_is (f := fun x => (ch c.1 x : Int) * lg cs (r - x)) (v := lg (c :: cs) r) (nn c cs r - 1) (lo cs r) ⟨i, by omega, by rw [lg, he]⟩
    rw [bst]
    generalize pl (fun x => (ch c.1 x : Int) * lg cs (r - x)) (lg (c :: cs) r) (nn c cs r - 1) (lo cs r) = x at hp p1 p2 ⊢
    have hix : x - lo cs r < nn c cs r := by omega
    have hx : lo cs r + (x - lo cs r) = x := by omega
    obtain ⟨h1, h2, h3⟩ := nn_x hix
    rw [hx] at h1 h2 h3
    obtain ⟨pre, post, e, hw, hq⟩ := bst_tb h3
    have hc := tb_cut hix
    rw [hx, e] at hc
    have hch := ch_pos (n := c.1) (k := x) h1
    refine ⟨(List.range' (lo cs r) (x - lo cs r)).flatMap (fun x => (tb cs (r - x)).map (fun u => x :: u)) ++ pre.map (fun u => x :: u), post.map (fun u => x :: u) ++ (List.range' (x + 1) (nn c cs r - (x - lo cs r) - 1)).flatMap (fun x => (tb cs (r - x)).map (fun u => x :: u)), ?_, ?_, ?_⟩
    · rw [hc, List.map_append, List.map_cons]
      simp [List.append_assoc]
    · show (ch c.1 x : Int) * wt cs (bst cs (r - x)) = _
      rw [hw]
      exact p1
    · intro v hv
      rcases List.mem_append.mp hv with q | q
      · obtain ⟨y, hy, hq⟩ := List.mem_flatMap.mp q
        obtain ⟨w, hw', rfl⟩ := List.mem_map.mp hq
        have hy1 := List.mem_range'_1.mp hy
        have h4 := p2 y hy1.1 (by omega)
        have h5 := mxN_ge (f := fun x => (ch c.1 x : Int) * lg cs (r - x)) (a := lo cs r) (k := nn c cs r) (i := y - lo cs r) (by omega)
        rw [show lo cs r + (y - lo cs r) = y by omega] at h5
        have h6 : (ch c.1 y : Int) * wt cs w ≤ (ch c.1 y : Int) * lg cs (r - y) := Int.mul_le_mul_of_nonneg_left (wt_lg hw') (by omega)
        have h7 : lg (c :: cs) r = mxN (fun x => (ch c.1 x : Int) * lg cs (r - x)) (lo cs r) (nn c cs r) := by rw [lg]
        have h8 : (fun (x : Nat) => (ch c.1 x : Int) * lg cs (r - x)) y = (ch c.1 y : Int) * lg cs (r - y) := rfl
        show (ch c.1 y : Int) * wt cs w < _
        rw [← h7] at h5
        omega
      · obtain ⟨w, hw', rfl⟩ := List.mem_map.mp q
        have h4 := hq w hw'
        show (ch c.1 x : Int) * wt cs w < _
        rw [← p1]
        exact Int.mul_lt_mul_of_pos_left h4 (by omega)
/-! one table behind the other -/
def least : List (Nat × Nat) → Nat → List Nat
  | [], _ => []
  | _ :: cs, r => lo cs r :: least cs (r - lo cs r)
def lsum : List Nat → Nat
  | [] => 0
  | x :: u => x + lsum u
def nxt : List (Nat × Nat) → List Nat → Option (List Nat)
  | c :: cs, x :: u => match nxt cs u with
    | some v => some (x :: v)
    | none => if x < c.1 ∧ 0 < lsum u then some ((x + 1) :: least cs (lsum u - 1)) else none
  | _, _ => none
def hdE (l : List (List Nat)) (e : Option (List Nat)) : Option (List Nat) := match l with
  | [] => e
  | v :: _ => some v
def chn (f : List Nat → Option (List Nat)) : List (List Nat) → Option (List Nat) → Prop
  | [], _ => True
  | u :: l, e => f u = hdE l e ∧ chn f l e
theorem hdE_app (l m : List (List Nat)) (e : Option (List Nat)) : hdE (l ++ m) e = hdE l (hdE m e) := by
  cases l <;> rfl
theorem chn_app {f : List Nat → Option (List Nat)} {m : List (List Nat)} {e : Option (List Nat)} : ∀ {l : List (List Nat)}, chn f (l ++ m) e ↔ chn f l (hdE m e) ∧ chn f m e
  | [] => ⟨fun h => ⟨trivial, h⟩, fun h => h.2⟩
  | u :: l => by
    have ih := chn_app (f := f) (m := m) (e := e) (l := l)
    show f u = hdE (l ++ m) e ∧ chn f (l ++ m) e ↔ (f u = hdE l (hdE m e) ∧ chn f l (hdE m e)) ∧ chn f m e
    rw [ih, hdE_app, and_assoc]
theorem tb_sum : ∀ {cs : List (Nat × Nat)} {r : Nat} {u : List Nat}, r ≤ tsum cs → u ∈ tb cs r → lsum u = r
  | [], r, u, hr, h => by
    simp [tb] at h
    subst h
    rw [tsum] at hr
    show 0 = r
    omega
  | c :: cs, r, u, hr, h => by
    obtain ⟨x, v, rfl, h1, h2, h3, hv⟩ := tb_cons.mp h
    rw [tsum] at hr
    have := tb_sum (r := r - x) (by omega) hv
    show x + lsum v = r
    omega
theorem tb_head : ∀ {cs : List (Nat × Nat)} {r : Nat}, r ≤ tsum cs → ∃ l, tb cs r = least cs r :: l
  | [], r, _ => ⟨[], by simp [tb, least]⟩
  | c :: cs, r, h => by
    have h0 := nn_pos h
    obtain ⟨h1, h2, h3⟩ := nn_x h0
    rw [Nat.add_zero] at h3
    obtain ⟨l, e⟩ := tb_head h3
    have hc := tb_cut h0
    rw [Nat.add_zero, e] at hc
    exact ⟨_, hc⟩
theorem chn_map {c : Nat × Nat} {cs : List (Nat × Nat)} {x m : Nat} : ∀ {l : List (List Nat)}, chn (nxt cs) l none → (∀ u ∈ l, lsum u = m) → chn (nxt (c :: cs)) (l.map (fun u => x :: u)) (if x < c.1 ∧ 0 < m then some ((x + 1) :: least cs (m - 1)) else none)
  | [], _, _ => trivial
  | u :: l, h, hs => by
    have hu := hs u List.mem_cons_self
    refine ⟨?_, chn_map h.2 (fun v hv => hs v (List.mem_cons_of_mem _ hv))⟩
    have h1 := h.1
    cases l with
    | nil =>
      have h2 : nxt cs u = none := h1
      show (match nxt cs u with | some v => some (x :: v) | none => if x < c.1 ∧ 0 < lsum u then some ((x + 1) :: least cs (lsum u - 1)) else none) = _
      rw [h2, hu]
      rfl
    | cons v l =>
      have h2 : nxt cs u = some v := h1
      show (match nxt cs u with | some v => some (x :: v) | none => if x < c.1 ∧ 0 < lsum u then some ((x + 1) :: least cs (lsum u - 1)) else none) = _
      rw [h2]
      rfl
theorem chn_tb : ∀ {cs : List (Nat × Nat)} {r : Nat}, r ≤ tsum cs → chn (nxt cs) (tb cs r) none
  | [], r, _ => by
    rw [tb]
    exact ⟨rfl, trivial⟩
  | c :: cs, r, h => by
    have key : ∀ k a, lo cs r ≤ a → a + k = lo cs r + nn c cs r → chn (nxt (c :: cs)) ((List.range' a k).flatMap (fun x => (tb cs (r - x)).map (fun u => x :: u))) none := by
      intro k
      induction k with
      | zero => intro a _ _; exact trivial
      | succ k ih =>
        intro a h1 h2
        have hx : a ≤ c.1 ∧ a ≤ r ∧ r - a ≤ tsum cs := by unfold nn lo at *; omega
        rw [List.range'_succ, List.flatMap_cons]
        refine chn_app.mpr ⟨?_, ih (a + 1) (by omega) (by omega)⟩
        have h3 := chn_map (c := c) (cs := cs) (x := a) (m := r - a) (chn_tb hx.2.2) (fun u hu => tb_sum hx.2.2 hu)
        cases k with
        | zero =>
          rw [if_neg (by unfold nn lo at *; omega)] at h3
          exact h3
        | succ k =>
          have hx2 : a + 1 ≤ c.1 ∧ a + 1 ≤ r ∧ r - (a + 1) ≤ tsum cs := by unfold nn lo at *; omega
          rw [if_pos (by omega), show r - a - 1 = r - (a + 1) by omega] at h3
          obtain ⟨l, e⟩ := tb_head hx2.2.2
          rw [List.range'_succ, List.flatMap_cons, e]
          exact h3
    rw [tb]
    exact key (nn c cs r) (lo cs r) (Nat.le_refl _) rfl
theorem nxt_tb {cs : List (Nat × Nat)} {r : Nat} {pre post : List (List Nat)} {u : List Nat} (h : r ≤ tsum cs) (e : tb cs r = pre ++ u :: post) : nxt cs u = hdE post none := by
  have h1 := chn_tb h
  rw [e] at h1
  exact (chn_app.mp h1).2.1
