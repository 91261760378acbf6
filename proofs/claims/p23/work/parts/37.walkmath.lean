/-! ===== the walks: rare tables, sums ===== -/
def rq (q : Nat) (s : Int) (cs : List (Nat × Nat)) (r : Nat) (w z : Int) : Int :=
  (if q = 2 then 1 else 0) + (if w * lg cs r ≤ s then (if q = 0 then w * bh cs r else if q = 1 then tc cs r else 0) else if w * sh cs r ≤ s then z else 0)
def rk (q : Nat) (s : Int) : List (Nat × Nat) → Nat → Int → Int
  | [], _, _ => 0
  | c :: cs, r, w => srN (fun x => rq q s cs (r - x) (w * (ch c.1 x : Int)) (rk q s cs (r - x) (w * (ch c.1 x : Int)))) (lo cs r) (nn c cs r)
def la (q : Nat) (s : Int) (cs : List (Nat × Nat)) (r : Nat) (w : Int) : Int := rq q s cs r w (rk q s cs r w)
def rf (q : Nat) (s : Int) (c : Nat × Nat) (cs : List (Nat × Nat)) (r : Nat) (w : Int) : Nat → Int := fun x => la q s cs (r - x) (w * (ch c.1 x : Int))
theorem rk_c (q : Nat) (s : Int) (c : Nat × Nat) (cs : List (Nat × Nat)) (r : Nat) (w : Int) : rk q s (c :: cs) r w = srN (rf q s c cs r w) (lo cs r) (nn c cs r) := rfl
theorem la_yes {s w : Int} {cs : List (Nat × Nat)} {r : Nat} (h : w * lg cs r ≤ s) : la 0 s cs r w = w * bh cs r ∧ la 1 s cs r w = tc cs r ∧ la 2 s cs r w = 1 := by
  unfold la rq
  rw [if_pos h, if_pos h, if_pos h]
  simp
theorem la_walk {s w : Int} {cs : List (Nat × Nat)} {r : Nat} (h : s < w * lg cs r) (h2 : w * sh cs r ≤ s) : la 0 s cs r w = rk 0 s cs r w ∧ la 1 s cs r w = rk 1 s cs r w ∧ la 2 s cs r w = 1 + rk 2 s cs r w := by
  have hn : ¬ (w * lg cs r ≤ s) := by omega
  simp [la, rq, hn, h2]
theorem la_no {s w : Int} {cs : List (Nat × Nat)} {r : Nat} (h : s < w * lg cs r) (h2 : s < w * sh cs r) : la 0 s cs r w = 0 ∧ la 1 s cs r w = 0 ∧ la 2 s cs r w = 1 := by
  have hn : ¬ (w * lg cs r ≤ s) := by omega
  have hn2 : ¬ (w * sh cs r ≤ s) := by omega
  simp [la, rq, hn, hn2]
theorem st_rf {q R a k : Nat} {s w v : Int} {c : Nat × Nat} {cs : List (Nat × Nat)} : (v + srN (rf q s c cs (R - a) w) (lo cs (R - a)) k) + la q s cs (R - (a + (lo cs (R - a) + k))) (w * (ch c.1 (lo cs (R - a) + k) : Int)) = v + srN (rf q s c cs (R - a) w) (lo cs (R - a)) (k + 1) := by
  rw [srN, Int.add_assoc, Nat.sub_add_eq]
  rfl
def wok (w : Int) (cs : List (Nat × Nat)) : Prop := 0 ≤ w ∧ w * 2 ^ tsum cs ≤ 1152921504606846976
theorem wok_lg {w : Int} {cs : List (Nat × Nat)} (h : wok w cs) (r : Nat) : 0 ≤ w * lg cs r ∧ w * lg cs r ≤ 1152921504606846976 := by
  have h1 := lg_bh (cs := cs) (r := r)
  exact ⟨Int.mul_nonneg h.1 h1.1, Int.le_trans (Int.mul_le_mul_of_nonneg_left h1.2 h.1) h.2⟩
theorem wok_sh {w : Int} {cs : List (Nat × Nat)} (h : wok w cs) {r : Nat} (hr : r ≤ tsum cs) : 0 ≤ w * sh cs r ∧ w * sh cs r ≤ 1152921504606846976 := by
  have h1 := sh_le (cs := cs) (r := r) hr
  exact ⟨Int.mul_nonneg h.1 h1.1, Int.le_trans (Int.mul_le_mul_of_nonneg_left h1.2 h.1) h.2⟩
theorem wok_c {w : Int} {c : Nat × Nat} {cs : List (Nat × Nat)} (h : wok w (c :: cs)) (x : Nat) : wok (w * (ch c.1 x : Int)) cs := by
  have h0 := h.1
  have h1 := ch_le c.1 x
  have h2 : ((ch c.1 x : Nat) : Int) ≤ 2 ^ c.1 := by exact_mod_cast h1
  have h3 := h.2
  rw [tsum, Int.pow_add] at h3
  refine ⟨Int.mul_nonneg h0 (by omega), Int.le_trans ?_ h3⟩
  rw [← Int.mul_assoc]
  exact Int.mul_le_mul_of_nonneg_right (Int.mul_le_mul_of_nonneg_left h2 h0) (Int.le_of_lt (Int.pow_pos (by omega)))
theorem wok_1 {cs : List (Nat × Nat)} (h : tsum cs ≤ 60) : wok 1 cs := ⟨by omega, by rw [Int.one_mul]; exact pow_60 h⟩
theorem NF_at {T V : Int → Int} {n R : Nat} {G : Nat → Int → Int} {kd j a m : Nat} {kq : Int} (h : NF T V n R G) (ht : thr T V n R j a) (hj : j + m = n) (hn : n ≤ 5) (hR : R ≤ 60) (hk : 0 < kd) (hk8 : kd < 8) (hq : kq = ((kd : Nat) : Int)) : atA G kq ((j : Nat) : Int) ((a : Nat) : Int) = nvF kd (clL T V j m) (R - a) := by
  have h1 := ht.2.1
  rw [atA_in hq (by omega) rfl, h kd j a hk8 (by omega) (by omega), NV_in ht hk, show n - j = m by omega]
theorem thr_next {T V : Int → Int} {n R j a m x : Nat} (ht : thr T V n R j a) (hj : j + (m + 1) = n) (h1 : lo (clL T V (j + 1) m) (R - a) ≤ x) (h2 : x ≤ (T ((j : Nat) : Int)).toNat) (h3 : x ≤ R - a) : thr T V n R (j + 1) (a + x) := by
  obtain ⟨t1, t2, t3, t4⟩ := ht
  refine ⟨by omega, by omega, ?_, ?_⟩
  · rw [ts_pre, Nat.zero_add]
    omega
  · rw [show n - (j + 1) = m by omega]
    unfold lo at h1
    omega
theorem thr_ts {T V : Int → Int} {n R j a m : Nat} (ht : thr T V n R j a) (hj : j + m = n) : R - a ≤ tsum (clL T V j m) := by
  have := ht.2.2.2
  rw [show n - j = m by omega] at this
  exact this
theorem tc_le : ∀ {cs : List (Nat × Nat)} {r : Nat}, okS cs → 0 ≤ tc cs r ∧ tc cs r ≤ 13 ^ cs.length
  | [], _, _ => by simp [tc]
  | c :: cs, r, h => by
    have hc := h c List.mem_cons_self
    have ih : ∀ x, 0 ≤ tc cs (r - x) ∧ tc cs (r - x) ≤ 13 ^ cs.length := fun x => tc_le (fun d hd => h d (List.mem_cons_of_mem _ hd))
    have hp : (0 : Int) ≤ 13 ^ cs.length := Int.le_of_lt (Int.pow_pos (by omega))
    constructor
    · rw [tc]
      exact srN_nn (fun i _ => (ih _).1)
    · rw [tc, List.length_cons, Int.pow_succ]
      have h1 : srN (fun x => tc cs (r - x)) (lo cs r) (nn c cs r) ≤ srN (fun _ => (1 : Int)) (lo cs r) (nn c cs r) * 13 ^ cs.length := srN_le_mul (fun i _ => by
        show tc cs _ ≤ 1 * _
        rw [Int.one_mul]
        exact (ih _).2)
      have h2 : ∀ k, srN (fun _ => (1 : Int)) (lo cs r) k = (k : Int) := fun k => by
        induction k with
        | zero => rfl
        | succ k ih => rw [srN, ih]; omega
      rw [h2] at h1
      have h3 : ((nn c cs r : Nat) : Int) * 13 ^ cs.length ≤ 13 * 13 ^ cs.length := Int.mul_le_mul_of_nonneg_right (by unfold nn; omega) hp
      rw [Int.mul_comm (13 ^ cs.length) 13]
      exact Int.le_trans h1 h3
theorem clL_len (T V : Int → Int) : ∀ (m j : Nat), (clL T V j m).length = m
  | 0, _ => rfl
  | m + 1, j => by rw [clL, List.length_cons, clL_len T V m]
theorem tc_rg {T V : Int → Int} {n j m r : Nat} (h : okT T V n) (hj : j + m ≤ n) : 0 ≤ tc (clL T V j m) r ∧ tc (clL T V j m) r ≤ 371293 := by
  have h1 := tc_le (r := r) (okT_S h hj)
  rw [clL_len] at h1
  have h2 : (13 : Int) ^ m ≤ 371293 := by
    have := h.1
    rcases (show m = 0 ∨ m = 1 ∨ m = 2 ∨ m = 3 ∨ m = 4 ∨ m = 5 by omega) with rfl | rfl | rfl | rfl | rfl | rfl <;> decide
  omega
/-- sums -/
def sW : List (Nat × Nat) → Nat → Int → Int → Int → Int
  | [], _, s, w, y => if s = y then w else 0
  | c :: cs, r, s, w, y => srN (fun x => sW cs (r - x) (s + (x : Int) * (c.2 : Int)) (w * (ch c.1 x : Int)) y) (lo cs r) (nn c cs r)
def sT : List (Nat × Nat) → Nat → Int → Int → Int
  | [], _, s, y => if s = y then 1 else 0
  | c :: cs, r, s, y => srN (fun x => sT cs (r - x) (s + (x : Int) * (c.2 : Int)) y) (lo cs r) (nn c cs r)
def aW (W : Int → Int) (cs : List (Nat × Nat)) (r : Nat) (s w : Int) : Int → Int := fun y => W y + sW cs r s w y
def aT (W : Int → Int) (cs : List (Nat × Nat)) (r : Nat) (s : Int) : Int → Int := fun y => W y + sT cs r s y
def gW (W : Int → Int) (c : Nat × Nat) (cs : List (Nat × Nat)) (r : Nat) (s w : Int) (k : Nat) : Int → Int := fun y => W y + srN (fun x => sW cs (r - x) (s + (x : Int) * (c.2 : Int)) (w * (ch c.1 x : Int)) y) (lo cs r) k
def gT (W : Int → Int) (c : Nat × Nat) (cs : List (Nat × Nat)) (r : Nat) (s : Int) (k : Nat) : Int → Int := fun y => W y + srN (fun x => sT cs (r - x) (s + (x : Int) * (c.2 : Int)) y) (lo cs r) k
theorem gW_0 (W : Int → Int) (c : Nat × Nat) (cs : List (Nat × Nat)) (r : Nat) (s w : Int) : gW W c cs r s w 0 = W := by
  funext y
  simp [gW, srN]
theorem gT_0 (W : Int → Int) (c : Nat × Nat) (cs : List (Nat × Nat)) (r : Nat) (s : Int) : gT W c cs r s 0 = W := by
  funext y
  simp [gT, srN]
theorem gW_s (W : Int → Int) (c : Nat × Nat) (cs : List (Nat × Nat)) (r : Nat) (s w : Int) (k : Nat) : aW (gW W c cs r s w k) cs (r - (lo cs r + k)) (s + ((lo cs r + k : Nat) : Int) * (c.2 : Int)) (w * (ch c.1 (lo cs r + k) : Int)) = gW W c cs r s w (k + 1) := by
  funext y
  simp only [aW, gW, srN, Int.add_assoc]
theorem gT_s (W : Int → Int) (c : Nat × Nat) (cs : List (Nat × Nat)) (r : Nat) (s : Int) (k : Nat) : aT (gT W c cs r s k) cs (r - (lo cs r + k)) (s + ((lo cs r + k : Nat) : Int) * (c.2 : Int)) = gT W c cs r s (k + 1) := by
  funext y
  simp only [aT, gT, srN, Int.add_assoc]
theorem gW_e (W : Int → Int) (c : Nat × Nat) (cs : List (Nat × Nat)) (r : Nat) (s w : Int) : gW W c cs r s w (nn c cs r) = aW W (c :: cs) r s w := rfl
theorem gT_e (W : Int → Int) (c : Nat × Nat) (cs : List (Nat × Nat)) (r : Nat) (s : Int) : gT W c cs r s (nn c cs r) = aT W (c :: cs) r s := rfl
theorem uZ_W (W : Int → Int) (r : Nat) (s w : Int) : uZ W s (W s + w) = aW W [] r s w := by
  funext y
  unfold aW
  by_cases h : y = s
  · rw [h, uZ_same]
    simp [sW]
  · rw [uZ_ne h]
    simp [sW, Ne.symm h]
theorem uZ_T (W : Int → Int) (r : Nat) (s : Int) : uZ W s (W s + 1) = aT W [] r s := by
  funext y
  unfold aT
  by_cases h : y = s
  · rw [h, uZ_same]
    simp [sT]
  · rw [uZ_ne h]
    simp [sT, Ne.symm h]
