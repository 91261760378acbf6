/-! ===== the model: a table by its number; looks ===== -/
def tmx (c : List Co) (k a : Nat) : Nat := min (coT c ((k : Nat) : Int)).toNat (coR c - a)
def tlo (c : List Co) (k a : Nat) : Nat := lo (clL (coT c) (coV c) (k + 1) (c.length - (k + 1))) (coR c - a)
def tbi (c : List Co) (k a : Nat) (l0 : Int) (x : Nat) (lx : Int) : Prop := x ≤ tmx c k a ∧ 0 ≤ lx ∧ lx < srN (mr c k a) x (tmx c k a + 1 - x) ∧ (x ≤ tlo c k a → lx = l0) ∧ (tlo c k a ≤ x → pk (mr c k a) (tmx c k a - x) x lx = pk (mr c k a) (tmx c k a - tlo c k a) (tlo c k a) l0)
theorem mr_out {c : List Co} {k a x : Nat} (h : x < tlo c k a) : mr c k a x = 0 := by
  refine MB_out (fun q => ?_)
  unfold tlo lo at h
  omega
theorem tbi_0 {c : List Co} {k a : Nat} {l : Int} (hk : k < c.length) (ht : thr (coT c) (coV c) c.length (coR c) k a) (hl : 0 ≤ l ∧ l < tc (clL (coT c) (coV c) k (c.length - k)) (coR c - a)) : tbi c k a l 0 l := by
  have hlm := thr_lo ht hk
  refine ⟨Nat.zero_le _, hl.1, ?_, fun _ => rfl, fun h => ?_⟩
  · have hnn : tlo c k a + nn ((coT c ((k : Nat) : Int)).toNat, (coV c ((k : Nat) : Int)).toNat) (clL (coT c) (coV c) (k + 1) (c.length - (k + 1))) (coR c - a) = tmx c k a + 1 := by
      unfold nn tlo tmx
      unfold lo at *
      show coR c - a - _ + (min (coT c ((k : Nat) : Int)).toNat (coR c - a) + 1 - (coR c - a - _)) = _
      omega
    rw [Nat.sub_zero, srN_win (f := mr c k a) (l := tlo c k a) (m := nn ((coT c ((k : Nat) : Int)).toNat, (coV c ((k : Nat) : Int)).toNat) (clL (coT c) (coV c) (k + 1) (c.length - (k + 1))) (coR c - a)) (fun i hi => mr_out hi) (fun i h1 h2 => by omega) (by omega)]
    have e : tc (clL (coT c) (coV c) k (c.length - k)) (coR c - a) = srN (mr c k a) (tlo c k a) (nn ((coT c ((k : Nat) : Int)).toNat, (coV c ((k : Nat) : Int)).toNat) (clL (coT c) (coV c) (k + 1) (c.length - (k + 1))) (coR c - a)) := by
      rw [clL_c hk, tc]
      refine srN_congr (fun i hi => ?_)
      obtain ⟨n1, n2, n3⟩ := nn_x hi
      unfold mr
      have ha := ht.2.1
      rw [MB_in ⟨by omega, by omega⟩, show coR c - (a + (lo (clL (coT c) (coV c) (k + 1) (c.length - (k + 1))) (coR c - a) + i)) = coR c - a - (lo (clL (coT c) (coV c) (k + 1) (c.length - (k + 1))) (coR c - a) + i) by omega]
      rfl
    rw [← e]
    exact hl.2
  · rw [show tlo c k a = 0 by omega]
theorem tbi_s {c : List Co} {k a x : Nat} {l0 lx : Int} (hc : cok c) (h : tbi c k a l0 x lx) (hx : mr c k a x ≤ lx) : tbi c k a l0 (x + 1) (lx - mr c k a x) := by
  obtain ⟨h1, h2, h3, h4, h5⟩ := h
  have hn : 0 ≤ mr c k a x := (MB_rg hc (k + 1) (a + x)).2.2.2.1.1
  rw [show tmx c k a + 1 - x = (tmx c k a - x) + 1 by omega, srN_left] at h3
  have hlt : x < tmx c k a := by
    rcases Nat.lt_or_ge x (tmx c k a) with q | q
    · exact q
    · rw [show tmx c k a - x = 0 by omega, srN] at h3
      omega
  refine ⟨hlt, by omega, by rw [show tmx c k a + 1 - (x + 1) = tmx c k a - x by omega]; omega, fun q => ?_, fun q => ?_⟩
  · rw [mr_out (show x < tlo c k a by omega), h4 (by omega), Int.sub_zero]
  · rcases Nat.lt_or_ge x (tlo c k a) with z | z
    · have e : tlo c k a = x + 1 := by omega
      rw [mr_out z, h4 (by omega), Int.sub_zero, e]
    · have h6 := h5 z
      exact pk_go (y := x) h6 hlt hx
theorem tbi_e {c : List Co} {k a x : Nat} {l0 lx : Int} (hlo : tlo c k a ≤ tmx c k a) (h : tbi c k a l0 x lx) (hx : lx < mr c k a x) : tlo c k a ≤ x ∧ pk (mr c k a) (tmx c k a - tlo c k a) (tlo c k a) l0 = (x, lx) := by
  obtain ⟨h1, h2, h3, h4, h5⟩ := h
  have hl : tlo c k a ≤ x := by
    rcases Nat.lt_or_ge x (tlo c k a) with z | z
    · rw [mr_out z] at hx
      omega
    · exact z
  refine ⟨hl, ?_⟩
  rw [← h5 hl]
  rcases Nat.lt_or_ge x (tmx c k a) with q | q
  · rw [show tmx c k a - x = (tmx c k a - x - 1) + 1 by omega, pk, if_pos hx]
  · rw [show tmx c k a - x = 0 by omega]
    rfl
theorem pk_congr {f f' : Nat → Int} : ∀ {k x : Nat} {t : Int}, (∀ i, i < k → f (x + i) = f' (x + i)) → pk f k x t = pk f' k x t
  | 0, _, _, _ => rfl
  | k + 1, x, t, h => by
    have h0 := h 0 (by omega)
    rw [Nat.add_zero] at h0
    rw [pk, pk, h0, pk_congr (f := f) (f' := f') (k := k) (x := x + 1) (t := t - f' x) (fun i hi => by rw [show x + 1 + i = x + (i + 1) by omega]; exact h (i + 1) (by omega))]
theorem un_step {c : List Co} {k a x xl : Nat} {t l lx : Int} (hk : k < c.length) (ht : thr (coT c) (coV c) c.length (coR c) k a) (hu : un (coT c) (coV c) c.length (coR c) t k = (a, l, xl)) (hp : pk (mr c k a) (tmx c k a - tlo c k a) (tlo c k a) l = (x, lx)) (hx : tlo c k a ≤ x ∧ x ≤ tmx c k a) (hl : lx < mr c k a x) : un (coT c) (coV c) c.length (coR c) t (k + 1) = (a + x, lx, x) ∧ thr (coT c) (coV c) c.length (coR c) (k + 1) (a + x) ∧ lx < tc (clL (coT c) (coV c) (k + 1) (c.length - (k + 1))) (coR c - (a + x)) := by
  have hn : thr (coT c) (coV c) c.length (coR c) (k + 1) (a + x) := thr_next' ht hk hx.1 hx.2
  have e : pk (fun x => NV (coT c) (coV c) c.length (coR c) 4 (k + 1) (a + x)) (tmx c k a - tlo c k a) (tlo c k a) l = (x, lx) := by
    rw [← hp]
    refine pk_congr (fun i hi => ?_)
    have h3 : thr (coT c) (coV c) c.length (coR c) (k + 1) (a + (tlo c k a + i)) := thr_next' ht hk (x := tlo c k a + i) (Nat.le_add_right _ _) (by show _ ≤ tmx c k a; omega)
    show NV _ _ _ _ 4 (k + 1) (a + (tlo c k a + i)) = MB c 4 (k + 1) (a + (tlo c k a + i))
    rw [NV_in h3 (by omega), MB_in ⟨h3.2.1, h3.2.2.2⟩]
  refine ⟨?_, hn, ?_⟩
  · rw [un, hu]
    have e2 : pk (fun x => NV (coT c) (coV c) c.length (coR c) 4 (k + 1) (a + x)) (min (coT c ((k : Nat) : Int)).toNat (coR c - a) - lo (clL (coT c) (coV c) (k + 1) (c.length - (k + 1))) (coR c - a)) (lo (clL (coT c) (coV c) (k + 1) (c.length - (k + 1))) (coR c - a)) l = (x, lx) := e
    show (a + (pk _ _ _ l).1, (pk _ _ _ l).2, (pk _ _ _ l).1) = _
    rw [e2]
  · unfold mr at hl
    rw [MB_in ⟨hn.2.1, hn.2.2.2⟩] at hl
    exact hl
/-! looks -/
def wkC (b : Bool) (s : Int) : List (Nat × Nat) → Nat → Int → Int
  | [], _, _ => 0
  | c :: cs, r, w => srN (fun x => 1 + (if b = true ∧ ((w * (ch c.1 x : Int)) * lg cs (r - x) ≤ s ∨ s < (w * (ch c.1 x : Int)) * sh cs (r - x)) then 0 else wkC b s cs (r - x) (w * (ch c.1 x : Int)))) (lo cs r) (nn c cs r)
theorem wk_rk {s : Int} : ∀ (cs : List (Nat × Nat)) (r : Nat) (w : Int), wkC true s cs r w = rk 2 s cs r w
  | [], _, _ => rfl
  | c :: cs, r, w => by
    rw [wkC, rk_c]
    refine srN_congr (fun i _ => ?_)
    show 1 + (if true = true ∧ _ then 0 else wkC true s cs _ _) = la 2 s cs _ _
    rw [wk_rk cs]
    unfold la rq
    rw [if_pos rfl]
    congr 1
    by_cases h1 : (w * (ch c.1 (lo cs r + i) : Int)) * lg cs (r - (lo cs r + i)) ≤ s
    · rw [if_pos ⟨rfl, Or.inl h1⟩, if_pos h1]
      rfl
    · rw [if_neg h1]
      by_cases h2 : (w * (ch c.1 (lo cs r + i) : Int)) * sh cs (r - (lo cs r + i)) ≤ s
      · rw [if_neg (fun q => by rcases q.2 with z | z; exact h1 z; omega), if_pos h2]
      · rw [if_pos ⟨rfl, Or.inr (by omega)⟩, if_neg h2]
theorem wk_lk {s : Int} : ∀ (cs : List (Nat × Nat)) (r : Nat) (w : Int), wkC false s cs r w = lk cs r
  | [], _, _ => rfl
  | c :: cs, r, w => by
    rw [wkC, lk]
    refine srN_congr (fun i _ => ?_)
    show 1 + (if false = true ∧ _ then 0 else wkC false s cs _ _) = 1 + lk cs _
    rw [if_neg (fun q => absurd q.1 (by decide)), wk_lk cs]
/-- a node's number looked at: what that adds -/
def stpW (b : Bool) (c : List Co) (j a : Nat) (v : Int) (x : Nat) : Prop := b = true ∧ (v * lg (clL (coT c) (coV c) (j + 1) (c.length - (j + 1))) (coR c - (a + x)) ≤ coP c ∨ coP c < v * sh (clL (coT c) (coV c) (j + 1) (c.length - (j + 1))) (coR c - (a + x)))
noncomputable def fwk (b : Bool) (c : List Co) (j a : Nat) (w : Int) : Nat → Int := fun x => if 0 < MB c 4 (j + 1) (a + x) then 1 + (if b = true ∧ ((w * ((ch (coT c ((j : Nat) : Int)).toNat x : Nat) : Int)) * lg (clL (coT c) (coV c) (j + 1) (c.length - (j + 1))) (coR c - (a + x)) ≤ coP c ∨ coP c < (w * ((ch (coT c ((j : Nat) : Int)).toNat x : Nat) : Int)) * sh (clL (coT c) (coV c) (j + 1) (c.length - (j + 1))) (coR c - (a + x))) then 0 else wkC b (coP c) (clL (coT c) (coV c) (j + 1) (c.length - (j + 1))) (coR c - (a + x)) (w * ((ch (coT c ((j : Nat) : Int)).toNat x : Nat) : Int))) else 0
theorem fwk_all {b : Bool} {c : List Co} (hc : cok c) {j a : Nat} {w : Int} (hj : j < c.length) (h : a ≤ coR c ∧ coR c - a ≤ tsum (clL (coT c) (coV c) j (c.length - j))) : srN (fwk b c j a w) 0 ((coT c ((j : Nat) : Int)).toNat + 1) = wkC b (coP c) (clL (coT c) (coV c) j (c.length - j)) (coR c - a) w := by
  have hts := ts_c (T := coT c) (V := coV c) hj
  have hz : ∀ x, ¬ (a + x ≤ coR c ∧ coR c - (a + x) ≤ tsum (clL (coT c) (coV c) (j + 1) (c.length - (j + 1)))) → fwk b c j a w x = 0 := fun x q => if_neg (fun z => q ((MB_rg hc (j + 1) (a + x)).2.2.2.2.1.mp z))
  rw [clL_c hj, wkC, srN_win (l := lo (clL (coT c) (coV c) (j + 1) (c.length - (j + 1))) (coR c - a)) (m := nn ((coT c ((j : Nat) : Int)).toNat, (coV c ((j : Nat) : Int)).toNat) (clL (coT c) (coV c) (j + 1) (c.length - (j + 1))) (coR c - a)) (fun i hi => hz i (fun q => by unfold lo at hi; omega)) (fun i h1 h2 => hz i (fun q => by unfold lo nn at h1; have h3 : ((coT c ((j : Nat) : Int)).toNat, (coV c ((j : Nat) : Int)).toNat).fst = (coT c ((j : Nat) : Int)).toNat := rfl; omega)) (by unfold lo nn; have h3 : ((coT c ((j : Nat) : Int)).toNat, (coV c ((j : Nat) : Int)).toNat).fst = (coT c ((j : Nat) : Int)).toNat := rfl; omega)]
  refine srN_congr (fun i hi => ?_)
  obtain ⟨n1, n2, n3⟩ := nn_x hi
  have hp : 0 < MB c 4 (j + 1) (a + (lo (clL (coT c) (coV c) (j + 1) (c.length - (j + 1))) (coR c - a) + i)) := (MB_rg hc (j + 1) _).2.2.2.2.1.mpr ⟨by omega, by omega⟩
  unfold fwk
  rw [if_pos hp, show coR c - (a + (lo (clL (coT c) (coV c) (j + 1) (c.length - (j + 1))) (coR c - a) + i)) = coR c - a - (lo (clL (coT c) (coV c) (j + 1) (c.length - (j + 1))) (coR c - a) + i) by omega]
/-- what is left of the levels of a walk -/
noncomputable def rmS (b : Bool) (c : List Co) (Tr Su So : Int → Int) : Nat → Int
  | 0 => 0
  | i + 1 => rmS b c Tr Su So i + srN (fwk b c i (Su ((i : Nat) : Int)).toNat (So ((i : Nat) : Int))) (Tr ((i : Nat) : Int) + 1).toNat (coT c ((i : Nat) : Int) - Tr ((i : Nat) : Int)).toNat
def muS (c : List Co) (Tr : Int → Int) : Nat → Nat
  | 0 => 0
  | i + 1 => muS c Tr i + (coT c ((i : Nat) : Int) + 1 - Tr ((i : Nat) : Int)).toNat * 15 ^ (5 - i)
theorem rmS_congr {b : Bool} {c : List Co} {Tr Su So Tr' Su' So' : Int → Int} : ∀ {k : Nat}, (∀ i : Nat, i < k → Tr' ((i : Nat) : Int) = Tr ((i : Nat) : Int) ∧ Su' ((i : Nat) : Int) = Su ((i : Nat) : Int) ∧ So' ((i : Nat) : Int) = So ((i : Nat) : Int)) → rmS b c Tr' Su' So' k = rmS b c Tr Su So k
  | 0, _ => rfl
  | k + 1, h => by
    have h1 := h k (by omega)
    rw [rmS, rmS, rmS_congr (fun i hi => h i (by omega)), h1.1, h1.2.1, h1.2.2]
theorem muS_congr {c : List Co} {Tr Tr' : Int → Int} : ∀ {k : Nat}, (∀ i : Nat, i < k → Tr' ((i : Nat) : Int) = Tr ((i : Nat) : Int)) → muS c Tr' k = muS c Tr k
  | 0, _ => rfl
  | k + 1, h => by rw [muS, muS, muS_congr (fun i hi => h i (by omega)), h k (by omega)]
/-- a level as it may be -/
def lvS (c : List Co) (Tr Su So : Int → Int) (i : Nat) : Prop := (-1 ≤ Tr ((i : Nat) : Int) ∧ Tr ((i : Nat) : Int) ≤ coT c ((i : Nat) : Int)) ∧ (0 ≤ Su ((i : Nat) : Int) ∧ (Su ((i : Nat) : Int)).toNat ≤ coR c ∧ coR c - (Su ((i : Nat) : Int)).toNat ≤ tsum (clL (coT c) (coV c) i (c.length - i))) ∧ wok (So ((i : Nat) : Int)) (clL (coT c) (coV c) i (c.length - i))
/-- one number more at the topmost level -/
theorem rmS_top {b : Bool} {c : List Co} {Tr Su So : Int → Int} {j : Nat} {t : Int} (ht : Tr ((j : Nat) : Int) = t) (h1 : -1 ≤ t) (h2 : t < coT c ((j : Nat) : Int)) : rmS b c Tr Su So (j + 1) = fwk b c j (Su ((j : Nat) : Int)).toNat (So ((j : Nat) : Int)) (t + 1).toNat + rmS b c (uZ Tr ((j : Nat) : Int) (t + 1)) Su So (j + 1) := by
  rw [rmS, rmS, uZ_same, ht, rmS_congr (Tr' := uZ Tr ((j : Nat) : Int) (t + 1)) (Tr := Tr) (Su' := Su) (So' := So) (fun i hi => ⟨uZ_ne (by omega), rfl, rfl⟩)]
  rw [show (coT c ((j : Nat) : Int) - t).toNat = (coT c ((j : Nat) : Int) - (t + 1)).toNat + 1 by omega, srN_left, show (t + 1 + 1).toNat = (t + 1).toNat + 1 by omega]
  omega
theorem rmS_pop {b : Bool} {c : List Co} {Tr Su So Tr' : Int → Int} {j : Nat} (ht : Tr ((j : Nat) : Int) = coT c ((j : Nat) : Int)) (h : ∀ i : Nat, i < j → Tr' ((i : Nat) : Int) = Tr ((i : Nat) : Int)) : rmS b c Tr Su So (j + 1) = rmS b c Tr' Su So j := by
  rw [rmS, ht, Int.sub_self, rmS_congr (Tr' := Tr') (Tr := Tr) (Su' := Su) (So' := So) (fun i hi => ⟨h i hi, rfl, rfl⟩)]
  exact Int.add_zero _
theorem rmS_new {b : Bool} {c : List Co} (hc : cok c) {Tr Su So Tr' Su' So' : Int → Int} {j a : Nat} {w : Int} (hj : j < c.length) (ha : a ≤ coR c ∧ coR c - a ≤ tsum (clL (coT c) (coV c) j (c.length - j))) (h : ∀ i : Nat, i < j → Tr' ((i : Nat) : Int) = Tr ((i : Nat) : Int) ∧ Su' ((i : Nat) : Int) = Su ((i : Nat) : Int) ∧ So' ((i : Nat) : Int) = So ((i : Nat) : Int)) (h1 : Tr' ((j : Nat) : Int) = -1) (h2 : Su' ((j : Nat) : Int) = ((a : Nat) : Int)) (h3 : So' ((j : Nat) : Int) = w) : rmS b c Tr' Su' So' (j + 1) = rmS b c Tr Su So j + wkC b (coP c) (clL (coT c) (coV c) j (c.length - j)) (coR c - a) w := by
  have h9 := hc.2 ((j : Nat) : Int) (by omega) (by omega)
  rw [rmS, rmS_congr h, h1, h2, h3, Int.toNat_natCast, ← fwk_all hc hj ha]
  rw [show (coT c ((j : Nat) : Int) - -1).toNat = (coT c ((j : Nat) : Int)).toNat + 1 by omega]
  rfl
theorem pow15 {j : Nat} (h : j ≤ 4) : 0 < 15 ^ (5 - j) ∧ 15 ^ (5 - j) = 15 * 15 ^ (5 - (j + 1)) := by
  rw [show 5 - j = (5 - (j + 1)) + 1 by omega, Nat.pow_succ]
  have : 0 < 15 ^ (5 - (j + 1)) := Nat.pow_pos (by omega)
  omega
theorem muS_top {c : List Co} {Tr : Int → Int} {j : Nat} {t : Int} (hj : j ≤ 4) (ht : Tr ((j : Nat) : Int) = t) (h1 : -1 ≤ t) (h2 : t < coT c ((j : Nat) : Int)) : muS c (uZ Tr ((j : Nat) : Int) (t + 1)) (j + 1) + 15 ^ (5 - j) = muS c Tr (j + 1) := by
  rw [muS, muS, uZ_same, ht, muS_congr (Tr' := uZ Tr ((j : Nat) : Int) (t + 1)) (Tr := Tr) (fun i hi => uZ_ne (by omega))]
  rw [show (coT c ((j : Nat) : Int) + 1 - t).toNat = (coT c ((j : Nat) : Int) + 1 - (t + 1)).toNat + 1 by omega, Nat.succ_mul]
  omega
theorem muS_pop {c : List Co} {Tr Tr' : Int → Int} {j : Nat} (hj : j ≤ 4) (ht : Tr ((j : Nat) : Int) = coT c ((j : Nat) : Int)) (h : ∀ i : Nat, i < j → Tr' ((i : Nat) : Int) = Tr ((i : Nat) : Int)) : muS c Tr' j < muS c Tr (j + 1) := by
  have := (pow15 hj).1
  rw [muS, ht, muS_congr h, show (coT c ((j : Nat) : Int) + 1 - coT c ((j : Nat) : Int)).toNat = 1 by omega, Nat.one_mul]
  omega
theorem muS_new {c : List Co} (hc : cok c) {Tr Tr' : Int → Int} {j : Nat} {t : Int} (hj : j + 1 < c.length) (ht : Tr ((j : Nat) : Int) = t) (h1 : -1 ≤ t) (h2 : t < coT c ((j : Nat) : Int)) (h : ∀ i : Nat, i < j + 1 → Tr' ((i : Nat) : Int) = uZ Tr ((j : Nat) : Int) (t + 1) ((i : Nat) : Int)) (h3 : Tr' (((j + 1 : Nat)) : Int) = -1) : muS c Tr' (j + 1 + 1) < muS c Tr (j + 1) := by
  have h5 := hc.1
  have h6 := muS_top (c := c) (Tr := Tr) (j := j) (t := t) (by omega) ht h1 h2
  have h7 := hc.2 (((j + 1 : Nat)) : Int) (by omega) (by omega)
  obtain ⟨p1, p2⟩ := pow15 (show j ≤ 4 by omega)
  rw [muS, h3, muS_congr h]
  have h8 : (coT c (((j + 1 : Nat)) : Int) + 1 - -1).toNat * 15 ^ (5 - (j + 1)) ≤ 14 * 15 ^ (5 - (j + 1)) := Nat.mul_le_mul_right _ (by omega)
  have p3 : 0 < 15 ^ (5 - (j + 1)) := Nat.pow_pos (by omega)
  omega
theorem fwk_no {b : Bool} {c : List Co} {j a x : Nat} {w : Int} (h : MB c 4 (j + 1) (a + x) ≤ 0) : fwk b c j a w x = 0 := if_neg (by omega)
theorem fwk_end {b : Bool} {c : List Co} {j a x : Nat} {w : Int} (hj : j + 1 = c.length) (h : 0 < MB c 4 (j + 1) (a + x)) : fwk b c j a w x = 1 := by
  unfold fwk
  rw [if_pos h, show c.length - (j + 1) = 0 by omega, clL, wkC]
  split <;> rfl
theorem fwk_stop {c : List Co} {j a x : Nat} {w v l s : Int} (h : 0 < MB c 4 (j + 1) (a + x)) (hv : v = w * ((ch (coT c ((j : Nat) : Int)).toNat x : Nat) : Int)) (hl : l = lg (clL (coT c) (coV c) (j + 1) (c.length - (j + 1))) (coR c - (a + x))) (hs : s = sh (clL (coT c) (coV c) (j + 1) (c.length - (j + 1))) (coR c - (a + x))) (hq : v * l ≤ coP c ∨ coP c < v * s) : fwk true c j a w x = 1 := by
  subst hv hl hs
  unfold fwk
  rw [if_pos h, if_pos ⟨rfl, hq⟩]
  rfl
theorem fwk_go {b : Bool} {c : List Co} {j a x : Nat} {w v l s : Int} (h : 0 < MB c 4 (j + 1) (a + x)) (hv : v = w * ((ch (coT c ((j : Nat) : Int)).toNat x : Nat) : Int)) (hl : l = lg (clL (coT c) (coV c) (j + 1) (c.length - (j + 1))) (coR c - (a + x))) (hs : s = sh (clL (coT c) (coV c) (j + 1) (c.length - (j + 1))) (coR c - (a + x))) (hq : b = false ∨ (¬ v * l ≤ coP c ∧ v * s ≤ coP c)) : fwk b c j a w x = 1 + wkC b (coP c) (clL (coT c) (coV c) (j + 1) (c.length - (j + 1))) (coR c - (a + x)) v := by
  subst hv hl hs
  unfold fwk
  rw [if_pos h, if_neg (fun q => by
    rcases hq with z | ⟨z1, z2⟩
    · rw [z] at q
      exact absurd q.1 (by decide)
    · rcases q.2 with y | y
      · exact z1 y
      · omega)]
