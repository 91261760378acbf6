/-! ===== the law's start ===== -/
theorem mt {w : Cond} (i : Nat) (h : tables_1[i]? = some w) : w ∈ lw_tbl := List.mem_append_right _ (List.mem_of_getElem? h)
theorem law_K {s : State} {b : Nat} (hts : ∀ w ∈ lw_tbl, w.before #[Value.ref b] s = true) : ∃ (D : va_G) (cy : Nat → ClassId), va_K D vwCl (tys cy) s ∧ AOs s := by
  have h0 : ∀ k : Nat, ∃ d : ClassId × (Nat → Nat), ∀ q : vw_C, vwCl[k]? = some q → u_Kn s q.1 q.2.1 q.2.2 d.1 d.2 := by
    intro k
    match k with
    | 0 =>
      obtain ⟨c9, i9, h9⟩ := u_known (C := RX0) (T := TX0) (N := 7) (n := 7) hts inX0 (hts _ (mt 62 (by decide +kernel)))
      exact ⟨(c9, i9), fun q hq => by cases hq; exact h9⟩
    | 1 =>
      obtain ⟨c9, i9, h9⟩ := u_known (C := RX1) (T := TX1) (N := 3) (n := 3) hts inX1 (hts _ (mt 123 (by decide +kernel)))
      exact ⟨(c9, i9), fun q hq => by cases hq; exact h9⟩
    | 2 =>
      obtain ⟨c9, i9, h9⟩ := u_known (C := RX2) (T := TX2) (N := 5) (n := 5) hts inX2 (hts _ (mt 148 (by decide +kernel)))
      exact ⟨(c9, i9), fun q hq => by cases hq; exact h9⟩
    | 3 =>
      obtain ⟨c9, i9, h9⟩ := u_known (C := RX3) (T := TX3) (N := 4) (n := 4) hts inX3 (hts _ (mt 102 (by decide +kernel)))
      exact ⟨(c9, i9), fun q hq => by cases hq; exact h9⟩
    | 4 =>
      obtain ⟨c9, i9, h9⟩ := u_known (C := RX4) (T := TX4) (N := 7) (n := 7) hts inX4 (hts _ (mt 171 (by decide +kernel)))
      exact ⟨(c9, i9), fun q hq => by cases hq; exact h9⟩
    | 5 =>
      obtain ⟨c9, i9, h9⟩ := u_known (C := RX5) (T := TX5) (N := 3) (n := 3) hts inX5 (hts _ (mt 55 (by decide +kernel)))
      exact ⟨(c9, i9), fun q hq => by cases hq; exact h9⟩
    | 6 =>
      obtain ⟨c9, i9, h9⟩ := u_known (C := RX6) (T := TX6) (N := 1) (n := 1) hts inX6 (hts _ (mt 28 (by decide +kernel)))
      exact ⟨(c9, i9), fun q hq => by cases hq; exact h9⟩
    | 7 =>
      obtain ⟨c9, i9, h9⟩ := u_known (C := RX7) (T := TX7) (N := 4) (n := 4) hts inX7 (hts _ (mt 140 (by decide +kernel)))
      exact ⟨(c9, i9), fun q hq => by cases hq; exact h9⟩
    | 8 =>
      obtain ⟨c9, i9, h9⟩ := u_known (C := RX8) (T := TX8) (N := 7) (n := 7) hts inX8 (hts _ (mt 199 (by decide +kernel)))
      exact ⟨(c9, i9), fun q hq => by cases hq; exact h9⟩
    | 9 =>
      obtain ⟨c9, i9, h9⟩ := u_known (C := RX9) (T := TX9) (N := 2) (n := 2) hts inX9 (hts _ (mt 41 (by decide +kernel)))
      exact ⟨(c9, i9), fun q hq => by cases hq; exact h9⟩
    | 10 =>
      obtain ⟨c9, i9, h9⟩ := u_known (C := RX10) (T := TX10) (N := 6) (n := 6) hts inX10 (hts _ (mt 20 (by decide +kernel)))
      exact ⟨(c9, i9), fun q hq => by cases hq; exact h9⟩
    | k + 11 => exact ⟨(0, fun _ => 0), fun q hq => by simp [vwCl] at hq⟩
  obtain ⟨d, hd⟩ := Classical.axiomOfChoice h0
  obtain ⟨c0, k0, p0, a1, a2, a3⟩ := Cond.arrayClass_spec (type := .char) (hts _ (mt 53 (by decide +kernel)))
  obtain ⟨c1, k1, p1, b1, b2, b3⟩ := Cond.arrayClass_spec (type := .int) (hts _ (mt 90 (by decide +kernel)))
  obtain ⟨c2, k2, p2, d1, d2, d3⟩ := Cond.arrayClass_spec (type := .long) (hts _ (mt 39 (by decide +kernel)))
  have w3 : (Cond.arrayOver (.object "MarginTables$Columns")).before #[Value.ref b] s = true := hts _ (mt 61 (by decide +kernel))
  have w4 : (Cond.arrayOver (.object "MarginTables$Stratum")).before #[Value.ref b] s = true := hts _ (mt 139 (by decide +kernel))
  have w5 : AOA .int s := hts (.arrayOver (.array .int)) (mt 108 (by decide +kernel))
  have w6 : AOA .long s := hts (.arrayOver (.array .long)) (mt 34 (by decide +kernel))
  obtain ⟨p3, c3, k3, e1, e2, e3, e4, e5⟩ := Cond.arrayOver_spec w3
  obtain ⟨p4, c4, k4, f1, f2, f3, f4, f5⟩ := Cond.arrayOver_spec w4
  obtain ⟨p5, c5, k5, g1, g2, g3, g4, g5⟩ := w5.out
  obtain ⟨p6, c6, k6, i1, i2, i3, i4, i5⟩ := w6.out
  refine ⟨(fun k => (d k).1, fun k => (d k).2), fun k => [c0, c1, c2, c3, c4, c5, c6].getD k 0, ⟨fun k q hq => hd k q hq, fun k q hq => ?_⟩, va_AO.of w3, va_AO.of w4, w5, w6⟩
  match k, hq with
  | 0, hq => cases hq; exact ⟨fun N z => ⟨(fun k h => by cases h), k0, a2, p0, a3⟩, a1⟩
  | 1, hq => cases hq; exact ⟨fun N z => ⟨(fun k h => by cases h), k1, b2, p1, b3⟩, b1⟩
  | 2, hq => cases hq; exact ⟨fun N z => ⟨(fun k h => by cases h), k2, d2, p2, d3⟩, d1⟩
  | 3, hq => cases hq; exact ⟨fun N z => ⟨(fun k h => by cases h), k3, e3, p3, e4⟩, k3, p3, e3, e4, e1, e5⟩
  | 4, hq => cases hq; exact ⟨fun N z => ⟨(fun k h => by cases h), k4, f3, p4, f4⟩, k4, p4, f3, f4, f1, f5⟩
  | 5, hq => cases hq; exact ⟨fun N z => ⟨(fun k h => by cases h), k5, g3, p5, g4⟩, g5⟩
  | 6, hq => cases hq; exact ⟨fun N z => ⟨(fun k h => by cases h), k6, i3, p6, i4⟩, i5⟩
  | k + 7, hq => simp [tys] at hq
def ftB : List Int32 := [115, 59, 99, 56, 44, 49, 44, 48, 59, 99, 55, 44, 51, 44, 49, 59, 99, 57, 44, 54, 44, 50, 59, 99, 54, 44, 53, 44, 51, 59, 115, 59, 99, 53, 44, 49, 44, 48, 59, 99, 54, 44, 52, 44, 50, 59]
theorem ftB_A : ∀ j : Nat, j < 46 → ftB.getD j 0 = zI (ftA ((j : Nat) : Int)) := by decide +kernel
theorem ft_el : ∀ j : Nat, j < 46 → Cond.eq (.elem (.field (.string "MarginTables" 53) "java/lang/String" "value" "[B") (.int (Int32.ofNat j))) (.int (ftB.getD j 0)) ∈ flatC (Jvm.Cond.and given_1 narrow_1) := by decide +kernel
theorem law_SF {s : State} {b : Nat} (hts : ∀ w ∈ lw_tbl, w.before #[Value.ref b] s = true) (hgv : (Jvm.Cond.and given_1 narrow_1).before #[Value.ref b] s = true) : ∃ sa va : Nat, SF s.heap.size sa va s := by
  have hs := flat_of_before _ hgv
  have hA : ∀ a : Nat, a < s.heap.size → ¬ yA s.heap.size a := fun a h => Nat.not_le.mpr h
  obtain ⟨adK, adV, ⟨hS, -⟩, hev⟩ := vk_Sof (args := #[Value.ref b]) (s := s) (N := 1) (tm := fun _ => .string "MarginTables" 53) (len := [46]) (byt := [ftB]) (A := yA s.heap.size)
    (fun i hi => by obtain rfl : i = 0 := by omega
                    decide)
    (fun i hi => hs _ (by decide +kernel)) (fun i hi => hs _ (by decide +kernel)) (fun i hi => hs _ (by decide +kernel))
    (fun i hi => by obtain rfl : i = 0 := by omega
                    exact hs _ (by decide +kernel))
    (fun i hi j hj => by obtain rfl : i = 0 := by omega
                         exact hs _ (ft_el j hj))
    (fun i j hi hj hij => absurd hij (by omega)) hA
  obtain ⟨h1, h2, h3, h4⟩ := hS 0 (by omega)
  refine ⟨adK 0, adV 0, ⟨va_Zof (hts _ (mt 251 (by decide +kernel))) (hts _ (mt 12 (by decide +kernel))) (va_eqi (hs _ (by decide +kernel))) hA, va_Zqof (hts _ (mt 267 (by decide +kernel))) (hts _ (mt 14 (by decide +kernel))) (hs _ (by decide +kernel)) hA, h1, h2, h3, ?_⟩, vk_R.of (hts _ (mt 241 (by decide +kernel))) (hev 0 (by omega))⟩
  obtain ⟨cell, q1, q2, q3, q4, q5, q6, q7⟩ := h4
  refine ⟨cell, q1, q2, q3, q4, q5, fun j hj => ?_, q7⟩
  rw [q6 j hj]
  exact congrArg some (congrArg Value.int (ftB_A j hj))
theorem whole_start {p : Program} {e : Env} {s : State} {m : MethodId} {below : List Frame} {meth : Method} {c : Code} (l : Launch) (hflags : l.flags = flags0) {b L : Nat} {xs : Nat → Int32} (hL : L ≤ 260) (C0 : lw_At p s m meth c b L xs) : W p l e room_1 s m #[Value.ref b] below meth c s.heap [] 0 0 (lw_Z below #[Value.ref b] s) (entryFrame m ([Value.ref b] : List Value).toArray 5) := by
  obtain ⟨hx, hb, hr, hml, hown, hts, hX, hbl, hlocks, hgv⟩ := id C0
  obtain ⟨D, cy, hK, hao⟩ := law_K hts
  obtain ⟨sa, va, hsf⟩ := law_SF hts hgv
  have hbA : ¬ yA s.heap.size b := Nat.not_le.mpr hbl
  have hl := lv_entry ([.ref b]) (n := 5) (Nat.le_of_ble_eq_true rfl)
  rw [lg_entry_eq]
  generalize (lg_sl ([.ref b]) ++ List.replicate (5 - (lg_sl ([.ref b])).length) Slot.unset).toArray = ls at hl ⊢
  have hl : lv_has ls 5 [(0, .ref b)] := hl
  have hP0 : va_P D vwCl (pw s.heap.size 0 (fun _ => .inr (0, []))) s.heap := fun k q h => by
    have := (pw_in h).1
    omega
  have hmain : WW p l e room_1 s m #[Value.ref b] below meth c (lw_Z below #[Value.ref b] s) cL_law 5 ret RL wsL_law D cy s.heap.size 0 0 0 (fun _ => .inr (0, [])) 0 [(0, .ref b)] [] := by
    refine w_new (ci := 10) (T := TX10) (NF := 6) (fs := [.null, .null, .null, .null, .null, (.int (zI 0))]) rfl inlX10 tyX10 tyX10_ok (List.mem_of_getElem? (i := 0) (by decide +kernel)) (List.mem_of_getElem? (i := 1) (by decide +kernel)) (List.mem_of_getElem? (i := 2) (by decide +kernel)) (fun j hj => match j, hj with | 0, _ => rfl | 1, _ => rfl | 2, _ => rfl | 3, _ => rfl | 4, _ => rfl | 5, _ => rfl | (_ + 6), h => absurd h (by omega)) (Nat.le_of_ble_eq_true rfl) (Nat.le_of_ble_eq_true rfl) dL_law_0 (fun g1 he0 hn0 => ?_)
    refine w_dup dL_law_3 rfl ?_
    have h10 : nO10 cy s.heap.size g1 0 .null .null .null .null .null (.int (zI 0)) := he0
    refine w_ctor4 (As := []) (rest := [.ref (s.heap.size + 0)]) (n := 0) (k := 0) hao hsf (c_X10_init h10) gL_law_X10_init rfl rfl rfl (List.mem_of_getElem? (i := 2) (by decide +kernel)) (List.mem_of_getElem? (i := 4) (by decide +kernel)) (List.mem_of_getElem? (i := 5) (by decide +kernel)) rfl (by decide +kernel) ⟨(Nat.le_of_ble_eq_true rfl), (Nat.le_of_ble_eq_true rfl)⟩ rfl (Nat.le_of_ble_eq_true rfl) ⟨(Nat.le_of_ble_eq_true rfl), (Nat.le_of_ble_eq_true rfl)⟩ dL_law_4 rfl (fun g2 hp10 => ?_)
    obtain ⟨⟨Lt, hCW⟩, -⟩ := hp10
    refine w_astore_n [(1, .ref (s.heap.size + 0)), (0, .ref b)] dL_law_7 rfl (by decide) rfl ?_
    refine w_bipush dL_law_8 (by decide) ?_
    refine w_newI (n := 64) (by omega) (by omega) (List.mem_of_getElem? (i := 3) (by decide +kernel)) (Nat.le_of_ble_eq_true rfl) (Nat.le_of_ble_eq_true rfl) dL_law_10 (fun g3 he3 hn3 => ?_)
    refine w_astore_n [(2, .ref (s.heap.size + 141)), (1, .ref (s.heap.size + 0)), (0, .ref b)] dL_law_12 rfl (by decide) rfl ?_
    have ho : OW cy s.heap.size g3 0 [] firstS [] 7 := ⟨Lt, CW_fr hCW (fun q h => hn3 q (by omega)), fun i h1 h2 => absurd h2 (by show ¬ i < ((0 : Nat) : Int); omega), ⟨Nat.zero_le _, fun i h1 h2 => absurd h2 (by show ¬ i < ((0 : Nat) : Int); omega)⟩, firstS_ok, by decide, fun i hi => absurd hi (Nat.not_lt_zero i)⟩
    exact law_body rfl ⟨hX, hbl, hbA⟩ hL ho he3
  exact hmain ⟨hx, hb, hml, hown, fun w hw => hts w (wsL_law_in w hw), hK, hr, hlocks⟩ (Nat.le_refl _) rfl s.heap [] ls hP0 va_S.rf hl
