/-! ===== arrays of references: made, filled in order ===== -/
section NEWQ
variable {p : Program} {l : Launch} {e : Env} {R : Room} {s : State} {m : MethodId} {args : Array Value} {below : List Frame} {meth : Method} {c : Code} {Q : State → Prop} {cc : ByteArray} {nL : Nat} {ret : Option FieldType} {own : String} {Ts : List Cond} {D : va_G} {cy : Nat → ClassId} {B N cells slots : Nat} {g : Nat → va_E} {pc : Nat} {lv : List (Nat × Value)} {st : List Value}
theorem aR_0 (B b w : Nat) : (fun _ => none) = aR B 0 b w := by
  funext k
  unfold aR
  rw [if_neg (by omega)]
theorem aR_up (B i b w : Nat) : va_up (aR B i b w) i (some (B + (b + w * i))) = aR B (i + 1) b w := by
  funext k
  by_cases h : k = i
  · subst h
    rw [va_up_self]
    unfold aR
    rw [if_pos (by omega)]
  · rw [va_up_ne _ _ h]
    unfold aR
    by_cases h2 : k < i
    · rw [if_pos h2, if_pos (by omega)]
    · rw [if_neg h2, if_neg (by omega)]
theorem w_newq {Cn : String} {index n : Nat} {z : Int} (t b w : Nat) (ht : (tys cy)[t]? = some (cy t, .object Cn)) (hov : va_AO Cn s) (hz0 : z = (n : Int)) (hn : n ≤ 10000) (hcl : Cond.classLink own index Cn ∈ Ts) (hc1 : cells + 1 ≤ R.cells) (hs1 : slots + n ≤ R.slots) (hd : decode cc pc = .ok (.anewarray index, 3))
    (kk : ∀ g' : Nat → va_E, g' N = .inl (cy t, n, .inr (.inr (.inr (.inr (aR B 0 b w))))) → (∀ q, q ≠ N → g' q = g q) → WW p l e R s m args below meth c Q cc nL ret own Ts D cy B (N + 1) (cells + 1) (slots + n) g' (pc + 3) lv (.ref (B + N) :: st)) : WW p l e R s m args below meth c Q cc nL ret own Ts D cy B N cells slots g pc lv (.int (zI z) :: st) := by
  intro C hb hz H locs ls hP hS hl
  subst hz0
  have nz : ¬ zI (n : Int) < 0 := by
    intro h
    exact absurd ((zI_lt (a := (n : Int)) (b := 0) (by omega) (by omega)).mp h) (by omega)
  refine va_newq C.1 C.2.1 C.2.2.2.1 (C.2.2.2.2.1 _ hcl) hov C.2.2.2.2.2.1 hP pw_DA hS (fun q hq => Nat.le_trans hb hq) nz (by rw [zI_nat (by omega)]; omega) (by omega) hc1 hs1 hd ?_
  intro q cA H1 hK1 hP1 hD1 hS1 T hT X
  obtain rfl : q = B + N := new_at hb hz hP1 hD1 hT X
  have h7 : (tys cy ++ [(cA, FieldType.object Cn)])[(tys cy).length]? = some (cA, .object Cn) := by
    rw [List.getElem?_append_right (Nat.le_refl _), Nat.sub_self]
    rfl
  obtain ⟨-, -, -, -, -, e1⟩ := (hK1.2 _ _ h7).2
  obtain ⟨-, -, -, -, -, e2⟩ := (C.2.2.2.2.2.1.2 _ _ ht).2
  obtain rfl : cA = cy t := Option.some.inj (e1.symm.trans e2)
  rw [aR_0 B b w, pw_push] at hP1
  exact kk (va_up g N _) (va_up_self _ _ _) (fun q hq => va_up_ne _ _ hq) C hb (by omega) H1 locs ls hP1 hS1 hl T hT X
theorem w_astq {t ci n i b w : Nat} {z : Int} {r : vw_C} {vs : List Value} (k0 kv : Nat) (hk0 : k0 < N) (hkv : kv < N) (hg0 : g k0 = .inl (cy t, n, .inr (.inr (.inr (.inr (aR B i b w)))))) (hgv : g kv = .inr (ci, vs)) (hkb : kv = b + w * i) (ht : (tys cy)[t]? = some (cy t, .object r.1)) (hc : vwCl[ci]? = some r) (hz0 : z = (i : Int)) (hin : i < n ∧ n ≤ 10000) (hd : decode cc pc = .ok (.aastore, 1))
    (kk : ∀ g' : Nat → va_E, g' k0 = .inl (cy t, n, .inr (.inr (.inr (.inr (aR B (i + 1) b w))))) → (∀ q, q ≠ k0 → g' q = g q) → WW p l e R s m args below meth c Q cc nL ret own Ts D cy B N cells slots g' (pc + 1) lv st) : WW p l e R s m args below meth c Q cc nL ret own Ts D cy B N cells slots g pc lv (.ref (B + kv) :: .int (zI z) :: .ref (B + k0) :: st) := by
  intro C hb hz H locs ls hP hS hl
  subst hz0
  refine va_astq C.1 C.2.1 C.2.2.2.2.2.1 hP pw_DA hS k0 t kv ci (by rw [pw_get hk0, hg0]) ht (by rw [pw_get hkv, hgv]) hc (zI_in (by omega)) hd ?_
  intro H1 locs1 hP1 _ hS1
  refine kk (va_up g k0 _) (va_up_self _ _ _) (fun q hq => va_up_ne _ _ hq) C hb hz H1 locs1 ls ?_ hS1 hl
  rw [zI_nat (by omega), show ((i : Nat) : Int).toNat = i by omega, hkb, aR_up, pw_set hk0] at hP1
  exact hP1
end NEWQ
