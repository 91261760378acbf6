/-! ===== multianewarray over WW ===== -/
section MNAW
variable {p : Program} {l : Launch} {e : Env} {R : Room} {s : State} {m : MethodId} {args : Array Value} {below : List Frame} {meth : Method} {c : Code} {Q : State → Prop} {cc : ByteArray} {nL : Nat} {ret : Option FieldType} {own : String} {Ts : List Cond} {D : va_G} {cy : Nat → ClassId} {B N cells slots : Nat} {g : Nat → va_E} {pc : Nat} {lv : List (Nat × Value)} {st : List Value}
theorem w_mna {ty : FieldType} {index n k : Nat} {zn zk : Int} {a0 : vp_A} (t1 t2 : Nat) (ht1 : s.vm.findClass ("[" ++ (FieldType.array ty).toString) = some (cy t1)) (ht2 : s.vm.findClass (FieldType.array ty).toString = some (cy t2)) (hov : (Cond.arrayOver (.array ty)).before args s = true) (ha : vp_cell (cy t2) a0 = arrV (cy t2) k (fun _ => defaultValue ty)) (hzn : zn = (n : Int)) (hzk : zk = (k : Int)) (hn : n ≤ 100) (hk : k ≤ 10000) (hb2 : k * componentBytes ty ≤ 536870912) (hdf : fits ty (defaultValue ty) = true) (hdd : (defaultValue ty).isDefault = true) (hl1 : Cond.classLink own index ("[" ++ (FieldType.array ty).toString) ∈ Ts) (hl2 : Cond.arrayClass ty ∈ Ts) (hc1 : cells + (1 + n) ≤ R.cells) (hs1 : slots + (n + n * k) ≤ R.slots) (hd : decode cc pc = .ok (.multianewarray index 2, 4))
    (kk : ∀ g' : Nat → va_E, g' N = .inl (cy t1, n, .inr (.inr (.inr (.inr (aR B n (N + 1) 1))))) → (∀ j, j < n → g' (N + 1 + j) = .inl (cy t2, a0)) → (∀ q, q < N → g' q = g q) → WW p l e R s m args below meth c Q cc nL ret own Ts D cy B (N + 1 + n) (cells + 1 + n) (slots + n + n * k) g' (pc + 4) lv (.ref (B + N) :: st)) : WW p l e R s m args below meth c Q cc nL ret own Ts D cy B N cells slots g pc lv (.int (zI zk) :: .int (zI zn) :: st) := by
  intro C hb hz H locs ls hP hS hl T hT X
  have hH : H.size = B + N := pw_size X hT hP hb hz hS.1
  subst hzn
  subst hzk
  have nz : ∀ a : Nat, a ≤ 10000 → ¬ zI (a : Int) < 0 := by
    intro a h1 h
    exact absurd ((zI_lt (a := (a : Int)) (b := 0) (by omega) (by omega)).mp h) (by omega)
  refine mn_new C.1 C.2.1 C.2.2.2.1 (C.2.2.2.2.1 _ hl1) hov (C.2.2.2.2.1 _ hl2) ht1 ht2 (nz n (by omega)) (nz k hk) (by rw [zI_nat (by omega)]; exact Int.toNat_natCast n) (by rw [zI_nat (by omega)]; exact Int.toNat_natCast k) (by omega) hb2 (by omega) hdf hdd hc1 hs1 hd ?_ T hT X
  intro H1 o1 e1 e2 z1
  rw [hH] at o1 e1 e2 z1 ⊢
  have g0 : ∀ q, q < N → (fun q => if q = N then (.inl (cy t1, n, .inr (.inr (.inr (.inr (aR B n (N + 1) 1))))) : va_E) else if N < q ∧ q ≤ N + n then .inl (cy t2, a0) else g q) q = g q := fun q hq => by
    show (if q = N then _ else _) = _
    rw [if_neg (by omega), if_neg (by omega)]
  have g1 : (fun q => if q = N then (.inl (cy t1, n, .inr (.inr (.inr (.inr (aR B n (N + 1) 1))))) : va_E) else if N < q ∧ q ≤ N + n then .inl (cy t2, a0) else g q) N = .inl (cy t1, n, .inr (.inr (.inr (.inr (aR B n (N + 1) 1))))) := if_pos rfl
  have g2 : ∀ j, j < n → (fun q => if q = N then (.inl (cy t1, n, .inr (.inr (.inr (.inr (aR B n (N + 1) 1))))) : va_E) else if N < q ∧ q ≤ N + n then .inl (cy t2, a0) else g q) (N + 1 + j) = .inl (cy t2, a0) := fun j hj => by
    show (if N + 1 + j = N then _ else _) = _
    rw [if_neg (by omega), if_pos (by omega)]
  generalize (fun q => if q = N then (.inl (cy t1, n, .inr (.inr (.inr (.inr (aR B n (N + 1) 1))))) : va_E) else if N < q ∧ q ≤ N + n then .inl (cy t2, a0) else g q) = g' at g0 g1 g2
  refine kk g' g1 g2 g0 C hb (by omega) H1 locs ls ?_ ⟨by have := hS.1; omega, fun q h1 h2 => (o1 q (by have := hS.1; omega)).trans (hS.2.1 q h1 h2), hS.2.2⟩ hl
  intro i x hx
  obtain ⟨hi, rfl⟩ := pw_in hx
  rcases Nat.lt_trichotomy i N with h | h | h
  · rw [g0 i h]
    exact (hP i _ (pw_get h)).kept (o1 (B + i) (by omega))
  · subst h
    rw [g1]
    show H1[B + i]? = some (vp_cell (cy t1) (n, .inr (.inr (.inr (.inr (aR B n (i + 1) 1))))))
    rw [vp_cell_q, e1]
    refine congrArg some (congrArg (arrV (cy t1) n) (funext fun j => ?_))
    show va_rf _ = va_rf (aR B n (i + 1) 1 j)
    unfold aR
    rw [show B + i + 1 + j = B + (i + 1 + 1 * j) by omega]
  · obtain ⟨j, rfl⟩ : ∃ j, i = N + 1 + j := ⟨i - (N + 1), by omega⟩
    rw [g2 j (by omega)]
    show H1[B + (N + 1 + j)]? = some (vp_cell _ _)
    rw [show B + (N + 1 + j) = B + N + 1 + j by omega, e2 j (by omega), ha]
end MNAW
