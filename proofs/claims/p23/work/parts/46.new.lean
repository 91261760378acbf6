/-! ===== cells made: arrays of char, int, long; objects ===== -/
section NEW
variable {p : Program} {l : Launch} {e : Env} {R : Room} {s : State} {m : MethodId} {args : Array Value} {below : List Frame} {meth : Method} {c : Code} {Q : State → Prop} {cc : ByteArray} {nL : Nat} {ret : Option FieldType} {own : String} {Ts : List Cond} {D : va_G} {cy : Nat → ClassId} {B N cells slots : Nat} {g : Nat → va_E} {pc : Nat} {lv : List (Nat × Value)} {st : List Value}
theorem w_newa {atype : ArrayType} {ty : FieldType} {z : Int} {n : Nat} {a0 : vp_A} (t : Nat) (ht : (tys cy)[t]? = some (cy t, ty)) (hty : newarray.typeOf atype = ty) (hRA : ∀ k, va_RA s k ty → s.vm.findClass ("[" ++ ty.toString) = some k) (ha : ∀ cA : ClassId, vp_cell cA a0 = arrV cA n (fun _ => defaultValue ty)) (hz0 : z = (n : Int)) (hn : n < 2147483648) (hby : n * componentBytes ty ≤ 536870912) (hcl : Cond.arrayClass ty ∈ Ts) (hc1 : cells + 1 ≤ R.cells) (hs1 : slots + n ≤ R.slots) (hd : decode cc pc = .ok (.newarray atype, 2))
    (kk : ∀ g' : Nat → va_E, g' N = .inl (cy t, a0) → (∀ q, q ≠ N → g' q = g q) → WW p l e R s m args below meth c Q cc nL ret own Ts D cy B (N + 1) (cells + 1) (slots + n) g' (pc + 2) lv (.ref (B + N) :: st)) : WW p l e R s m args below meth c Q cc nL ret own Ts D cy B N cells slots g pc lv (.int (zI z) :: st) := by
  intro C hb hz H locs ls hP hS hl
  subst hz0
  have nz : ¬ zI (n : Int) < 0 := by
    intro h
    exact absurd ((zI_lt (a := (n : Int)) (b := 0) (by omega) (by omega)).mp h) (by omega)
  refine va_newa C.1 C.2.1 (atype := atype) (by rw [hty]; exact C.2.2.2.2.1 _ hcl) hty C.2.2.2.2.2.1 hP pw_DA hS (fun q hq => Nat.le_trans hb hq) ha nz (by rw [zI_nat (by omega)]; omega) hby hc1 hs1 hd ?_
  intro q cA H1 hK1 hP1 hD1 hS1 T hT X
  obtain rfl : q = B + N := new_at hb hz hP1 hD1 hT X
  have h7 : (tys cy ++ [(cA, ty)])[(tys cy).length]? = some (cA, ty) := by
    rw [List.getElem?_append_right (Nat.le_refl _), Nat.sub_self]
    rfl
  have e1 := hRA _ (hK1.2 _ _ h7).2
  have e2 := hRA _ (C.2.2.2.2.2.1.2 _ _ ht).2
  obtain rfl : cA = cy t := Option.some.inj (e1.symm.trans e2)
  rw [pw_push] at hP1
  exact kk (va_up g N _) (va_up_self _ _ _) (fun q hq => va_up_ne _ _ hq) C hb (by omega) H1 locs ls hP1 hS1 hl T hT X
theorem w_newI {z : Int} {n : Nat} (hz0 : z = (n : Int)) (hn : n ≤ 10000) (hcl : Cond.arrayClass .int ∈ Ts) (hc1 : cells + 1 ≤ R.cells) (hs1 : slots + n ≤ R.slots) (hd : decode cc pc = .ok (.newarray .int, 2))
    (kk : ∀ g' : Nat → va_E, g' N = cI (cy 1) n (fun _ => 0) → (∀ q, q ≠ N → g' q = g q) → WW p l e R s m args below meth c Q cc nL ret own Ts D cy B (N + 1) (cells + 1) (slots + n) g' (pc + 2) lv (.ref (B + N) :: st)) : WW p l e R s m args below meth c Q cc nL ret own Ts D cy B N cells slots g pc lv (.int (zI z) :: st) :=
  w_newa (atype := .int) (ty := .int) (a0 := (n, .inl (aI (fun _ => 0)))) 1 rfl rfl (fun _ h => h) (fun _ => rfl) hz0 (by omega) (by show n * 4 ≤ _; omega) hcl hc1 hs1 hd kk
theorem w_newC {z : Int} {n : Nat} (hz0 : z = (n : Int)) (hn : n ≤ 10000) (hcl : Cond.arrayClass .char ∈ Ts) (hc1 : cells + 1 ≤ R.cells) (hs1 : slots + n ≤ R.slots) (hd : decode cc pc = .ok (.newarray .char, 2))
    (kk : ∀ g' : Nat → va_E, g' N = cI (cy 0) n (fun _ => 0) → (∀ q, q ≠ N → g' q = g q) → WW p l e R s m args below meth c Q cc nL ret own Ts D cy B (N + 1) (cells + 1) (slots + n) g' (pc + 2) lv (.ref (B + N) :: st)) : WW p l e R s m args below meth c Q cc nL ret own Ts D cy B N cells slots g pc lv (.int (zI z) :: st) :=
  w_newa (atype := .char) (ty := .char) (a0 := (n, .inl (aI (fun _ => 0)))) 0 rfl rfl (fun _ h => h) (fun _ => rfl) hz0 (by omega) (by show n * 2 ≤ _; omega) hcl hc1 hs1 hd kk
theorem w_newJ {z : Int} {n : Nat} (hz0 : z = (n : Int)) (hn : n ≤ 10000) (hcl : Cond.arrayClass .long ∈ Ts) (hc1 : cells + 1 ≤ R.cells) (hs1 : slots + n ≤ R.slots) (hd : decode cc pc = .ok (.newarray .long, 2))
    (kk : ∀ g' : Nat → va_E, g' N = cJ (cy 2) n (fun _ => 0) → (∀ q, q ≠ N → g' q = g q) → WW p l e R s m args below meth c Q cc nL ret own Ts D cy B (N + 1) (cells + 1) (slots + n) g' (pc + 2) lv (.ref (B + N) :: st)) : WW p l e R s m args below meth c Q cc nL ret own Ts D cy B N cells slots g pc lv (.int (zI z) :: st) :=
  w_newa (atype := .long) (ty := .long) (a0 := (n, .inr (.inl (aJ (fun _ => 0))))) 2 rfl rfl (fun _ h => h) (fun _ => rfl) hz0 (by omega) (by show n * 8 ≤ _; omega) hcl hc1 hs1 hd kk
theorem w_new {Cn : String} {T : u_T} {NF ci index : Nat} {fs : List Value} (hc : vwCl[ci]? = some (Cn, T, NF)) (hin : ∀ w ∈ u_ws Cn T NF, w ∈ Ts) (tyf : Nat → FieldType) (hty : ∀ k, k < NF → parseFieldDescriptor (T k).2.2.1 = some (tyf k)) (hl1 : Cond.classLink own index Cn ∈ Ts) (hl2 : Cond.instantiable Cn NF ∈ Ts) (hl3 : Cond.initialized Cn ∈ Ts) (hfs : ∀ j, j < NF → defaultValue (tyf j) = vp_V fs j) (hc1 : cells + 1 ≤ R.cells) (hs1 : slots + NF ≤ R.slots) (hd : decode cc pc = .ok (.new index, 3))
    (kk : ∀ g' : Nat → va_E, g' N = .inr (ci, fs) → (∀ q, q ≠ N → g' q = g q) → WW p l e R s m args below meth c Q cc nL ret own Ts D cy B (N + 1) (cells + 1) (slots + NF) g' (pc + 3) lv (.ref (B + N) :: st)) : WW p l e R s m args below meth c Q cc nL ret own Ts D cy B N cells slots g pc lv st := by
  intro C hb hz H locs ls hP hS hl
  refine va_new C.1 C.2.1 C.2.2.2.2.1 hin tyf hty C.2.2.2.1 (C.2.2.2.2.1 _ hl1) (C.2.2.2.2.1 _ hl2) (C.2.2.2.2.1 _ hl3) C.2.2.2.2.2.1 hP pw_DA hS (fun q hq => Nat.le_trans hb hq) hc hfs hc1 hs1 hd ?_
  intro q H1 hP1 hD1 hS1 U hU X
  obtain rfl : q = B + N := new_at hb hz hP1 hD1 hU X
  rw [pw_push] at hP1
  exact kk (va_up g N _) (va_up_self _ _ _) (fun q hq => va_up_ne _ _ hq) C hb (by omega) H1 locs ls hP1 hS1 hl U hU X
end NEW
