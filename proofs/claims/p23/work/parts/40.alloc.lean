/-! ===== System.arraycopy over long rows, from 0 to 0; cells made ===== -/
section ALLOC
variable {p : Program} {l : Launch} {e : Env} {R : Room} {s : State} {m : MethodId} {args : Array Value} {below : List Frame} {meth : Method} {c : Code} {Q : State → Prop} {cc : ByteArray} {nL : Nat} {ret : Option FieldType} {own : String} {Ts : List Cond} {D : va_G} {cy : Nat → ClassId} {B N cells slots : Nat} {g : Nat → va_E} {pc : Nat} {lv : List (Nat × Value)} {st : List Value}
def cpZ (S T : Int → Int) (z : Int) : Int → Int := fun i => if i < z then S i else T i
theorem aJ_cp {S T : Int → Int} {z : Int} (h : 0 ≤ z ∧ z < 2147483648) : va_cpy (aJ S) (aJ T) (zI 0).toNatClampNeg (zI 0).toNatClampNeg (zI z).toNatClampNeg = aJ (cpZ S T z) := by
  funext k
  rw [zI_nat (by omega), zI_nat h]
  unfold va_cpy aJ cpZ
  by_cases hk : k < z.toNat
  · rw [if_pos ⟨by omega, by omega⟩, if_pos (by omega)]
    congr 2
    show ((((0 : Int).toNat + (k - (0 : Int).toNat)) : Nat) : Int) = (k : Int)
    omega
  · rw [if_neg (fun q => hk (by omega)), if_neg (by omega)]
theorem w_copyJ {index : Nat} {n0 n1 : Nat} {S T : Int → Int} {z : Int} (k0 k1 : Nat) (hk0 : k0 < N) (hk1 : k1 < N) (hg0 : g k0 = cJ (cy 2) n0 S) (hg1 : g k1 = cJ (cy 2) n1 T) (hz0 : 0 ≤ z ∧ z ≤ n0 ∧ z ≤ n1 ∧ z < 2147483648)
    (hl1 : Cond.methodLink own index arraycopyName ∈ Ts) (hl2 : Cond.native arraycopyName ∈ Ts) (hl3 : Cond.static arraycopyName ∈ Ts) (hl4 : Cond.initialized "java/lang/System" ∈ Ts) (hf : 1 ≤ R.frames) (hlo : (st.map fun v => v.category).sum + 20 ≤ R.locals) (hd : decode cc pc = .ok (.invokestatic index, 3))
    (kk : ∀ g' : Nat → va_E, g' k1 = cJ (cy 2) n1 (cpZ S T z) → (∀ q, q ≠ k1 → g' q = g q) → WW p l e R s m args below meth c Q cc nL ret own Ts D cy B N cells slots g' (pc + 3) lv st) : WW p l e R s m args below meth c Q cc nL ret own Ts D cy B N cells slots g pc lv (.int (zI z) :: .int (zI 0) :: .ref (B + k1) :: .int (zI 0) :: .ref (B + k0) :: st) := by
  intro C hb hz H locs ls hP hS hl
  have e0 : (zI 0).toNatClampNeg = 0 := by rw [zI_nat (by omega)]; rfl
  have e1 : (zI z).toNatClampNeg = z.toNat := zI_nat (by omega)
  have n0' : ¬ zI 0 < 0 := by
    have := (zI_lt (a := 0) (b := 0) (by omega) (by omega)).mp
    intro h
    exact absurd (this h) (by omega)
  have nz : ¬ zI z < 0 := by
    intro h
    exact absurd ((zI_lt (a := z) (b := 0) (by omega) (by omega)).mp h) (by omega)
  refine va_copyl C.1 C.2.1 (by rw [C.2.2.1]; exact hl.1.symm) C.2.2.2.1 (C.2.2.2.2.1 _ hl1) (C.2.2.2.2.1 _ hl2) (C.2.2.2.2.1 _ hl3) (C.2.2.2.2.1 _ hl4) C.2.2.2.2.2.1 hP pw_DA hS k0 k1 2 2 (by rw [pw_get hk0, hg0]) (by rw [pw_get hk1, hg1]) rfl rfl rfl n0' n0' nz (by rw [e0, e1]; omega) (by rw [e0, e1]; omega) (fun i hi => rfl) hf (by show _ + (7 + 11) ≤ _; omega) hd ?_
  intro H1 locs1 hP1 _ hS1
  refine kk (va_up g k1 _) (va_up_self _ _ _) (fun q hq => va_up_ne _ _ hq) C hb hz H1 locs1 ls ?_ hS1 hl
  rw [aJ_cp (by omega), pw_set hk1] at hP1
  exact hP1
/-- a new cell lies at B + N -/
theorem new_at {q : Nat} {el : va_E} {H1 : Heap} {locs1 : List Loc} {T : State} (hb : B ≤ s.heap.size) (hz : s.heap.size + cells = B + N) (hP1 : va_P D vwCl (pw B N g ++ [(q, el)]) H1) (hD1 : va_D (yA B) (pw B N g ++ [(q, el)])) (hT : T.heap = H1) (X : Stand p l e R s m args below meth c T locs1 (cells + 1) slots) : q = B + N := by
  have h1 := X.heapSize
  rw [hT] at h1
  have hq : (pw B N g ++ [(q, el)])[N]? = some (q, el) := by
    rw [List.getElem?_append_right (by rw [pw_len]; exact Nat.le_refl _), pw_len, Nat.sub_self]
    rfl
  have h2 : q < H1.size := (hP1 N _ hq).lt
  have h3 : B ≤ q := hD1.2 N _ hq
  rcases Nat.lt_or_ge q (B + N) with h4 | h4
  · exfalso
    have hk : (pw B N g ++ [(q, el)])[q - B]? = some (B + (q - B), g (q - B)) := by
      rw [List.getElem?_append_left (by rw [pw_len]; omega), pw_get (by omega)]
    have h5 := hD1.1 (q - B) N _ _ hk hq (by show B + (q - B) = q; omega)
    omega
  · omega
end ALLOC
