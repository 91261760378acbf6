/-! ===== the frame: ints and longs by whole numbers; the pool of cells B, B+1, ..; one judgement over (pool, pc, locals, stack) ===== -/
def zI (z : Int) : Int32 := Int32.ofInt z
def zJ (z : Int) : Int64 := Int64.ofInt z
theorem zI_toInt {z : Int} (h : -2147483648 ≤ z ∧ z < 2147483648) : (zI z).toInt = z := by
  unfold zI
  exact Int32.toInt_ofInt_of_le (by omega) (by omega)
theorem zJ_toInt {z : Int} (h : -9223372036854775808 ≤ z ∧ z < 9223372036854775808) : (zJ z).toInt = z := by
  unfold zJ
  exact Int64.toInt_ofInt_of_le (by omega) (by omega)
theorem zI_add (a b : Int) : zI a + zI b = zI (a + b) := (Int32.ofInt_add a b).symm
theorem zI_sub (a b : Int) : zI a - zI b = zI (a - b) := (Int32.ofInt_sub a b).symm
theorem zI_mul (a b : Int) : zI a * zI b = zI (a * b) := (Int32.ofInt_mul a b).symm
theorem zJ_add (a b : Int) : zJ a + zJ b = zJ (a + b) := (Int64.ofInt_add a b).symm
theorem zJ_sub (a b : Int) : zJ a - zJ b = zJ (a - b) := (Int64.ofInt_sub a b).symm
theorem zJ_mul (a b : Int) : zJ a * zJ b = zJ (a * b) := (Int64.ofInt_mul a b).symm
theorem zI_lt {a b : Int} (ha : -2147483648 ≤ a ∧ a < 2147483648) (hb : -2147483648 ≤ b ∧ b < 2147483648) : zI a < zI b ↔ a < b := by
  rw [Int32.lt_iff_toInt_lt, zI_toInt ha, zI_toInt hb]
theorem zI_le {a b : Int} (ha : -2147483648 ≤ a ∧ a < 2147483648) (hb : -2147483648 ≤ b ∧ b < 2147483648) : zI a ≤ zI b ↔ a ≤ b := by
  rw [Int32.le_iff_toInt_le, zI_toInt ha, zI_toInt hb]
theorem zI_eq {a b : Int} (ha : -2147483648 ≤ a ∧ a < 2147483648) (hb : -2147483648 ≤ b ∧ b < 2147483648) : zI a = zI b ↔ a = b := by
  rw [← Int32.toInt_inj, zI_toInt ha, zI_toInt hb]
theorem zJ_lt {a b : Int} (ha : -9223372036854775808 ≤ a ∧ a < 9223372036854775808) (hb : -9223372036854775808 ≤ b ∧ b < 9223372036854775808) : zJ a < zJ b ↔ a < b := by
  rw [Int64.lt_iff_toInt_lt, zJ_toInt ha, zJ_toInt hb]
theorem zJ_eq {a b : Int} (ha : -9223372036854775808 ≤ a ∧ a < 9223372036854775808) (hb : -9223372036854775808 ≤ b ∧ b < 9223372036854775808) : zJ a = zJ b ↔ a = b := by
  rw [← Int64.toInt_inj, zJ_toInt ha, zJ_toInt hb]
theorem zI_of (x : Int32) : zI x.toInt = x := Int32.ofInt_toInt x
theorem zJ_of (x : Int64) : zJ x.toInt = x := Int64.ofInt_toInt x
theorem zI_rg (x : Int32) : -2147483648 ≤ x.toInt ∧ x.toInt < 2147483648 := ⟨Int32.le_toInt x, Int32.toInt_lt x⟩
theorem zI_nat {z : Int} (h : 0 ≤ z ∧ z < 2147483648) : (zI z).toNatClampNeg = z.toNat := by
  show (zI z).toInt.toNat = z.toNat
  rw [zI_toInt (by omega)]
theorem zI_in {z : Int} {n : Nat} (h : 0 ≤ z ∧ z < n ∧ z < 2147483648) : vp_in (zI z) n := vp_in_iff.mpr (by rw [zI_toInt (by omega)]; omega)
theorem zJ_i {z : Int} (h : -2147483648 ≤ z ∧ z < 2147483648) : (zJ z).toInt32 = zI z := by
  rw [← Int32.toInt_inj, Int64.toInt_toInt32, zJ_toInt (by omega), zI_toInt h]
  have := zI_toInt h
  unfold zI at this
  rw [Int32.toInt_ofInt] at this
  exact this
theorem zI_j {z : Int} (h : -2147483648 ≤ z ∧ z < 2147483648) : (zI z).toInt64 = zJ z := by
  rw [← Int64.toInt_inj, Int32.toInt_toInt64, zJ_toInt (by omega), zI_toInt h]
/-- contents of an int row, of a long row -/
def aI (T : Int → Int) : Nat → Int32 := fun k => zI (T (k : Int))
def aJ (T : Int → Int) : Nat → Int64 := fun k => zJ (T (k : Int))
def uZ (T : Int → Int) (z v : Int) : Int → Int := fun i => if i = z then v else T i
theorem uZ_same (T : Int → Int) (z v : Int) : uZ T z v z = v := if_pos rfl
theorem uZ_ne {T : Int → Int} {z v i : Int} (h : i ≠ z) : uZ T z v i = T i := if_neg h
theorem aI_at {T : Int → Int} {z : Int} (h : 0 ≤ z ∧ z < 2147483648) : aI T (zI z).toNatClampNeg = zI (T z) := by
  rw [zI_nat h]
  show zI (T (z.toNat : Int)) = _
  rw [Int.toNat_of_nonneg h.1]
theorem aJ_at {T : Int → Int} {z : Int} (h : 0 ≤ z ∧ z < 2147483648) : aJ T (zI z).toNatClampNeg = zJ (T z) := by
  rw [zI_nat h]
  show zJ (T (z.toNat : Int)) = _
  rw [Int.toNat_of_nonneg h.1]
theorem aI_up {T : Int → Int} {z v : Int} (h : 0 ≤ z ∧ z < 2147483648) : upd (aI T) (zI z).toNatClampNeg (zI v) = aI (uZ T z v) := by
  funext k
  rw [zI_nat h]
  unfold upd aI uZ
  by_cases hk : k = z.toNat
  · rw [if_pos hk, if_pos (by omega)]
  · rw [if_neg hk, if_neg (by omega)]
theorem aJ_up {T : Int → Int} {z v : Int} (h : 0 ≤ z ∧ z < 2147483648) : vp_updL (aJ T) (zI z).toNatClampNeg (zJ v) = aJ (uZ T z v) := by
  funext k
  rw [zI_nat h]
  unfold vp_updL aJ uZ
  by_cases hk : k = z.toNat
  · rw [if_pos hk, if_pos (by omega)]
  · rw [if_neg hk, if_neg (by omega)]
/-- an array of references to cells b, b+w, b+2w .. of the pool -/
def aR (B n b w : Nat) : Nat → Option Nat := fun k => if k < n then some (B + (b + w * k)) else none
abbrev cI (t : ClassId) (n : Nat) (T : Int → Int) : va_E := .inl (t, n, .inl (aI T))
abbrev cJ (t : ClassId) (n : Nat) (T : Int → Int) : va_E := .inl (t, n, .inr (.inl (aJ T)))
abbrev cR (t : ClassId) (B n b w : Nat) : va_E := .inl (t, n, .inr (.inr (.inr (.inr (aR B n b w)))))
/-- the pool -/
def pw (B N : Nat) (g : Nat → va_E) : va_W := (List.range N).map (fun k => (B + k, g k))
theorem pw_get {B N k : Nat} {g : Nat → va_E} (h : k < N) : (pw B N g)[k]? = some (B + k, g k) := by
  unfold pw
  rw [List.getElem?_map, List.getElem?_range h]
  rfl
theorem pw_in {B N k : Nat} {g : Nat → va_E} {q : Nat × va_E} (h : (pw B N g)[k]? = some q) : k < N ∧ q = (B + k, g k) := by
  have hl : k < N := by
    have := (List.getElem?_eq_some_iff.mp h).1
    simpa [pw] using this
  rw [pw_get hl] at h
  exact ⟨hl, (Option.some.inj h).symm⟩
theorem pw_ext {w : va_W} {B N : Nat} {g : Nat → va_E} (hl : w.length = N) (h : ∀ k, k < N → w[k]? = some (B + k, g k)) : w = pw B N g := by
  apply List.ext_getElem?
  intro k
  by_cases hk : k < N
  · rw [h k hk, pw_get hk]
  · rw [List.getElem?_eq_none (by omega), List.getElem?_eq_none (by simp [pw]; omega)]
theorem pw_len (B N : Nat) (g : Nat → va_E) : (pw B N g).length = N := by simp [pw]
theorem pw_congr {B N : Nat} {g g' : Nat → va_E} (h : ∀ k, k < N → g k = g' k) : pw B N g = pw B N g' :=
  pw_ext (pw_len B N g) (fun k hk => by rw [pw_get hk, h k hk])
theorem pw_set {B N k : Nat} {g : Nat → va_E} {e : va_E} (h : k < N) : (pw B N g).set k (B + k, e) = pw B N (va_up g k e) := by
  refine pw_ext (by rw [List.length_set, pw_len]) (fun j hj => ?_)
  by_cases hjk : j = k
  · subst hjk
    rw [List.getElem?_set_self (by rw [pw_len]; exact hj), va_up_self]
  · rw [List.getElem?_set_ne (Ne.symm hjk), pw_get hj, va_up_ne _ _ hjk]
theorem pw_push {B N : Nat} {g : Nat → va_E} {e : va_E} : pw B N g ++ [(B + N, e)] = pw B (N + 1) (va_up g N e) := by
  refine pw_ext (by rw [List.length_append, pw_len]; rfl) (fun j hj => ?_)
  by_cases hjk : j = N
  · subst hjk
    rw [List.getElem?_append_right (by rw [pw_len]; exact Nat.le_refl _), pw_len, Nat.sub_self, va_up_self]
    rfl
  · rw [List.getElem?_append_left (by rw [pw_len]; omega), pw_get (by omega), va_up_ne _ _ hjk]
theorem pw_D {A : Nat → Prop} {B N : Nat} {g : Nat → va_E} (hA : ∀ q, B ≤ q → A q) : va_D A (pw B N g) := by
  refine ⟨fun i j x y hi hj hxy => ?_, fun k q hq => ?_⟩
  · obtain ⟨-, rfl⟩ := pw_in hi
    obtain ⟨-, rfl⟩ := pw_in hj
    have h9 : B + i = B + j := hxy
    omega
  · obtain ⟨-, rfl⟩ := pw_in hq
    exact hA _ (Nat.le_add_right _ _)
def yA (B : Nat) : Nat → Prop := fun q => B ≤ q
theorem pw_DA {B N : Nat} {g : Nat → va_E} : va_D (yA B) (pw B N g) := pw_D (fun _ h => h)
/-- the classes of the arrays -/
def tys (cy : Nat → ClassId) : List (ClassId × FieldType) := [(cy 0, .char), (cy 1, .int), (cy 2, .long), (cy 3, .object "MarginTables$Columns"), (cy 4, .object "MarginTables$Stratum"), (cy 5, .array .int), (cy 6, .array .long)]
/-- the world of a state -/
def Wd (D : va_G) (cy : Nat → ClassId) (B N : Nat) (g : Nat → va_E) (U : State) : Prop := (B ≤ U.heap.size ∧ U.heap.size = B + N) ∧ va_P D vwCl (pw B N g) U.heap ∧ va_K D vwCl (tys cy) U
theorem Wd_blind {D : va_G} {cy : Nat → ClassId} {B N : Nat} {g : Nat → va_E} {av : List Value} : FrameBlind (va_Pc av (Wd D cy B N g)) := fun a U _ _ q => ⟨q.1, q.2.1, q.2.2.1, va_K.moved (u := U) (Vm.Alike.refl U.vm) q.2.2.2⟩
/-- what stands fast in a method -/
def Cx (p : Program) (s : State) (m : MethodId) (args : Array Value) (meth : Method) (c : Code) (cc : ByteArray) (nL : Nat) (ret : Option FieldType) (own : String) (Ts : List Cond) (D : va_G) (cy : Nat → ClassId) : Prop :=
  p.tables.exec = Jvm.exec ∧ c.code = cc ∧ c.maxLocals = nL ∧ s.vm.findClass own = some m.cls ∧ (∀ w ∈ Ts, w.before args s = true) ∧ va_K D vwCl (tys cy) s ∧ meth.sig.returnType = ret ∧ meth.locks = false
def WW (p : Program) (l : Launch) (e : Env) (R : Room) (s : State) (m : MethodId) (args : Array Value) (below : List Frame) (meth : Method) (c : Code) (Q : State → Prop) (cc : ByteArray) (nL : Nat) (ret : Option FieldType) (own : String) (Ts : List Cond) (D : va_G) (cy : Nat → ClassId) (B : Nat) (N cells slots : Nat) (g : Nat → va_E) (pc : Nat) (lv : List (Nat × Value)) (st : List Value) : Prop :=
  Cx p s m args meth c cc nL ret own Ts D cy → B ≤ s.heap.size → s.heap.size + cells = B + N → ∀ (H : Heap) (locs : List Loc) (ls : Array Slot), va_P D vwCl (pw B N g) H → va_S (yA B) s.heap H locs → lv_has ls nL lv → W p l e R s m args below meth c H locs cells slots Q (F0 m pc ls st)
theorem pw_size {p : Program} {l : Launch} {e : Env} {R : Room} {s : State} {m : MethodId} {args : Array Value} {below : List Frame} {meth : Method} {c : Code} {T : State} {locs : List Loc} {cells slots : Nat} (X : Stand p l e R s m args below meth c T locs cells slots) {H : Heap} (hT : T.heap = H) {D : va_G} {B N : Nat} {g : Nat → va_E} (hP : va_P D vwCl (pw B N g) H) (hB : B ≤ s.heap.size) (hz : s.heap.size + cells = B + N) (hS : s.heap.size ≤ H.size) : H.size = B + N := by
  have h1 := X.heapSize
  rw [hT] at h1
  rcases Nat.eq_zero_or_pos N with h0 | h0
  · omega
  · have h2 := (hP (N - 1) _ (pw_get (by omega))).lt
    have h3 : B + (N - 1) < H.size := h2
    omega
theorem zJ_ofNat (n : Nat) : zJ (n : Int) = lN n := by
  unfold zJ lN
  exact Int64.ofInt_eq_ofNat
theorem zI_ofNat (n : Nat) : zI (n : Int) = nI n := by
  unfold zI nI
  exact Int32.ofInt_eq_ofNat
theorem zJ_div {a b : Int} (ha : 0 ≤ a ∧ a < 9223372036854775808) (hb : 0 < b ∧ b < 9223372036854775808) : zJ a / zJ b = zJ (a / b) := by
  obtain ⟨x, rfl⟩ := Int.eq_ofNat_of_zero_le ha.1
  obtain ⟨y, rfl⟩ := Int.eq_ofNat_of_zero_le (Int.le_of_lt hb.1)
  rw [zJ_ofNat, zJ_ofNat, pk_lDiv (by omega) (by omega) (by omega), ← zJ_ofNat]
  rfl
