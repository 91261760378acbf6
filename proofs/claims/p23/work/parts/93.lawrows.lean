/-! ===== the law's own rows: bits, quotients, the script, contracts that read it or make cells ===== -/
def xz (xs : Nat → Int32) (z : Int) : Int := (xs z.toNat).toInt
theorem xz_rg {xs : Nat → Int32} (z : Int) : -2147483648 ≤ xz xs z ∧ xz xs z < 2147483648 := zI_rg _
def anZ (a b : Int) : Int := (zI a &&& zI b).toInt
def xoZ (a b : Int) : Int := (zI a ^^^ zI b).toInt
def shZ (a b : Int) : Int := (zI a >>> (zI b &&& 31)).toInt
theorem anZ_rg (a : Int) : 0 ≤ anZ a 2147483647 ∧ anZ a 2147483647 < 2147483648 := by
  refine ⟨?_, (zI_rg _).2⟩
  have h1 : (zI a &&& zI 2147483647).toBitVec.msb = false := by
    have h2 : (zI 2147483647).toBitVec.msb = false := by decide
    rw [Int32.toBitVec_and, BitVec.msb_and, h2, Bool.and_false]
  have h3 : anZ a 2147483647 = ((zI a &&& zI 2147483647).toBitVec.toNat : Int) := by
    unfold anZ
    rw [← Int32.toInt_toBitVec]
    exact BitVec.toInt_eq_toNat_of_msb h1
  rw [h3]
  exact Int.natCast_nonneg _
theorem zI_div {a b : Int} (ha : 0 ≤ a ∧ a < 2147483648) (hb : 0 < b ∧ b < 2147483648) : zI a / zI b = zI (a / b) := by
  have h := Int32.ofInt_tdiv (a := a) (b := b) (by show -2147483648 ≤ a; omega) (by show a ≤ 2147483647; omega) (by show -2147483648 ≤ b; omega) (by show b ≤ 2147483647; omega)
  unfold zI
  rw [← h, Int.tdiv_eq_ediv_of_nonneg ha.1]
def SX (B b L : Nat) (xs : Nat → Int32) (U : State) : Prop := va_X b L xs U U.heap ∧ b < U.heap.size ∧ ¬ yA B b
theorem SX.at {B b L : Nat} {xs : Nat → Int32} {s U : State} {H : Heap} {locs : List Loc} (h : SX B b L xs s) (hS : va_S (yA B) s.heap H locs) (hU : U.heap = H) (hW : s.WarmedH U.vm) : SX B b L xs U := ⟨by rw [hU]; exact (h.1.kept (hS.2.1 b h.2.1 h.2.2)).moved hW.alike, by rw [hU]; exact Nat.lt_of_lt_of_le h.2.1 hS.1, h.2.2⟩
def WdX (D : va_G) (cy : Nat → ClassId) (B N : Nat) (g : Nat → va_E) (b L : Nat) (xs : Nat → Int32) (U : State) : Prop := Wd D cy B N g U ∧ SX B b L xs U
theorem WdX_blind {D : va_G} {cy : Nat → ClassId} {B N b L : Nat} {xs : Nat → Int32} {g : Nat → va_E} {av : List Value} : FrameBlind (va_Pc av (WdX D cy B N g b L xs)) := fun a U _ _ q => ⟨q.1, ⟨q.2.1.1, q.2.1.2.1, va_K.moved (u := U) (Vm.Alike.refl U.vm) q.2.1.2.2⟩, va_X.moved (u := U) (Vm.Alike.refl U.vm) q.2.2.1, q.2.2.2⟩
def CTiX (l : Launch) (y : MethodName) (ws : List Cond) (rm : Room) (D : va_G) (cy : Nat → ClassId) (B N : Nat) (g : Nat → va_E) (b L : Nat) (xs : Nat → Int32) (av : List Value) (E : Int) (mc ms : Nat) (Hp : (Nat → va_E) → Prop) : Prop := Met l y ws rm (va_Pc av (WdX D cy B N g b L xs)) (va_Qi (fun r g' => r = zI E ∧ Hp g') (Wd D cy B (N + mc)) (yA B)) mc ms (yA B)
def CTvX (l : Launch) (y : MethodName) (ws : List Cond) (rm : Room) (D : va_G) (cy : Nat → ClassId) (B N : Nat) (g : Nat → va_E) (b L : Nat) (xs : Nat → Int32) (av : List Value) (mc ms : Nat) (Hp : (Nat → va_E) → Prop) : Prop := Met l y ws rm (va_Pc av (WdX D cy B N g b L xs)) (va_Qv (fun g' => Hp g') (Wd D cy B (N + mc)) (yA B)) mc ms (yA B)
section LAWX
variable {p : Program} {l : Launch} {e : Env} {R : Room} {s : State} {m : MethodId} {args : Array Value} {below : List Frame} {meth : Method} {c : Code} {Q : State → Prop} {cc : ByteArray} {nL : Nat} {ret : Option FieldType} {own : String} {Ts : List Cond} {D : va_G} {cy : Nat → ClassId} {B N cells slots : Nat} {g : Nat → va_E} {pc : Nat} {lv : List (Nat × Value)} {st : List Value} {b L : Nat} {xs : Nat → Int32}
theorem WW_ofX {y : MethodName} {ws ws' : List Cond} {rm : Room} {maxL mc ms : Nat} {av : List Value} {lvs : List (Nat × Value)} {Qc : Array Value → State → Outcome → State → Prop} (hy : plainName y.cls = true) (hw : ws = Cond.code y cc maxL ret :: ws') (hown : y.cls = own) (hlen : (lg_sl av).length ≤ maxL) (hlv : lv_args 0 av = lvs)
    (body : ∀ (p : Program) (e : Env) (s : State) (m : MethodId) (below : List Frame) (meth : Method) (c : Code), meth.name = y.name → SX B b L xs s → WW p l e rm s m av.toArray below meth c (MQ below Qc av.toArray s mc ms (yA B)) cc maxL ret own ws D cy B N 0 0 g 0 lvs []) : Met l y ws rm (va_Pc av (WdX D cy B N g b L xs)) Qc mc ms (yA B) := by
  refine Met.ofW (cc := cc) (maxL := maxL) (ret := ret) hy hw ?_
  intro p e s m args below meth c s₁ Bd hml hv
  obtain ⟨rfl, ⟨⟨hb, hz⟩, hP, hK⟩, hsx⟩ := hv
  have hl := lv_entry av hlen
  rw [lg_entry_eq]
  rw [hlv] at hl
  exact body p e s m below meth c (name_of_methodNamed Bd.named Bd.method).1 hsx ⟨Bd.exec, Bd.bytes, hml, hown ▸ findClass_of_methodNamed Bd.named, atoms_spec (ws := ws) Bd.pre, hK, Bd.returns, Bd.notSynchronized⟩ hb (by omega) s.heap [] _ hP va_S.rf hl
theorem w_calliX {y : MethodName} {ws ws' : List Cond} {rm : Room} {bytes : ByteArray} {maxL index n mc ms : Nat} {rt : Option FieldType} {As rest : List Value} {Hp : (Nat → va_E) → Prop} {E : Int} (hsx : SX B b L xs s) (hM : CTiX l y ws rm D cy B N g b L xs As E mc ms Hp) (hG : GoodIn Ts (va_wsS own index y ws)) (hw : ws = Cond.code y bytes maxL rt :: ws') (hrc : rm.cells = mc) (hrs : rm.slots = ms) (hy : y.cls ≠ "java/lang/invoke/MethodHandle" ∧ y.cls ≠ "java/lang/invoke/VarHandle" ∧ (parseMethodDescriptor y.desc).map (fun d => d.parameters.length) = some n) (hR : rm.frames + 1 ≤ R.frames ∧ 8 + (maxL + 11) + rm.locals ≤ R.locals) (hn : As.length = n) (hroom : (rest.map fun v => v.category).sum ≤ 8) (hcs : cells + mc ≤ R.cells ∧ slots + ms ≤ R.slots) (hd : decode cc pc = .ok (.invokestatic index, 3)) (hst : st = As.reverse ++ rest) (kk : ∀ g' : Nat → va_E, Hp g' → WW p l e R s m args below meth c Q cc nL ret own Ts D cy B (N + mc) (cells + mc) (slots + ms) g' (pc + 3) lv (.int (zI E) :: rest)) : WW p l e R s m args below meth c Q cc nL ret own Ts D cy B N cells slots g pc lv st := by
  intro C hb hz H locs ls hP hS hl T hT X
  have hsz := pw_size X hT hP hb hz hS.1
  have hCF : CallFix p m c cc nL s args Ts own := ⟨C.1, C.2.1, C.2.2.1, C.2.2.2.1, C.2.2.2.2.1⟩
  have hW0 : ∀ U : State, U.heap = H → s.WarmedH U.vm → WdX D cy B N g b L xs U := fun U hU hW => ⟨⟨⟨by rw [hU]; omega, by rw [hU]; exact hsz⟩, by rw [hU]; exact hP, va_K.moved hW.alike C.2.2.2.2.2.1⟩, hsx.at hS hU hW⟩
  refine va_calli (va_runS hCF hM (va_cwS n C.2.2.2.2.1 hG hw hrc hrs hy hR) ⟨WdX_blind, fun U hU hW => ⟨rfl, hW0 U hU hW⟩⟩ rfl hn hl.1 hst (lv_room hroom) hd hcs) hS (fun q _ h => h) (fun q h => h) (fun r u t H1 locs1 ht hvm hw hB hz1 hk1 hS1 => ?_) T hT X
  obtain ⟨rfl, hw9⟩ := hw
  exact kk u hw9 C hb (by omega) H1 locs1 ls (by rw [← ht]; exact hB.2.1) hS1 hl
theorem w_callvX {y : MethodName} {ws ws' : List Cond} {rm : Room} {bytes : ByteArray} {maxL index n mc ms : Nat} {rt : Option FieldType} {As rest : List Value} {Hp : (Nat → va_E) → Prop} (hsx : SX B b L xs s) (hM : CTvX l y ws rm D cy B N g b L xs As mc ms Hp) (hG : GoodIn Ts (va_wsS own index y ws)) (hw : ws = Cond.code y bytes maxL rt :: ws') (hrc : rm.cells = mc) (hrs : rm.slots = ms) (hy : y.cls ≠ "java/lang/invoke/MethodHandle" ∧ y.cls ≠ "java/lang/invoke/VarHandle" ∧ (parseMethodDescriptor y.desc).map (fun d => d.parameters.length) = some n) (hR : rm.frames + 1 ≤ R.frames ∧ 8 + (maxL + 11) + rm.locals ≤ R.locals) (hn : As.length = n) (hroom : (rest.map fun v => v.category).sum ≤ 8) (hcs : cells + mc ≤ R.cells ∧ slots + ms ≤ R.slots) (hd : decode cc pc = .ok (.invokestatic index, 3)) (hst : st = As.reverse ++ rest) (kk : ∀ g' : Nat → va_E, Hp g' → WW p l e R s m args below meth c Q cc nL ret own Ts D cy B (N + mc) (cells + mc) (slots + ms) g' (pc + 3) lv rest) : WW p l e R s m args below meth c Q cc nL ret own Ts D cy B N cells slots g pc lv st := by
  intro C hb hz H locs ls hP hS hl T hT X
  have hsz := pw_size X hT hP hb hz hS.1
  have hCF : CallFix p m c cc nL s args Ts own := ⟨C.1, C.2.1, C.2.2.1, C.2.2.2.1, C.2.2.2.2.1⟩
  have hW0 : ∀ U : State, U.heap = H → s.WarmedH U.vm → WdX D cy B N g b L xs U := fun U hU hW => ⟨⟨⟨by rw [hU]; omega, by rw [hU]; exact hsz⟩, by rw [hU]; exact hP, va_K.moved hW.alike C.2.2.2.2.2.1⟩, hsx.at hS hU hW⟩
  refine va_callv (va_runS hCF hM (va_cwS n C.2.2.2.2.1 hG hw hrc hrs hy hR) ⟨WdX_blind, fun U hU hW => ⟨rfl, hW0 U hU hW⟩⟩ rfl hn hl.1 hst (lv_room hroom) hd hcs) hS (fun q _ h => h) (fun q h => h) (fun u t H1 locs1 ht hvm hw hB hz1 hk1 hS1 => ?_) T hT X
  exact kk u hw C hb (by omega) H1 locs1 ls (by rw [← ht]; exact hB.2.1) hS1 hl
theorem w_slen (hsx : SX B b L xs s) (hd : decode cc pc = .ok (.arraylength, 1)) (kk : WW p l e R s m args below meth c Q cc nL ret own Ts D cy B N cells slots g (pc + 1) lv (.int (zI ((L : Nat) : Int)) :: st)) : WW p l e R s m args below meth c Q cc nL ret own Ts D cy B N cells slots g pc lv (.ref b :: st) := fun C hb hz H locs ls hP hS hl => va_slen C.1 C.2.1 hsx.1 hsx.2.1 hsx.2.2 hS hd (by rw [show Int32.ofNat L = zI ((L : Nat) : Int) from (zI_ofNat L).symm]; exact kk C hb hz H locs ls hP hS hl)
theorem w_sld {z : Int} (hsx : SX B b L xs s) (hz0 : 0 ≤ z ∧ z < L ∧ z < 2147483648) (hd : decode cc pc = .ok (.iaload, 1)) (kk : WW p l e R s m args below meth c Q cc nL ret own Ts D cy B N cells slots g (pc + 1) lv (.int (zI (xz xs z)) :: st)) : WW p l e R s m args below meth c Q cc nL ret own Ts D cy B N cells slots g pc lv (.int (zI z) :: .ref b :: st) := fun C hb hz H locs ls hP hS hl => va_sld C.1 C.2.1 hsx.1 hsx.2.1 hsx.2.2 hS (zI_in hz0) hd (by rw [show xs (zI z).toNatClampNeg = zI (xz xs z) from by unfold xz; rw [zI_of, zI_nat (by omega)]]; exact kk C hb hz H locs ls hP hS hl)
theorem w_iand {x y : Int} (hd : decode cc pc = .ok (.iand, 1)) (kk : WW p l e R s m args below meth c Q cc nL ret own Ts D cy B N cells slots g (pc + 1) lv (.int (zI (anZ x y)) :: st)) : WW p l e R s m args below meth c Q cc nL ret own Ts D cy B N cells slots g pc lv (.int (zI y) :: .int (zI x) :: st) := fun C hb hz H locs ls hP hS hl => lv_iand C.1 C.2.1 hd (by rw [← zI_of (zI x &&& zI y)]; exact kk C hb hz H locs ls hP hS hl)
theorem w_ixor {x y : Int} (hd : decode cc pc = .ok (.ixor, 1)) (kk : WW p l e R s m args below meth c Q cc nL ret own Ts D cy B N cells slots g (pc + 1) lv (.int (zI (xoZ x y)) :: st)) : WW p l e R s m args below meth c Q cc nL ret own Ts D cy B N cells slots g pc lv (.int (zI y) :: .int (zI x) :: st) := fun C hb hz H locs ls hP hS hl => lv_ixor C.1 C.2.1 hd (by rw [← zI_of (zI x ^^^ zI y)]; exact kk C hb hz H locs ls hP hS hl)
theorem w_ishr {x y : Int} (hd : decode cc pc = .ok (.ishr, 1)) (kk : WW p l e R s m args below meth c Q cc nL ret own Ts D cy B N cells slots g (pc + 1) lv (.int (zI (shZ x y)) :: st)) : WW p l e R s m args below meth c Q cc nL ret own Ts D cy B N cells slots g pc lv (.int (zI y) :: .int (zI x) :: st) := fun C hb hz H locs ls hP hS hl => lv_ishr C.1 C.2.1 hd (by rw [← zI_of (zI x >>> (zI y &&& 31))]; exact kk C hb hz H locs ls hP hS hl)
theorem w_idiv {x y : Int} (hd : decode cc pc = .ok (.idiv, 1)) (hx : 0 ≤ x ∧ x < 2147483648) (hy : 0 < y ∧ y < 2147483648) (kk : WW p l e R s m args below meth c Q cc nL ret own Ts D cy B N cells slots g (pc + 1) lv (.int (zI (x / y)) :: st)) : WW p l e R s m args below meth c Q cc nL ret own Ts D cy B N cells slots g pc lv (.int (zI y) :: .int (zI x) :: st) := fun C hb hz H locs ls hP hS hl => lv_idiv C.1 C.2.1 hd (fun q => by have h9 := (zI_eq (a := y) (b := 0) (by omega) (by omega)).mp q; omega) (by rw [zI_div hx hy]; exact kk C hb hz H locs ls hP hS hl)
theorem w_irem {x y : Int} (hd : decode cc pc = .ok (.irem, 1)) (hx : 0 ≤ x ∧ x < 2147483648) (hy : 0 < y ∧ y < 2147483648) (kk : WW p l e R s m args below meth c Q cc nL ret own Ts D cy B N cells slots g (pc + 1) lv (.int (zI (x % y)) :: st)) : WW p l e R s m args below meth c Q cc nL ret own Ts D cy B N cells slots g pc lv (.int (zI y) :: .int (zI x) :: st) := fun C hb hz H locs ls hP hS hl => lv_irem C.1 C.2.1 hd (fun q => by have h9 := (zI_eq (a := y) (b := 0) (by omega) (by omega)).mp q; omega) (by rw [zI_div hx hy, zI_mul, zI_sub, show x - x / y * y = x % y from by rw [Int.emod_def, Int.mul_comm]]; exact kk C hb hz H locs ls hP hS hl)
theorem w_ldcI {index : Nat} {v : Int32} {z : Int} (hcon : Cond.constant own index v ∈ Ts) (hv : v = zI z) (hd : decode cc pc = .ok (.ldc index, 2)) (kk : WW p l e R s m args below meth c Q cc nL ret own Ts D cy B N cells slots g (pc + 2) lv (.int (zI z) :: st)) : WW p l e R s m args below meth c Q cc nL ret own Ts D cy B N cells slots g pc lv st := fun C hb hz H locs ls hP hS hl => lv_ldc C.1 C.2.1 C.2.2.2.1 (C.2.2.2.2.1 _ hcon) hd (by rw [hv]; exact kk C hb hz H locs ls hP hS hl)
theorem w_icmp_eqS {x : Int32} {off : Int} (tgt : Nat) (hd : decode cc pc = .ok (.if_icmp .eq off, 3)) (ht : (pc : Int) + off = (tgt : Int)) (kt : WW p l e R s m args below meth c Q cc nL ret own Ts D cy B N cells slots g tgt lv st) : WW p l e R s m args below meth c Q cc nL ret own Ts D cy B N cells slots g pc lv (.int x :: .int x :: st) := fun C hb hz H locs ls hP hS hl => lv_icmp_eq C.1 C.2.1 hd ht (fun _ => kt C hb hz H locs ls hP hS hl) (fun q => absurd rfl q)
theorem w_icmp_neS {x : Int32} {off : Int} (tgt : Nat) (hd : decode cc pc = .ok (.if_icmp .ne off, 3)) (ht : (pc : Int) + off = (tgt : Int)) (kf : WW p l e R s m args below meth c Q cc nL ret own Ts D cy B N cells slots g (pc + 3) lv st) : WW p l e R s m args below meth c Q cc nL ret own Ts D cy B N cells slots g pc lv (.int x :: .int x :: st) := fun C hb hz H locs ls hP hS hl => lv_icmp_ne C.1 C.2.1 hd ht (fun q => absurd rfl q) (fun _ => kf C hb hz H locs ls hP hS hl)
theorem lg_cmpS (x : Int64) : lg_cmp x x = 0 := by
  unfold lg_cmp
  rw [if_neg (by intro h; exact absurd (Int64.lt_iff_toInt_lt.mp h) (by omega)), if_pos rfl]
theorem w_lcmp_eqS {x : Int64} {off : Int} (tgt : Nat) (hd : decode cc pc = .ok (.lcmp, 1)) (hd2 : decode cc (pc + 1) = .ok (.ifCond .eq off, 3)) (ht : ((pc + 1 : Nat) : Int) + off = (tgt : Int)) (kt : WW p l e R s m args below meth c Q cc nL ret own Ts D cy B N cells slots g tgt lv st) : WW p l e R s m args below meth c Q cc nL ret own Ts D cy B N cells slots g pc lv (.long x :: .long x :: st) := fun C hb hz H locs ls hP hS hl => W.lcmp C.1 C.2.1 hd (by
  rw [lg_cmpS]
  exact lv_if_eq C.1 C.2.1 hd2 ht (fun _ => kt C hb hz H locs ls hP hS hl) (fun q => absurd rfl q))
theorem w_lcmp_neS {x : Int64} {off : Int} (tgt : Nat) (hd : decode cc pc = .ok (.lcmp, 1)) (hd2 : decode cc (pc + 1) = .ok (.ifCond .ne off, 3)) (ht : ((pc + 1 : Nat) : Int) + off = (tgt : Int)) (kf : WW p l e R s m args below meth c Q cc nL ret own Ts D cy B N cells slots g (pc + 4) lv st) : WW p l e R s m args below meth c Q cc nL ret own Ts D cy B N cells slots g pc lv (.long x :: .long x :: st) := fun C hb hz H locs ls hP hS hl => W.lcmp C.1 C.2.1 hd (by
  rw [lg_cmpS]
  exact lv_if_ne C.1 C.2.1 hd2 ht (fun q => absurd rfl q) (fun _ => kf C hb hz H locs ls hP hS hl))
end LAWX
