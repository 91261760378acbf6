/-! ===== constructors: the words of the arrays of references ride beside the world ===== -/
def AOA (t : FieldType) (U : State) : Prop := (Cond.arrayOver (.array t)).before #[] U = true
theorem AOA.out {t : FieldType} {u : State} (h : AOA t u) : ∃ comp c k, u.vm.findClass (FieldType.array t).toString = some comp ∧ (u.vm.classes.findIdx? fun (x : Class) => match x.kind with | .array component _ => component == comp | _ => false) = some c ∧ u.vm.classes[c]? = some k ∧ k.kind = .array comp (.array t) ∧ u.vm.findClass ("[" ++ (FieldType.array t).toString) = some c := by
  unfold AOA at h
  simp only [Cond.before, Cond.holds, Cond.value, beq_iff_eq] at h
  cases hc : u.vm.findClass (FieldType.array t).toString with
  | none => simp [hc] at h
  | some comp =>
    simp only [hc, Option.bind_some, Option.bind_eq_some_iff, Option.map_eq_some_iff] at h
    obtain ⟨c, hi, k, hk, hb⟩ := h
    obtain ⟨hlt, hp, -⟩ := Array.findIdx?_eq_some_iff_getElem.mp hi
    have hkk : u.vm.classes[c] = k := (Array.getElem?_eq_some_iff.mp hk).2
    rw [hkk] at hp
    cases hkind : k.kind with
    | array component ty =>
      rw [hkind] at hb hp
      simp at hb hp
      exact ⟨comp, c, k, rfl, hi, hk, by rw [hkind, hp, hb.1], hb.2⟩
    | _ => rw [hkind] at hb; simp at hb
theorem AOA.moved {t : FieldType} {u U : State} (hvm : u.vm.Alike U.vm) (h : AOA t u) : AOA t U := by
  obtain ⟨comp, c, k, h1, h2, h3, h4, h5⟩ := h.out
  obtain ⟨k', hk', he⟩ := hvm.2.2 _ _ h3
  have hi : (U.vm.classes.findIdx? fun (x : Class) => match x.kind with | .array component _ => component == comp | _ => false) = some c := by
    have e1 := va_idx_bare U.vm comp
    have e2 := va_idx_bare u.vm comp
    rw [show U.vm.bare = u.vm.bare from by first | exact hvm.bare_eq | exact hvm.bare_eq.symm] at e1
    exact e1.symm.trans (e2.trans h2)
  have hkind : k'.kind = .array comp (.array t) := by rw [he]; exact h4
  have f1 : U.vm.findClass (FieldType.array t).toString = some comp := by rw [hvm.findClass]; exact h1
  have f2 : U.vm.findClass ("[" ++ (FieldType.array t).toString) = some c := by rw [hvm.findClass]; exact h5
  unfold AOA Cond.before Cond.holds
  simp only [Cond.value]
  rw [f1, Option.bind_some]
  refine (congrArg (fun o : Option Nat => (o.bind (fun c => (U.vm.classes[c]?).map fun (k : Class) => match k.kind with | .array _ ty => decide (ty = FieldType.array t) && decide (U.vm.findClass ("[" ++ (FieldType.array t).toString) = some c) | _ => false) == some true)) hi).trans ?_
  simp [hk', hkind, f2]
/-- the four words that the constructors ask for -/
def AOs (U : State) : Prop := va_AO "MarginTables$Columns" U ∧ va_AO "MarginTables$Stratum" U ∧ AOA .int U ∧ AOA .long U
theorem AOs.moved {u U : State} (hvm : u.vm.Alike U.vm) (h : AOs u) : AOs U := ⟨h.1.moved hvm, h.2.1.moved hvm, h.2.2.1.moved hvm, h.2.2.2.moved hvm⟩
def Wd2 (D : va_G) (cy : Nat → ClassId) (B N : Nat) (g : Nat → va_E) (U : State) : Prop := Wd D cy B N g U ∧ AOs U
theorem Wd2_blind {D : va_G} {cy : Nat → ClassId} {B N : Nat} {g : Nat → va_E} {av : List Value} : FrameBlind (va_Pc av (Wd2 D cy B N g)) := fun a U _ _ q => ⟨q.1, ⟨q.2.1.1, q.2.1.2.1, va_K.moved (u := U) (Vm.Alike.refl U.vm) q.2.1.2.2⟩, AOs.moved (u := U) (Vm.Alike.refl U.vm) q.2.2⟩
def CTc2 (l : Launch) (y : MethodName) (ws : List Cond) (rm : Room) (D : va_G) (cy : Nat → ClassId) (B N : Nat) (g : Nat → va_E) (av : List Value) (mc ms : Nat) (Hp : (Nat → va_E) → Prop) : Prop := Met l y ws rm (va_Pc av (Wd2 D cy B N g)) (va_Qv (fun g' => Hp g') (Wd D cy B (N + mc)) (yA B)) mc ms (yA B)
section CT2
variable {p : Program} {l : Launch} {e : Env} {R : Room} {s : State} {m : MethodId} {args : Array Value} {below : List Frame} {meth : Method} {c : Code} {Q : State → Prop} {cc : ByteArray} {nL : Nat} {ret : Option FieldType} {own : String} {Ts : List Cond} {D : va_G} {cy : Nat → ClassId} {B N cells slots : Nat} {g : Nat → va_E} {pc : Nat} {lv : List (Nat × Value)} {st : List Value}
theorem WW_of2 {y : MethodName} {ws ws' : List Cond} {rm : Room} {maxL mc ms : Nat} {av : List Value} {lvs : List (Nat × Value)} {Qc : Array Value → State → Outcome → State → Prop} (hy : plainName y.cls = true) (hw : ws = Cond.code y cc maxL ret :: ws') (hown : y.cls = own) (hlen : (lg_sl av).length ≤ maxL) (hlv : lv_args 0 av = lvs)
    (body : ∀ (p : Program) (e : Env) (s : State) (m : MethodId) (below : List Frame) (meth : Method) (c : Code), meth.name = y.name → AOs s → WW p l e rm s m av.toArray below meth c (MQ below Qc av.toArray s mc ms (yA B)) cc maxL ret own ws D cy B N 0 0 g 0 lvs []) : Met l y ws rm (va_Pc av (Wd2 D cy B N g)) Qc mc ms (yA B) := by
  refine Met.ofW (cc := cc) (maxL := maxL) (ret := ret) hy hw ?_
  intro p e s m args below meth c s₁ Bd hml hv
  obtain ⟨rfl, ⟨⟨hb, hz⟩, hP, hK⟩, hao⟩ := hv
  have hl := lv_entry av hlen
  rw [lg_entry_eq]
  rw [hlv] at hl
  exact body p e s m below meth c (name_of_methodNamed Bd.named Bd.method).1 hao ⟨Bd.exec, Bd.bytes, hml, hown ▸ findClass_of_methodNamed Bd.named, atoms_spec (ws := ws) Bd.pre, hK, Bd.returns, Bd.notSynchronized⟩ hb (by omega) s.heap [] _ hP va_S.rf hl
theorem w_ctor2 {y : MethodName} {ws ws' : List Cond} {rm : Room} {bytes : ByteArray} {maxL index n k mc ms : Nat} {As rest : List Value} {Hp : (Nat → va_E) → Prop} (hao : AOs s) (hM : CTc2 l y ws rm D cy B N g (.ref (B + k) :: As) mc ms Hp) (hG : GoodIn Ts ws) (hw : ws = Cond.code y bytes maxL none :: ws') (hrc : rm.cells = mc) (hrs : rm.slots = ms) (hini : Cond.initialized y.cls ∈ Ts) (hlk : Cond.methodLink own index y ∈ Ts) (hin : Cond.instanceMethod y ∈ Ts) (hy1 : y.name = "<init>") (hy : y.cls ≠ "java/lang/invoke/MethodHandle" ∧ y.cls ≠ "java/lang/invoke/VarHandle" ∧ (parseMethodDescriptor y.desc).map (fun d => d.parameters.length) = some n) (hR : rm.frames + 1 ≤ R.frames ∧ 8 + (maxL + 11) + rm.locals ≤ R.locals) (hn : As.length = n) (hroom : (rest.map fun v => v.category).sum ≤ 8) (hcs : cells + mc ≤ R.cells ∧ slots + ms ≤ R.slots) (hd : decode cc pc = .ok (.invokespecial index, 3)) (hst : st = As.reverse ++ .ref (B + k) :: rest) (kk : ∀ g' : Nat → va_E, Hp g' → WW p l e R s m args below meth c Q cc nL ret own Ts D cy B (N + mc) (cells + mc) (slots + ms) g' (pc + 3) lv rest) : WW p l e R s m args below meth c Q cc nL ret own Ts D cy B N cells slots g pc lv st := by
  intro C hb hz H locs ls hP hS hl T hT X
  have hsz := pw_size X hT hP hb hz hS.1
  have hCF : CallFix p m c cc nL s args Ts own := ⟨C.1, C.2.1, C.2.2.1, C.2.2.2.1, C.2.2.2.2.1⟩
  have hW0 : ∀ U : State, U.heap = H → s.WarmedH U.vm → Wd2 D cy B N g U := fun U hU hW => ⟨⟨⟨by rw [hU]; omega, by rw [hU]; exact hsz⟩, by rw [hU]; exact hP, va_K.moved hW.alike C.2.2.2.2.2.1⟩, hao.moved hW.alike⟩
  refine va_callv (va_runI hCF hM (cwI n C.2.2.2.2.1 hG hw hrc hrs (C.2.2.2.2.1 _ hini) (C.2.2.2.2.1 _ hlk) (C.2.2.2.2.1 _ hin) hy1 hy hR) ⟨Wd2_blind, fun U hU hW => ⟨rfl, hW0 U hU hW⟩⟩ rfl hn hl.1 hst (lv_room hroom) hd hcs) hS (fun q _ h => h) (fun q h => h) (fun u t H1 locs1 ht hvm hw hB hz1 hk1 hS1 => ?_) T hT X
  exact kk u hw C hb (by omega) H1 locs1 ls (by rw [← ht]; exact hB.2.1) hS1 hl
theorem w_mnaJ {index n k : Nat} {zn zk : Int} (hov : AOs s) (hzn : zn = (n : Int)) (hzk : zk = (k : Int)) (hn : n ≤ 100) (hk : k ≤ 10000) (hl1 : Cond.classLink own index "[[J" ∈ Ts) (hl2 : Cond.arrayClass .long ∈ Ts) (hc1 : cells + (1 + n) ≤ R.cells) (hs1 : slots + (n + n * k) ≤ R.slots) (hd : decode cc pc = .ok (.multianewarray index 2, 4))
    (kk : ∀ g' : Nat → va_E, g' N = cR (cy 6) B n (N + 1) 1 → (∀ j, j < n → g' (N + (j + 1)) = cJ (cy 2) k (fun _ => 0)) → (∀ q, q < N → g' q = g q) → WW p l e R s m args below meth c Q cc nL ret own Ts D cy B (N + 1 + n) (cells + 1 + n) (slots + n + n * k) g' (pc + 4) lv (.ref (B + N) :: st)) : WW p l e R s m args below meth c Q cc nL ret own Ts D cy B N cells slots g pc lv (.int (zI zk) :: .int (zI zn) :: st) := by
  intro C
  refine w_mna (ty := .long) (a0 := (k, .inr (.inl (aJ (fun _ => 0))))) 6 2 (C.2.2.2.2.2.1.2 6 _ rfl).2 (C.2.2.2.2.2.1.2 2 _ rfl).2 hov.2.2.2 rfl hzn hzk hn hk (by show k * 8 ≤ _; omega) rfl rfl hl1 hl2 hc1 hs1 hd (fun g' h1 h2 h3 => kk g' h1 (fun j hj => ?_) h3) C
  have h9 := h2 j hj
  rw [show N + 1 + j = N + (j + 1) by omega] at h9
  exact h9
theorem w_mnaI {index n k : Nat} {zn zk : Int} (hov : AOs s) (hzn : zn = (n : Int)) (hzk : zk = (k : Int)) (hn : n ≤ 100) (hk : k ≤ 10000) (hl1 : Cond.classLink own index "[[I" ∈ Ts) (hl2 : Cond.arrayClass .int ∈ Ts) (hc1 : cells + (1 + n) ≤ R.cells) (hs1 : slots + (n + n * k) ≤ R.slots) (hd : decode cc pc = .ok (.multianewarray index 2, 4))
    (kk : ∀ g' : Nat → va_E, g' N = cR (cy 5) B n (N + 1) 1 → (∀ j, j < n → g' (N + (j + 1)) = cI (cy 1) k (fun _ => 0)) → (∀ q, q < N → g' q = g q) → WW p l e R s m args below meth c Q cc nL ret own Ts D cy B (N + 1 + n) (cells + 1 + n) (slots + n + n * k) g' (pc + 4) lv (.ref (B + N) :: st)) : WW p l e R s m args below meth c Q cc nL ret own Ts D cy B N cells slots g pc lv (.int (zI zk) :: .int (zI zn) :: st) := by
  intro C
  refine w_mna (ty := .int) (a0 := (k, .inl (aI (fun _ => 0)))) 5 1 (C.2.2.2.2.2.1.2 5 _ rfl).2 (C.2.2.2.2.2.1.2 1 _ rfl).2 hov.2.2.1 rfl hzn hzk hn hk (by show k * 4 ≤ _; omega) rfl rfl hl1 hl2 hc1 hs1 hd (fun g' h1 h2 h3 => kk g' h1 (fun j hj => ?_) h3) C
  have h9 := h2 j hj
  rw [show N + 1 + j = N + (j + 1) by omega] at h9
  exact h9
end CT2
