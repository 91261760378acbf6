/-! ===== contracts, calls and ends over WW ===== -/
variable {p : Program} {l : Launch} {e : Env} {R : Room} {s : State} {m : MethodId} {args : Array Value} {below : List Frame} {meth : Method} {c : Code} {Q : State → Prop} {cc : ByteArray} {nL : Nat} {ret : Option FieldType} {own : String} {Ts : List Cond} {D : va_G} {cy : Nat → ClassId} {B N cells slots : Nat} {g : Nat → va_E} {pc : Nat} {lv : List (Nat × Value)} {st : List Value}

/-- contracts: what comes in, what comes out (an int, a long, nothing, a reference or null), what the pool is behind it -/
def CTi (l : Launch) (y : MethodName) (ws : List Cond) (rm : Room) (D : va_G) (cy : Nat → ClassId) (B N : Nat) (g : Nat → va_E) (av : List Value) (E : Int) (Hp : (Nat → va_E) → Prop) : Prop := Met l y ws rm (va_Pc av (Wd D cy B N g)) (va_Qi (fun r g' => r = zI E ∧ Hp g') (Wd D cy B N) (yA B)) 0 0 (yA B)
def CTl (l : Launch) (y : MethodName) (ws : List Cond) (rm : Room) (D : va_G) (cy : Nat → ClassId) (B N : Nat) (g : Nat → va_E) (av : List Value) (E : Int) (Hp : (Nat → va_E) → Prop) : Prop := Met l y ws rm (va_Pc av (Wd D cy B N g)) (va_Ql (fun r g' => r = zJ E ∧ Hp g') (Wd D cy B N) (yA B)) 0 0 (yA B)
def CTv (l : Launch) (y : MethodName) (ws : List Cond) (rm : Room) (D : va_G) (cy : Nat → ClassId) (B N : Nat) (g : Nat → va_E) (av : List Value) (Hp : (Nat → va_E) → Prop) : Prop := Met l y ws rm (va_Pc av (Wd D cy B N g)) (va_Qv (fun g' => Hp g') (Wd D cy B N) (yA B)) 0 0 (yA B)
def CTq (l : Launch) (y : MethodName) (ws : List Cond) (rm : Room) (D : va_G) (cy : Nat → ClassId) (B N : Nat) (g : Nat → va_E) (av : List Value) (E : Option Nat) (Hp : (Nat → va_E) → Prop) : Prop := Met l y ws rm (va_Pc av (Wd D cy B N g)) (va_Qq (fun r g' => r = E ∧ Hp g') (Wd D cy B N) (yA B)) 0 0 (yA B)
/-- a constructor, which makes mc cells of ms slots -/
def CTc (l : Launch) (y : MethodName) (ws : List Cond) (rm : Room) (D : va_G) (cy : Nat → ClassId) (B N : Nat) (g : Nat → va_E) (av : List Value) (mc ms : Nat) (Hp : (Nat → va_E) → Prop) : Prop := Met l y ws rm (va_Pc av (Wd D cy B N g)) (va_Qv (fun g' => Hp g') (Wd D cy B (N + mc)) (yA B)) mc ms (yA B)
abbrev rmo (f k : Nat) : Room := { frames := f, cells := 0, slots := 0, locals := k }
abbrev rmc (f k mc ms : Nat) : Room := { frames := f, cells := mc, slots := ms, locals := k }

theorem WW_of {y : MethodName} {ws ws' : List Cond} {rm : Room} {maxL mc ms : Nat} {av : List Value} {lvs : List (Nat × Value)} {Qc : Array Value → State → Outcome → State → Prop} (hy : plainName y.cls = true) (hw : ws = Cond.code y cc maxL ret :: ws') (hown : y.cls = own) (hlen : (lg_sl av).length ≤ maxL) (hlv : lv_args 0 av = lvs)
    (body : ∀ (p : Program) (e : Env) (s : State) (m : MethodId) (below : List Frame) (meth : Method) (c : Code), meth.name = y.name → WW p l e rm s m av.toArray below meth c (MQ below Qc av.toArray s mc ms (yA B)) cc maxL ret own ws D cy B N 0 0 g 0 lvs []) : Met l y ws rm (va_Pc av (Wd D cy B N g)) Qc mc ms (yA B) := by
  refine Met.ofW (cc := cc) (maxL := maxL) (ret := ret) hy hw ?_
  intro p e s m args below meth c s₁ Bd hml hv
  obtain ⟨rfl, ⟨hb, hz⟩, hP, hK⟩ := hv
  have hl := lv_entry av hlen
  rw [lg_entry_eq]
  rw [hlv] at hl
  exact body p e s m below meth c (name_of_methodNamed Bd.named Bd.method).1 ⟨Bd.exec, Bd.bytes, hml, hown ▸ findClass_of_methodNamed Bd.named, atoms_spec (ws := ws) Bd.pre, hK, Bd.returns, Bd.notSynchronized⟩ hb (by omega) s.heap [] _ hP va_S.rf hl

theorem w_iret {E E' : Int} {Hp : (Nat → va_E) → Prop} (hd : decode cc pc = .ok (.ireturn, 1)) (hret : ret = some .int) (hE : E' = E) (hp : Hp g) : WW p l e R s m args below meth c (MQ below (va_Qi (fun r g' => r = zI E ∧ Hp g') (Wd D cy B N) (yA B)) args s cells slots (yA B)) cc nL ret own Ts D cy B N cells slots g pc lv [.int (zI E')] := by
  intro C hb hz H locs ls hP hS hl T hT X
  have hsz := pw_size X hT hP hb hz hS.1
  subst hret
  exact W.iret C.1 C.2.1 C.2.2.2.2.2.2.1 (fun t ht hW => ⟨⟨zI E', g, rfl, ⟨by rw [hE], hp⟩, ⟨⟨by rw [ht]; omega, by rw [ht]; exact hsz⟩, by rw [ht]; exact hP, va_K.moved hW.alike C.2.2.2.2.2.1⟩⟩, hS.F ht⟩) hS.2.2 hd C.2.2.2.2.2.2.2 T hT X

theorem w_zret {E E' : Int} {ty : FieldType} {Hp : (Nat → va_E) → Prop} (hd : decode cc pc = .ok (.ireturn, 1)) (hret : ret = some ty) (hn : narrow ty (.int (zI E')) = .int (zI E')) (hE : E' = E) (hp : Hp g) : WW p l e R s m args below meth c (MQ below (va_Qi (fun r g' => r = zI E ∧ Hp g') (Wd D cy B N) (yA B)) args s cells slots (yA B)) cc nL ret own Ts D cy B N cells slots g pc lv [.int (zI E')] := by
  intro C hb hz H locs ls hP hS hl T hT X
  have hsz := pw_size X hT hP hb hz hS.1
  subst hret
  exact W.zret C.1 C.2.1 C.2.2.2.2.2.2.1 hn (fun t ht hW => ⟨⟨zI E', g, rfl, ⟨by rw [hE], hp⟩, ⟨⟨by rw [ht]; omega, by rw [ht]; exact hsz⟩, by rw [ht]; exact hP, va_K.moved hW.alike C.2.2.2.2.2.1⟩⟩, hS.F ht⟩) hS.2.2 hd C.2.2.2.2.2.2.2 T hT X

theorem w_lret {E E' : Int} {Hp : (Nat → va_E) → Prop} (hd : decode cc pc = .ok (.lreturn, 1)) (hret : ret = some .long) (hE : E' = E) (hp : Hp g) : WW p l e R s m args below meth c (MQ below (va_Ql (fun r g' => r = zJ E ∧ Hp g') (Wd D cy B N) (yA B)) args s cells slots (yA B)) cc nL ret own Ts D cy B N cells slots g pc lv [.long (zJ E')] := by
  intro C hb hz H locs ls hP hS hl T hT X
  have hsz := pw_size X hT hP hb hz hS.1
  subst hret
  exact W.lret C.1 C.2.1 C.2.2.2.2.2.2.1 (fun t ht hW => ⟨⟨zJ E', g, rfl, ⟨by rw [hE], hp⟩, ⟨⟨by rw [ht]; omega, by rw [ht]; exact hsz⟩, by rw [ht]; exact hP, va_K.moved hW.alike C.2.2.2.2.2.1⟩⟩, hS.F ht⟩) hS.2.2 hd C.2.2.2.2.2.2.2 T hT X

theorem w_vret {Hp : (Nat → va_E) → Prop} (hd : decode cc pc = .ok (.return_, 1)) (hret : ret = none) (hp : Hp g) : WW p l e R s m args below meth c (MQ below (va_Qv (fun g' => Hp g') (Wd D cy B N) (yA B)) args s cells slots (yA B)) cc nL ret own Ts D cy B N cells slots g pc lv [] := by
  intro C hb hz H locs ls hP hS hl T hT X
  have hsz := pw_size X hT hP hb hz hS.1
  subst hret
  exact W.vret C.1 C.2.1 C.2.2.2.2.2.2.1 (fun t ht hW => ⟨⟨g, rfl, hp, ⟨⟨by rw [ht]; omega, by rw [ht]; exact hsz⟩, by rw [ht]; exact hP, va_K.moved hW.alike C.2.2.2.2.2.1⟩⟩, hS.F ht⟩) hS.2.2 hd C.2.2.2.2.2.2.2 T hT X

theorem w_aret {E E' : Option Nat} {Cn : String} {Hp : (Nat → va_E) → Prop} (hd : decode cc pc = .ok (.areturn, 1)) (hret : ret = some (.object Cn)) (hE : E' = E) (hp : Hp g) : WW p l e R s m args below meth c (MQ below (va_Qq (fun r g' => r = E ∧ Hp g') (Wd D cy B N) (yA B)) args s cells slots (yA B)) cc nL ret own Ts D cy B N cells slots g pc lv [va_rf E'] := by
  intro C hb hz H locs ls hP hS hl T hT X
  have hsz := pw_size X hT hP hb hz hS.1
  subst hret
  exact W.aret C.1 C.2.1 C.2.2.2.2.2.2.1 (Or.inl ⟨Cn, rfl⟩) (va_rf_or E') (fun t ht hW => ⟨⟨E', g, rfl, ⟨hE, hp⟩, ⟨⟨by rw [ht]; omega, by rw [ht]; exact hsz⟩, by rw [ht]; exact hP, va_K.moved hW.alike C.2.2.2.2.2.1⟩⟩, hS.F ht⟩) hS.2.2 hd C.2.2.2.2.2.2.2 T hT X

theorem w_calli {y : MethodName} {ws ws' : List Cond} {rm : Room} {bytes : ByteArray} {maxL index n : Nat} {rt : Option FieldType} {As rest : List Value} {Hp : (Nat → va_E) → Prop} {E : Int} {ci k : Nat} {fs : List Value} {q : vw_C} (hM : CTi l y ws rm D cy B N g (.ref (B + k) :: As) E Hp) (hG : GoodIn Ts (wsV own index q.1 y ws)) (hw : ws = Cond.code y bytes maxL rt :: ws') (hrc : rm.cells = 0) (hrs : rm.slots = 0) (hy : y.cls = q.1 ∧ y.cls ≠ "java/lang/invoke/MethodHandle" ∧ y.cls ≠ "java/lang/invoke/VarHandle" ∧ (parseMethodDescriptor y.desc).map (fun d => d.parameters.length) = some n) (hR : rm.frames + 1 ≤ R.frames ∧ 8 + (maxL + 11) + rm.locals ≤ R.locals) (hn : As.length = n) (hk : k < N) (hg : g k = .inr (ci, fs)) (hc : vwCl[ci]? = some q) (hroom : (rest.map fun v => v.category).sum ≤ 8) (hcs : cells ≤ R.cells ∧ slots ≤ R.slots) (hd : decode cc pc = .ok (.invokevirtual index, 3)) (hst : st = As.reverse ++ .ref (B + k) :: rest) (kk : ∀ g' : Nat → va_E, Hp g' → WW p l e R s m args below meth c Q cc nL ret own Ts D cy B N cells slots g' (pc + 3) lv (.int (zI E) :: rest)) : WW p l e R s m args below meth c Q cc nL ret own Ts D cy B N cells slots g pc lv st := by
  intro C hb hz H locs ls hP hS hl T hT X
  have hsz := pw_size X hT hP hb hz hS.1
  have hCF : CallFix p m c cc nL s args Ts own := ⟨C.1, C.2.1, C.2.2.1, C.2.2.2.1, C.2.2.2.2.1⟩
  have hW0 : ∀ U : State, U.heap = H → s.WarmedH U.vm → Wd D cy B N g U := fun U hU hW => ⟨⟨by rw [hU]; omega, by rw [hU]; exact hsz⟩, by rw [hU]; exact hP, va_K.moved hW.alike C.2.2.2.2.2.1⟩
  refine va_calli (va_runV hCF hM (cwV n C.2.2.2.2.1 hG hw hrc hrs hy hR) ⟨Wd_blind, va_recv (q0 := k) C.2.2.2.2.2.1 hP hc (by rw [pw_get hk, hg]), fun U hU hW => ⟨rfl, hW0 U hU hW⟩⟩ rfl hn hl.1 hst (lv_room hroom) hd hcs) hS (fun q _ h => h) (fun q h => h) (fun r u t H1 locs1 ht hvm hw hB hz1 hk1 hS1 => ?_) T hT X
  obtain ⟨rfl, hw9⟩ := hw
  exact kk u hw9 C hb hz H1 locs1 ls (by rw [← ht]; exact hB.2.1) hS1 hl

theorem w_calll {y : MethodName} {ws ws' : List Cond} {rm : Room} {bytes : ByteArray} {maxL index n : Nat} {rt : Option FieldType} {As rest : List Value} {Hp : (Nat → va_E) → Prop} {E : Int} {ci k : Nat} {fs : List Value} {q : vw_C} (hM : CTl l y ws rm D cy B N g (.ref (B + k) :: As) E Hp) (hG : GoodIn Ts (wsV own index q.1 y ws)) (hw : ws = Cond.code y bytes maxL rt :: ws') (hrc : rm.cells = 0) (hrs : rm.slots = 0) (hy : y.cls = q.1 ∧ y.cls ≠ "java/lang/invoke/MethodHandle" ∧ y.cls ≠ "java/lang/invoke/VarHandle" ∧ (parseMethodDescriptor y.desc).map (fun d => d.parameters.length) = some n) (hR : rm.frames + 1 ≤ R.frames ∧ 8 + (maxL + 11) + rm.locals ≤ R.locals) (hn : As.length = n) (hk : k < N) (hg : g k = .inr (ci, fs)) (hc : vwCl[ci]? = some q) (hroom : (rest.map fun v => v.category).sum ≤ 8) (hcs : cells ≤ R.cells ∧ slots ≤ R.slots) (hd : decode cc pc = .ok (.invokevirtual index, 3)) (hst : st = As.reverse ++ .ref (B + k) :: rest) (kk : ∀ g' : Nat → va_E, Hp g' → WW p l e R s m args below meth c Q cc nL ret own Ts D cy B N cells slots g' (pc + 3) lv (.long (zJ E) :: rest)) : WW p l e R s m args below meth c Q cc nL ret own Ts D cy B N cells slots g pc lv st := by
  intro C hb hz H locs ls hP hS hl T hT X
  have hsz := pw_size X hT hP hb hz hS.1
  have hCF : CallFix p m c cc nL s args Ts own := ⟨C.1, C.2.1, C.2.2.1, C.2.2.2.1, C.2.2.2.2.1⟩
  have hW0 : ∀ U : State, U.heap = H → s.WarmedH U.vm → Wd D cy B N g U := fun U hU hW => ⟨⟨by rw [hU]; omega, by rw [hU]; exact hsz⟩, by rw [hU]; exact hP, va_K.moved hW.alike C.2.2.2.2.2.1⟩
  refine va_calll (va_runV hCF hM (cwV n C.2.2.2.2.1 hG hw hrc hrs hy hR) ⟨Wd_blind, va_recv (q0 := k) C.2.2.2.2.2.1 hP hc (by rw [pw_get hk, hg]), fun U hU hW => ⟨rfl, hW0 U hU hW⟩⟩ rfl hn hl.1 hst (lv_room hroom) hd hcs) hS (fun q _ h => h) (fun q h => h) (fun r u t H1 locs1 ht hvm hw hB hz1 hk1 hS1 => ?_) T hT X
  obtain ⟨rfl, hw9⟩ := hw
  exact kk u hw9 C hb hz H1 locs1 ls (by rw [← ht]; exact hB.2.1) hS1 hl

theorem w_callv {y : MethodName} {ws ws' : List Cond} {rm : Room} {bytes : ByteArray} {maxL index n : Nat} {rt : Option FieldType} {As rest : List Value} {Hp : (Nat → va_E) → Prop} {ci k : Nat} {fs : List Value} {q : vw_C} (hM : CTv l y ws rm D cy B N g (.ref (B + k) :: As) Hp) (hG : GoodIn Ts (wsV own index q.1 y ws)) (hw : ws = Cond.code y bytes maxL rt :: ws') (hrc : rm.cells = 0) (hrs : rm.slots = 0) (hy : y.cls = q.1 ∧ y.cls ≠ "java/lang/invoke/MethodHandle" ∧ y.cls ≠ "java/lang/invoke/VarHandle" ∧ (parseMethodDescriptor y.desc).map (fun d => d.parameters.length) = some n) (hR : rm.frames + 1 ≤ R.frames ∧ 8 + (maxL + 11) + rm.locals ≤ R.locals) (hn : As.length = n) (hk : k < N) (hg : g k = .inr (ci, fs)) (hc : vwCl[ci]? = some q) (hroom : (rest.map fun v => v.category).sum ≤ 8) (hcs : cells ≤ R.cells ∧ slots ≤ R.slots) (hd : decode cc pc = .ok (.invokevirtual index, 3)) (hst : st = As.reverse ++ .ref (B + k) :: rest) (kk : ∀ g' : Nat → va_E, Hp g' → WW p l e R s m args below meth c Q cc nL ret own Ts D cy B N cells slots g' (pc + 3) lv rest) : WW p l e R s m args below meth c Q cc nL ret own Ts D cy B N cells slots g pc lv st := by
  intro C hb hz H locs ls hP hS hl T hT X
  have hsz := pw_size X hT hP hb hz hS.1
  have hCF : CallFix p m c cc nL s args Ts own := ⟨C.1, C.2.1, C.2.2.1, C.2.2.2.1, C.2.2.2.2.1⟩
  have hW0 : ∀ U : State, U.heap = H → s.WarmedH U.vm → Wd D cy B N g U := fun U hU hW => ⟨⟨by rw [hU]; omega, by rw [hU]; exact hsz⟩, by rw [hU]; exact hP, va_K.moved hW.alike C.2.2.2.2.2.1⟩
  refine va_callv (va_runV hCF hM (cwV n C.2.2.2.2.1 hG hw hrc hrs hy hR) ⟨Wd_blind, va_recv (q0 := k) C.2.2.2.2.2.1 hP hc (by rw [pw_get hk, hg]), fun U hU hW => ⟨rfl, hW0 U hU hW⟩⟩ rfl hn hl.1 hst (lv_room hroom) hd hcs) hS (fun q _ h => h) (fun q h => h) (fun u t H1 locs1 ht hvm hw hB hz1 hk1 hS1 => ?_) T hT X
  have hw9 := hw
  exact kk u hw9 C hb hz H1 locs1 ls (by rw [← ht]; exact hB.2.1) hS1 hl

theorem w_callq {y : MethodName} {ws ws' : List Cond} {rm : Room} {bytes : ByteArray} {maxL index n : Nat} {rt : Option FieldType} {As rest : List Value} {Hp : (Nat → va_E) → Prop} {E : Option Nat} {ci k : Nat} {fs : List Value} {q : vw_C} (hM : CTq l y ws rm D cy B N g (.ref (B + k) :: As) E Hp) (hG : GoodIn Ts (wsV own index q.1 y ws)) (hw : ws = Cond.code y bytes maxL rt :: ws') (hrc : rm.cells = 0) (hrs : rm.slots = 0) (hy : y.cls = q.1 ∧ y.cls ≠ "java/lang/invoke/MethodHandle" ∧ y.cls ≠ "java/lang/invoke/VarHandle" ∧ (parseMethodDescriptor y.desc).map (fun d => d.parameters.length) = some n) (hR : rm.frames + 1 ≤ R.frames ∧ 8 + (maxL + 11) + rm.locals ≤ R.locals) (hn : As.length = n) (hk : k < N) (hg : g k = .inr (ci, fs)) (hc : vwCl[ci]? = some q) (hroom : (rest.map fun v => v.category).sum ≤ 8) (hcs : cells ≤ R.cells ∧ slots ≤ R.slots) (hd : decode cc pc = .ok (.invokevirtual index, 3)) (hst : st = As.reverse ++ .ref (B + k) :: rest) (kk : ∀ g' : Nat → va_E, Hp g' → WW p l e R s m args below meth c Q cc nL ret own Ts D cy B N cells slots g' (pc + 3) lv (va_rf E :: rest)) : WW p l e R s m args below meth c Q cc nL ret own Ts D cy B N cells slots g pc lv st := by
  intro C hb hz H locs ls hP hS hl T hT X
  have hsz := pw_size X hT hP hb hz hS.1
  have hCF : CallFix p m c cc nL s args Ts own := ⟨C.1, C.2.1, C.2.2.1, C.2.2.2.1, C.2.2.2.2.1⟩
  have hW0 : ∀ U : State, U.heap = H → s.WarmedH U.vm → Wd D cy B N g U := fun U hU hW => ⟨⟨by rw [hU]; omega, by rw [hU]; exact hsz⟩, by rw [hU]; exact hP, va_K.moved hW.alike C.2.2.2.2.2.1⟩
  refine va_callq (va_runV hCF hM (cwV n C.2.2.2.2.1 hG hw hrc hrs hy hR) ⟨Wd_blind, va_recv (q0 := k) C.2.2.2.2.2.1 hP hc (by rw [pw_get hk, hg]), fun U hU hW => ⟨rfl, hW0 U hU hW⟩⟩ rfl hn hl.1 hst (lv_room hroom) hd hcs) hS (fun q _ h => h) (fun q h => h) (fun r u t H1 locs1 ht hvm hw hB hz1 hk1 hS1 => ?_) T hT X
  obtain ⟨rfl, hw9⟩ := hw
  exact kk u hw9 C hb hz H1 locs1 ls (by rw [← ht]; exact hB.2.1) hS1 hl

theorem w_calliS {y : MethodName} {ws ws' : List Cond} {rm : Room} {bytes : ByteArray} {maxL index n : Nat} {rt : Option FieldType} {As rest : List Value} {Hp : (Nat → va_E) → Prop} {E : Int} (hM : CTi l y ws rm D cy B N g As E Hp) (hG : GoodIn Ts (va_wsS own index y ws)) (hw : ws = Cond.code y bytes maxL rt :: ws') (hrc : rm.cells = 0) (hrs : rm.slots = 0) (hy : y.cls ≠ "java/lang/invoke/MethodHandle" ∧ y.cls ≠ "java/lang/invoke/VarHandle" ∧ (parseMethodDescriptor y.desc).map (fun d => d.parameters.length) = some n) (hR : rm.frames + 1 ≤ R.frames ∧ 8 + (maxL + 11) + rm.locals ≤ R.locals) (hn : As.length = n) (hroom : (rest.map fun v => v.category).sum ≤ 8) (hcs : cells ≤ R.cells ∧ slots ≤ R.slots) (hd : decode cc pc = .ok (.invokestatic index, 3)) (hst : st = As.reverse ++ rest) (kk : ∀ g' : Nat → va_E, Hp g' → WW p l e R s m args below meth c Q cc nL ret own Ts D cy B N cells slots g' (pc + 3) lv (.int (zI E) :: rest)) : WW p l e R s m args below meth c Q cc nL ret own Ts D cy B N cells slots g pc lv st := by
  intro C hb hz H locs ls hP hS hl T hT X
  have hsz := pw_size X hT hP hb hz hS.1
  have hCF : CallFix p m c cc nL s args Ts own := ⟨C.1, C.2.1, C.2.2.1, C.2.2.2.1, C.2.2.2.2.1⟩
  have hW0 : ∀ U : State, U.heap = H → s.WarmedH U.vm → Wd D cy B N g U := fun U hU hW => ⟨⟨by rw [hU]; omega, by rw [hU]; exact hsz⟩, by rw [hU]; exact hP, va_K.moved hW.alike C.2.2.2.2.2.1⟩
  refine va_calli (va_runS hCF hM (va_cwS n C.2.2.2.2.1 hG hw hrc hrs hy hR) ⟨Wd_blind, fun U hU hW => ⟨rfl, hW0 U hU hW⟩⟩ rfl hn hl.1 hst (lv_room hroom) hd hcs) hS (fun q _ h => h) (fun q h => h) (fun r u t H1 locs1 ht hvm hw hB hz1 hk1 hS1 => ?_) T hT X
  obtain ⟨rfl, hw9⟩ := hw
  exact kk u hw9 C hb hz H1 locs1 ls (by rw [← ht]; exact hB.2.1) hS1 hl

theorem w_calllS {y : MethodName} {ws ws' : List Cond} {rm : Room} {bytes : ByteArray} {maxL index n : Nat} {rt : Option FieldType} {As rest : List Value} {Hp : (Nat → va_E) → Prop} {E : Int} (hM : CTl l y ws rm D cy B N g As E Hp) (hG : GoodIn Ts (va_wsS own index y ws)) (hw : ws = Cond.code y bytes maxL rt :: ws') (hrc : rm.cells = 0) (hrs : rm.slots = 0) (hy : y.cls ≠ "java/lang/invoke/MethodHandle" ∧ y.cls ≠ "java/lang/invoke/VarHandle" ∧ (parseMethodDescriptor y.desc).map (fun d => d.parameters.length) = some n) (hR : rm.frames + 1 ≤ R.frames ∧ 8 + (maxL + 11) + rm.locals ≤ R.locals) (hn : As.length = n) (hroom : (rest.map fun v => v.category).sum ≤ 8) (hcs : cells ≤ R.cells ∧ slots ≤ R.slots) (hd : decode cc pc = .ok (.invokestatic index, 3)) (hst : st = As.reverse ++ rest) (kk : ∀ g' : Nat → va_E, Hp g' → WW p l e R s m args below meth c Q cc nL ret own Ts D cy B N cells slots g' (pc + 3) lv (.long (zJ E) :: rest)) : WW p l e R s m args below meth c Q cc nL ret own Ts D cy B N cells slots g pc lv st := by
  intro C hb hz H locs ls hP hS hl T hT X
  have hsz := pw_size X hT hP hb hz hS.1
  have hCF : CallFix p m c cc nL s args Ts own := ⟨C.1, C.2.1, C.2.2.1, C.2.2.2.1, C.2.2.2.2.1⟩
  have hW0 : ∀ U : State, U.heap = H → s.WarmedH U.vm → Wd D cy B N g U := fun U hU hW => ⟨⟨by rw [hU]; omega, by rw [hU]; exact hsz⟩, by rw [hU]; exact hP, va_K.moved hW.alike C.2.2.2.2.2.1⟩
  refine va_calll (va_runS hCF hM (va_cwS n C.2.2.2.2.1 hG hw hrc hrs hy hR) ⟨Wd_blind, fun U hU hW => ⟨rfl, hW0 U hU hW⟩⟩ rfl hn hl.1 hst (lv_room hroom) hd hcs) hS (fun q _ h => h) (fun q h => h) (fun r u t H1 locs1 ht hvm hw hB hz1 hk1 hS1 => ?_) T hT X
  obtain ⟨rfl, hw9⟩ := hw
  exact kk u hw9 C hb hz H1 locs1 ls (by rw [← ht]; exact hB.2.1) hS1 hl

theorem w_callvS {y : MethodName} {ws ws' : List Cond} {rm : Room} {bytes : ByteArray} {maxL index n : Nat} {rt : Option FieldType} {As rest : List Value} {Hp : (Nat → va_E) → Prop} (hM : CTv l y ws rm D cy B N g As Hp) (hG : GoodIn Ts (va_wsS own index y ws)) (hw : ws = Cond.code y bytes maxL rt :: ws') (hrc : rm.cells = 0) (hrs : rm.slots = 0) (hy : y.cls ≠ "java/lang/invoke/MethodHandle" ∧ y.cls ≠ "java/lang/invoke/VarHandle" ∧ (parseMethodDescriptor y.desc).map (fun d => d.parameters.length) = some n) (hR : rm.frames + 1 ≤ R.frames ∧ 8 + (maxL + 11) + rm.locals ≤ R.locals) (hn : As.length = n) (hroom : (rest.map fun v => v.category).sum ≤ 8) (hcs : cells ≤ R.cells ∧ slots ≤ R.slots) (hd : decode cc pc = .ok (.invokestatic index, 3)) (hst : st = As.reverse ++ rest) (kk : ∀ g' : Nat → va_E, Hp g' → WW p l e R s m args below meth c Q cc nL ret own Ts D cy B N cells slots g' (pc + 3) lv rest) : WW p l e R s m args below meth c Q cc nL ret own Ts D cy B N cells slots g pc lv st := by
  intro C hb hz H locs ls hP hS hl T hT X
  have hsz := pw_size X hT hP hb hz hS.1
  have hCF : CallFix p m c cc nL s args Ts own := ⟨C.1, C.2.1, C.2.2.1, C.2.2.2.1, C.2.2.2.2.1⟩
  have hW0 : ∀ U : State, U.heap = H → s.WarmedH U.vm → Wd D cy B N g U := fun U hU hW => ⟨⟨by rw [hU]; omega, by rw [hU]; exact hsz⟩, by rw [hU]; exact hP, va_K.moved hW.alike C.2.2.2.2.2.1⟩
  refine va_callv (va_runS hCF hM (va_cwS n C.2.2.2.2.1 hG hw hrc hrs hy hR) ⟨Wd_blind, fun U hU hW => ⟨rfl, hW0 U hU hW⟩⟩ rfl hn hl.1 hst (lv_room hroom) hd hcs) hS (fun q _ h => h) (fun q h => h) (fun u t H1 locs1 ht hvm hw hB hz1 hk1 hS1 => ?_) T hT X
  have hw9 := hw
  exact kk u hw9 C hb hz H1 locs1 ls (by rw [← ht]; exact hB.2.1) hS1 hl

theorem w_callqS {y : MethodName} {ws ws' : List Cond} {rm : Room} {bytes : ByteArray} {maxL index n : Nat} {rt : Option FieldType} {As rest : List Value} {Hp : (Nat → va_E) → Prop} {E : Option Nat} (hM : CTq l y ws rm D cy B N g As E Hp) (hG : GoodIn Ts (va_wsS own index y ws)) (hw : ws = Cond.code y bytes maxL rt :: ws') (hrc : rm.cells = 0) (hrs : rm.slots = 0) (hy : y.cls ≠ "java/lang/invoke/MethodHandle" ∧ y.cls ≠ "java/lang/invoke/VarHandle" ∧ (parseMethodDescriptor y.desc).map (fun d => d.parameters.length) = some n) (hR : rm.frames + 1 ≤ R.frames ∧ 8 + (maxL + 11) + rm.locals ≤ R.locals) (hn : As.length = n) (hroom : (rest.map fun v => v.category).sum ≤ 8) (hcs : cells ≤ R.cells ∧ slots ≤ R.slots) (hd : decode cc pc = .ok (.invokestatic index, 3)) (hst : st = As.reverse ++ rest) (kk : ∀ g' : Nat → va_E, Hp g' → WW p l e R s m args below meth c Q cc nL ret own Ts D cy B N cells slots g' (pc + 3) lv (va_rf E :: rest)) : WW p l e R s m args below meth c Q cc nL ret own Ts D cy B N cells slots g pc lv st := by
  intro C hb hz H locs ls hP hS hl T hT X
  have hsz := pw_size X hT hP hb hz hS.1
  have hCF : CallFix p m c cc nL s args Ts own := ⟨C.1, C.2.1, C.2.2.1, C.2.2.2.1, C.2.2.2.2.1⟩
  have hW0 : ∀ U : State, U.heap = H → s.WarmedH U.vm → Wd D cy B N g U := fun U hU hW => ⟨⟨by rw [hU]; omega, by rw [hU]; exact hsz⟩, by rw [hU]; exact hP, va_K.moved hW.alike C.2.2.2.2.2.1⟩
  refine va_callq (va_runS hCF hM (va_cwS n C.2.2.2.2.1 hG hw hrc hrs hy hR) ⟨Wd_blind, fun U hU hW => ⟨rfl, hW0 U hU hW⟩⟩ rfl hn hl.1 hst (lv_room hroom) hd hcs) hS (fun q _ h => h) (fun q h => h) (fun r u t H1 locs1 ht hvm hw hB hz1 hk1 hS1 => ?_) T hT X
  obtain ⟨rfl, hw9⟩ := hw
  exact kk u hw9 C hb hz H1 locs1 ls (by rw [← ht]; exact hB.2.1) hS1 hl

theorem w_ctor {y : MethodName} {ws ws' : List Cond} {rm : Room} {bytes : ByteArray} {maxL index n k mc ms : Nat} {As rest : List Value} {Hp : (Nat → va_E) → Prop} (hM : CTc l y ws rm D cy B N g (.ref (B + k) :: As) mc ms Hp) (hG : GoodIn Ts ws) (hw : ws = Cond.code y bytes maxL none :: ws') (hrc : rm.cells = mc) (hrs : rm.slots = ms) (hini : Cond.initialized y.cls ∈ Ts) (hlk : Cond.methodLink own index y ∈ Ts) (hin : Cond.instanceMethod y ∈ Ts) (hy1 : y.name = "<init>") (hy : y.cls ≠ "java/lang/invoke/MethodHandle" ∧ y.cls ≠ "java/lang/invoke/VarHandle" ∧ (parseMethodDescriptor y.desc).map (fun d => d.parameters.length) = some n) (hR : rm.frames + 1 ≤ R.frames ∧ 8 + (maxL + 11) + rm.locals ≤ R.locals) (hn : As.length = n) (hroom : (rest.map fun v => v.category).sum ≤ 8) (hcs : cells + mc ≤ R.cells ∧ slots + ms ≤ R.slots) (hd : decode cc pc = .ok (.invokespecial index, 3)) (hst : st = As.reverse ++ .ref (B + k) :: rest) (kk : ∀ g' : Nat → va_E, Hp g' → WW p l e R s m args below meth c Q cc nL ret own Ts D cy B (N + mc) (cells + mc) (slots + ms) g' (pc + 3) lv rest) : WW p l e R s m args below meth c Q cc nL ret own Ts D cy B N cells slots g pc lv st := by
  intro C hb hz H locs ls hP hS hl T hT X
  have hsz := pw_size X hT hP hb hz hS.1
  have hCF : CallFix p m c cc nL s args Ts own := ⟨C.1, C.2.1, C.2.2.1, C.2.2.2.1, C.2.2.2.2.1⟩
  have hW0 : ∀ U : State, U.heap = H → s.WarmedH U.vm → Wd D cy B N g U := fun U hU hW => ⟨⟨by rw [hU]; omega, by rw [hU]; exact hsz⟩, by rw [hU]; exact hP, va_K.moved hW.alike C.2.2.2.2.2.1⟩
  refine va_callv (va_runI hCF hM (cwI n C.2.2.2.2.1 hG hw hrc hrs (C.2.2.2.2.1 _ hini) (C.2.2.2.2.1 _ hlk) (C.2.2.2.2.1 _ hin) hy1 hy hR) ⟨Wd_blind, fun U hU hW => ⟨rfl, hW0 U hU hW⟩⟩ rfl hn hl.1 hst (lv_room hroom) hd hcs) hS (fun q _ h => h) (fun q h => h) (fun u t H1 locs1 ht hvm hw hB hz1 hk1 hS1 => ?_) T hT X
  exact kk u hw C hb (by omega) H1 locs1 ls (by rw [← ht]; exact hB.2.1) hS1 hl

theorem w_objInit {index : Nat} {a : Nat} (hl1 : Cond.methodLink own index objectInit ∈ Ts) (hl2 : Cond.instanceMethod objectInit ∈ Ts) (hl3 : Cond.code objectInit ⟨#[0xb1]⟩ 1 none ∈ Ts) (hd : decode cc pc = .ok (.invokespecial index, 3)) (hf : 1 ≤ R.frames) (hlo : 12 ≤ R.locals) (hcs : cells ≤ R.cells ∧ slots ≤ R.slots) (kk : WW p l e R s m args below meth c Q cc nL ret own Ts D cy B N cells slots g (pc + 3) lv []) : WW p l e R s m args below meth c Q cc nL ret own Ts D cy B N cells slots g pc lv [.ref a] := by
  intro C hb hz H locs ls hP hS hl
  exact W.objInit C.1 C.2.1 C.2.2.2.1 (C.2.2.2.2.1 _ hl1) (C.2.2.2.2.1 _ hl2) (C.2.2.2.2.1 _ hl3) rfl (by rw [C.2.2.1]; exact hl.1) rfl hd hf hlo (kk C hb hz H locs ls hP hS hl)

theorem w_mmax {index : Nat} {a b : Int} (hl1 : Cond.methodLink own index Lib.Math.max.name ∈ Ts) (hl2 : Cond.static Lib.Math.max.name ∈ Ts) (hl3 : Cond.initialized "java/lang/Math" ∈ Ts) (hl4 : Cond.code Lib.Math.max.name Lib.Math.max.code 2 (some .int) ∈ Ts) (hf : 1 ≤ R.frames) (hlo : (st.map fun v => v.category).sum + 20 ≤ R.locals) (hcs : cells ≤ R.cells ∧ slots ≤ R.slots) (ha : -2147483648 ≤ a ∧ a < 2147483648) (hb0 : -2147483648 ≤ b ∧ b < 2147483648) (hd : decode cc pc = .ok (.invokestatic index, 3)) (kk : WW p l e R s m args below meth c Q cc nL ret own Ts D cy B N cells slots g (pc + 3) lv (.int (zI (max a b)) :: st)) : WW p l e R s m args below meth c Q cc nL ret own Ts D cy B N cells slots g pc lv (.int (zI b) :: .int (zI a) :: st) := by
  intro C hb hz H locs ls hP hS hl
  refine va_mmax C.1 C.2.1 (by rw [C.2.2.1]; exact hl.1.symm) C.2.2.2.1 (C.2.2.2.2.1 _ hl1) (C.2.2.2.2.1 _ hl2) (C.2.2.2.2.1 _ hl3) (C.2.2.2.2.1 _ hl4) hf (by omega) hcs.1 hcs.2 hd ?_
  have h9 := kk C hb hz H locs ls hP hS hl
  have h8 : (if zI a < zI b then zI b else zI a) = zI (max a b) := by
    by_cases q : a < b
    · rw [if_pos ((zI_lt ha hb0).mpr q), show max a b = b by omega]
    · rw [if_neg (fun z => q ((zI_lt ha hb0).mp z)), show max a b = a by omega]
  rw [h8]
  exact h9

theorem w_mmin {index : Nat} {a b : Int} (hl1 : Cond.methodLink own index Lib.Math.min.name ∈ Ts) (hl2 : Cond.static Lib.Math.min.name ∈ Ts) (hl3 : Cond.initialized "java/lang/Math" ∈ Ts) (hl4 : Cond.code Lib.Math.min.name Lib.Math.min.code 2 (some .int) ∈ Ts) (hf : 1 ≤ R.frames) (hlo : (st.map fun v => v.category).sum + 20 ≤ R.locals) (hcs : cells ≤ R.cells ∧ slots ≤ R.slots) (ha : -2147483648 ≤ a ∧ a < 2147483648) (hb0 : -2147483648 ≤ b ∧ b < 2147483648) (hd : decode cc pc = .ok (.invokestatic index, 3)) (kk : WW p l e R s m args below meth c Q cc nL ret own Ts D cy B N cells slots g (pc + 3) lv (.int (zI (min a b)) :: st)) : WW p l e R s m args below meth c Q cc nL ret own Ts D cy B N cells slots g pc lv (.int (zI b) :: .int (zI a) :: st) := by
  intro C hb hz H locs ls hP hS hl
  refine va_mmin C.1 C.2.1 (by rw [C.2.2.1]; exact hl.1.symm) C.2.2.2.1 (C.2.2.2.2.1 _ hl1) (C.2.2.2.2.1 _ hl2) (C.2.2.2.2.1 _ hl3) (C.2.2.2.2.1 _ hl4) hf (by omega) hcs.1 hcs.2 hd ?_
  have h9 := kk C hb hz H locs ls hP hS hl
  have h8 : (if zI b < zI a then zI b else zI a) = zI (min a b) := by
    by_cases q : b < a
    · rw [if_pos ((zI_lt hb0 ha).mpr q), show min a b = b by omega]
    · rw [if_neg (fun z => q ((zI_lt hb0 ha).mp z)), show min a b = a by omega]
  rw [h8]
  exact h9

theorem w_mmaxJ {index : Nat} {a b : Int} (hl1 : Cond.methodLink own index Lib.MathLoose.max_long.x ∈ Ts) (hl2 : Cond.static Lib.MathLoose.max_long.x ∈ Ts) (hl3 : Cond.initialized "java/lang/Math" ∈ Ts) (hl4 : Cond.code Lib.MathLoose.max_long.x Lib.MathLoose.max_long.code 4 (some .long) ∈ Ts) (hf : 1 ≤ R.frames) (hlo : (st.map fun v => v.category).sum + 20 ≤ R.locals) (hcs : cells ≤ R.cells ∧ slots ≤ R.slots) (ha : -9223372036854775808 ≤ a ∧ a < 9223372036854775808) (hb0 : -9223372036854775808 ≤ b ∧ b < 9223372036854775808) (hd : decode cc pc = .ok (.invokestatic index, 3)) (kk : WW p l e R s m args below meth c Q cc nL ret own Ts D cy B N cells slots g (pc + 3) lv (.long (zJ (max a b)) :: st)) : WW p l e R s m args below meth c Q cc nL ret own Ts D cy B N cells slots g pc lv (.long (zJ b) :: .long (zJ a) :: st) := by
  intro C hb hz H locs ls hP hS hl
  refine va_mmax_long C.1 C.2.1 (by rw [C.2.2.1]; exact hl.1.symm) C.2.2.2.1 (C.2.2.2.2.1 _ hl1) (C.2.2.2.2.1 _ hl2) (C.2.2.2.2.1 _ hl3) (C.2.2.2.2.1 _ hl4) hf (by omega) hcs.1 hcs.2 hd ?_
  have h9 := kk C hb hz H locs ls hP hS hl
  have h8 : (if zJ b < zJ a then zJ a else zJ b) = zJ (max a b) := by
    by_cases q : b < a
    · rw [if_pos ((zJ_lt hb0 ha).mpr q), show max a b = a by omega]
    · rw [if_neg (fun z => q ((zJ_lt hb0 ha).mp z)), show max a b = b by omega]
  rw [h8]
  exact h9

theorem w_mminJ {index : Nat} {a b : Int} (hl1 : Cond.methodLink own index Lib.MathLoose.min_long.x ∈ Ts) (hl2 : Cond.static Lib.MathLoose.min_long.x ∈ Ts) (hl3 : Cond.initialized "java/lang/Math" ∈ Ts) (hl4 : Cond.code Lib.MathLoose.min_long.x Lib.MathLoose.min_long.code 4 (some .long) ∈ Ts) (hf : 1 ≤ R.frames) (hlo : (st.map fun v => v.category).sum + 20 ≤ R.locals) (hcs : cells ≤ R.cells ∧ slots ≤ R.slots) (ha : -9223372036854775808 ≤ a ∧ a < 9223372036854775808) (hb0 : -9223372036854775808 ≤ b ∧ b < 9223372036854775808) (hd : decode cc pc = .ok (.invokestatic index, 3)) (kk : WW p l e R s m args below meth c Q cc nL ret own Ts D cy B N cells slots g (pc + 3) lv (.long (zJ (min a b)) :: st)) : WW p l e R s m args below meth c Q cc nL ret own Ts D cy B N cells slots g pc lv (.long (zJ b) :: .long (zJ a) :: st) := by
  intro C hb hz H locs ls hP hS hl
  refine va_mmin_long C.1 C.2.1 (by rw [C.2.2.1]; exact hl.1.symm) C.2.2.2.1 (C.2.2.2.2.1 _ hl1) (C.2.2.2.2.1 _ hl2) (C.2.2.2.2.1 _ hl3) (C.2.2.2.2.1 _ hl4) hf (by omega) hcs.1 hcs.2 hd ?_
  have h9 := kk C hb hz H locs ls hP hS hl
  have h8 : (if zJ b < zJ a then zJ b else zJ a) = zJ (min a b) := by
    by_cases q : b < a
    · rw [if_pos ((zJ_lt hb0 ha).mpr q), show min a b = b by omega]
    · rw [if_neg (fun z => q ((zJ_lt hb0 ha).mp z)), show min a b = a by omega]
  rw [h8]
  exact h9

theorem w_tin {dflt lo hi z : Int} {offs : Array Int} {len : Nat} {off : Int} (tgt : Nat) (hd : decode cc pc = .ok (.tableswitch dflt lo hi offs, len)) (hzr : -2147483648 ≤ z ∧ z < 2147483648) (h1 : ¬ z < lo) (h2 : ¬ hi < z) (ho : offs[(z - lo).toNat]? = some off) (ht : (pc : Int) + off = (tgt : Int)) (kk : WW p l e R s m args below meth c Q cc nL ret own Ts D cy B N cells slots g tgt lv st) : WW p l e R s m args below meth c Q cc nL ret own Ts D cy B N cells slots g pc lv (.int (zI z) :: st) := fun C hb hz H locs ls hP hS hl => lv_tableIn C.1 C.2.1 hd (by rw [zI_toInt hzr]; exact h1) (by rw [zI_toInt hzr]; exact h2) (by rw [zI_toInt hzr]; exact ho) ht (kk C hb hz H locs ls hP hS hl)
theorem w_tout {dflt lo hi z : Int} {offs : Array Int} {len : Nat} (tgt : Nat) (hd : decode cc pc = .ok (.tableswitch dflt lo hi offs, len)) (hzr : -2147483648 ≤ z ∧ z < 2147483648) (h : z < lo ∨ hi < z) (ht : (pc : Int) + dflt = (tgt : Int)) (kk : WW p l e R s m args below meth c Q cc nL ret own Ts D cy B N cells slots g tgt lv st) : WW p l e R s m args below meth c Q cc nL ret own Ts D cy B N cells slots g pc lv (.int (zI z) :: st) := fun C hb hz H locs ls hP hS hl => lv_tableOut C.1 C.2.1 hd (by rw [zI_toInt hzr]; exact h) ht (kk C hb hz H locs ls hP hS hl)
theorem w_look {dflt z : Int} {ps : Array (Int × Int)} {len : Nat} {off : Int} (tgt : Nat) (hd : decode cc pc = .ok (.lookupswitch dflt ps, len)) (hp : (ps.toList.zip (ps.toList.drop 1)).all (fun (a, next) => a.1 < next.1) = true) (hzr : -2147483648 ≤ z ∧ z < 2147483648) (ho : Op.lookupswitch.offset ps.toList dflt z = off) (ht : (pc : Int) + off = (tgt : Int)) (kk : WW p l e R s m args below meth c Q cc nL ret own Ts D cy B N cells slots g tgt lv st) : WW p l e R s m args below meth c Q cc nL ret own Ts D cy B N cells slots g pc lv (.int (zI z) :: st) := fun C hb hz H locs ls hP hS hl => lv_lookup C.1 C.2.1 hd hp (by rw [zI_toInt hzr]; exact ho) ht (kk C hb hz H locs ls hP hS hl)
theorem w_ldc2 {index : Nat} {z : Int} (hlc : Cond.constantLong own index (zJ z) ∈ Ts) (hd : decode cc pc = .ok (.ldc2_w index, 3)) (kk : WW p l e R s m args below meth c Q cc nL ret own Ts D cy B N cells slots g (pc + 3) lv (.long (zJ z) :: st)) : WW p l e R s m args below meth c Q cc nL ret own Ts D cy B N cells slots g pc lv st := fun C hb hz H locs ls hP hS hl => lv_ldc2 C.1 C.2.1 C.2.2.2.1 (C.2.2.2.2.1 _ hlc) hd (kk C hb hz H locs ls hP hS hl)
theorem w_loop1 {A1 : Type} (I : A1 → Prop) (μ : A1 → Nat) (G : A1 → Nat → va_E) (L : A1 → List (Nat × Value)) (hs : ∀ (a1 : A1), I a1 → (∀ (b1 : A1), I b1 → μ b1 < μ a1 → WW p l e R s m args below meth c Q cc nL ret own Ts D cy B N cells slots (G b1) pc (L b1) st) → WW p l e R s m args below meth c Q cc nL ret own Ts D cy B N cells slots (G a1) pc (L a1) st) : ∀ (a1 : A1), I a1 → WW p l e R s m args below meth c Q cc nL ret own Ts D cy B N cells slots (G a1) pc (L a1) st := by
  have key : ∀ (n : Nat) (a1 : A1), μ a1 < n → I a1 → WW p l e R s m args below meth c Q cc nL ret own Ts D cy B N cells slots (G a1) pc (L a1) st := by
    intro n
    induction n with
    | zero => intro a1 h; exact absurd h (Nat.not_lt_zero _)
    | succ n ih => intro a1 h hI; exact hs a1 hI (fun b1 hJ hlt => ih b1 (by omega) hJ)
  intro a1 hI
  exact key _ a1 (Nat.lt_succ_self _) hI
theorem w_loop2 {A1 A2 : Type} (I : A1 → A2 → Prop) (μ : A1 → A2 → Nat) (G : A1 → A2 → Nat → va_E) (L : A1 → A2 → List (Nat × Value)) (hs : ∀ (a1 : A1) (a2 : A2), I a1 a2 → (∀ (b1 : A1) (b2 : A2), I b1 b2 → μ b1 b2 < μ a1 a2 → WW p l e R s m args below meth c Q cc nL ret own Ts D cy B N cells slots (G b1 b2) pc (L b1 b2) st) → WW p l e R s m args below meth c Q cc nL ret own Ts D cy B N cells slots (G a1 a2) pc (L a1 a2) st) : ∀ (a1 : A1) (a2 : A2), I a1 a2 → WW p l e R s m args below meth c Q cc nL ret own Ts D cy B N cells slots (G a1 a2) pc (L a1 a2) st := by
  have key : ∀ (n : Nat) (a1 : A1) (a2 : A2), μ a1 a2 < n → I a1 a2 → WW p l e R s m args below meth c Q cc nL ret own Ts D cy B N cells slots (G a1 a2) pc (L a1 a2) st := by
    intro n
    induction n with
    | zero => intro a1 a2 h; exact absurd h (Nat.not_lt_zero _)
    | succ n ih => intro a1 a2 h hI; exact hs a1 a2 hI (fun b1 b2 hJ hlt => ih b1 b2 (by omega) hJ)
  intro a1 a2 hI
  exact key _ a1 a2 (Nat.lt_succ_self _) hI
theorem w_loop3 {A1 A2 A3 : Type} (I : A1 → A2 → A3 → Prop) (μ : A1 → A2 → A3 → Nat) (G : A1 → A2 → A3 → Nat → va_E) (L : A1 → A2 → A3 → List (Nat × Value)) (hs : ∀ (a1 : A1) (a2 : A2) (a3 : A3), I a1 a2 a3 → (∀ (b1 : A1) (b2 : A2) (b3 : A3), I b1 b2 b3 → μ b1 b2 b3 < μ a1 a2 a3 → WW p l e R s m args below meth c Q cc nL ret own Ts D cy B N cells slots (G b1 b2 b3) pc (L b1 b2 b3) st) → WW p l e R s m args below meth c Q cc nL ret own Ts D cy B N cells slots (G a1 a2 a3) pc (L a1 a2 a3) st) : ∀ (a1 : A1) (a2 : A2) (a3 : A3), I a1 a2 a3 → WW p l e R s m args below meth c Q cc nL ret own Ts D cy B N cells slots (G a1 a2 a3) pc (L a1 a2 a3) st := by
  have key : ∀ (n : Nat) (a1 : A1) (a2 : A2) (a3 : A3), μ a1 a2 a3 < n → I a1 a2 a3 → WW p l e R s m args below meth c Q cc nL ret own Ts D cy B N cells slots (G a1 a2 a3) pc (L a1 a2 a3) st := by
    intro n
    induction n with
    | zero => intro a1 a2 a3 h; exact absurd h (Nat.not_lt_zero _)
    | succ n ih => intro a1 a2 a3 h hI; exact hs a1 a2 a3 hI (fun b1 b2 b3 hJ hlt => ih b1 b2 b3 (by omega) hJ)
  intro a1 a2 a3 hI
  exact key _ a1 a2 a3 (Nat.lt_succ_self _) hI
theorem w_loop4 {A1 A2 A3 A4 : Type} (I : A1 → A2 → A3 → A4 → Prop) (μ : A1 → A2 → A3 → A4 → Nat) (G : A1 → A2 → A3 → A4 → Nat → va_E) (L : A1 → A2 → A3 → A4 → List (Nat × Value)) (hs : ∀ (a1 : A1) (a2 : A2) (a3 : A3) (a4 : A4), I a1 a2 a3 a4 → (∀ (b1 : A1) (b2 : A2) (b3 : A3) (b4 : A4), I b1 b2 b3 b4 → μ b1 b2 b3 b4 < μ a1 a2 a3 a4 → WW p l e R s m args below meth c Q cc nL ret own Ts D cy B N cells slots (G b1 b2 b3 b4) pc (L b1 b2 b3 b4) st) → WW p l e R s m args below meth c Q cc nL ret own Ts D cy B N cells slots (G a1 a2 a3 a4) pc (L a1 a2 a3 a4) st) : ∀ (a1 : A1) (a2 : A2) (a3 : A3) (a4 : A4), I a1 a2 a3 a4 → WW p l e R s m args below meth c Q cc nL ret own Ts D cy B N cells slots (G a1 a2 a3 a4) pc (L a1 a2 a3 a4) st := by
  have key : ∀ (n : Nat) (a1 : A1) (a2 : A2) (a3 : A3) (a4 : A4), μ a1 a2 a3 a4 < n → I a1 a2 a3 a4 → WW p l e R s m args below meth c Q cc nL ret own Ts D cy B N cells slots (G a1 a2 a3 a4) pc (L a1 a2 a3 a4) st := by
    intro n
    induction n with
    | zero => intro a1 a2 a3 a4 h; exact absurd h (Nat.not_lt_zero _)
    | succ n ih => intro a1 a2 a3 a4 h hI; exact hs a1 a2 a3 a4 hI (fun b1 b2 b3 b4 hJ hlt => ih b1 b2 b3 b4 (by omega) hJ)
  intro a1 a2 a3 a4 hI
  exact key _ a1 a2 a3 a4 (Nat.lt_succ_self _) hI
theorem w_loop5 {A1 A2 A3 A4 A5 : Type} (I : A1 → A2 → A3 → A4 → A5 → Prop) (μ : A1 → A2 → A3 → A4 → A5 → Nat) (G : A1 → A2 → A3 → A4 → A5 → Nat → va_E) (L : A1 → A2 → A3 → A4 → A5 → List (Nat × Value)) (hs : ∀ (a1 : A1) (a2 : A2) (a3 : A3) (a4 : A4) (a5 : A5), I a1 a2 a3 a4 a5 → (∀ (b1 : A1) (b2 : A2) (b3 : A3) (b4 : A4) (b5 : A5), I b1 b2 b3 b4 b5 → μ b1 b2 b3 b4 b5 < μ a1 a2 a3 a4 a5 → WW p l e R s m args below meth c Q cc nL ret own Ts D cy B N cells slots (G b1 b2 b3 b4 b5) pc (L b1 b2 b3 b4 b5) st) → WW p l e R s m args below meth c Q cc nL ret own Ts D cy B N cells slots (G a1 a2 a3 a4 a5) pc (L a1 a2 a3 a4 a5) st) : ∀ (a1 : A1) (a2 : A2) (a3 : A3) (a4 : A4) (a5 : A5), I a1 a2 a3 a4 a5 → WW p l e R s m args below meth c Q cc nL ret own Ts D cy B N cells slots (G a1 a2 a3 a4 a5) pc (L a1 a2 a3 a4 a5) st := by
  have key : ∀ (n : Nat) (a1 : A1) (a2 : A2) (a3 : A3) (a4 : A4) (a5 : A5), μ a1 a2 a3 a4 a5 < n → I a1 a2 a3 a4 a5 → WW p l e R s m args below meth c Q cc nL ret own Ts D cy B N cells slots (G a1 a2 a3 a4 a5) pc (L a1 a2 a3 a4 a5) st := by
    intro n
    induction n with
    | zero => intro a1 a2 a3 a4 a5 h; exact absurd h (Nat.not_lt_zero _)
    | succ n ih => intro a1 a2 a3 a4 a5 h hI; exact hs a1 a2 a3 a4 a5 hI (fun b1 b2 b3 b4 b5 hJ hlt => ih b1 b2 b3 b4 b5 (by omega) hJ)
  intro a1 a2 a3 a4 a5 hI
  exact key _ a1 a2 a3 a4 a5 (Nat.lt_succ_self _) hI
theorem w_loop6 {A1 A2 A3 A4 A5 A6 : Type} (I : A1 → A2 → A3 → A4 → A5 → A6 → Prop) (μ : A1 → A2 → A3 → A4 → A5 → A6 → Nat) (G : A1 → A2 → A3 → A4 → A5 → A6 → Nat → va_E) (L : A1 → A2 → A3 → A4 → A5 → A6 → List (Nat × Value)) (hs : ∀ (a1 : A1) (a2 : A2) (a3 : A3) (a4 : A4) (a5 : A5) (a6 : A6), I a1 a2 a3 a4 a5 a6 → (∀ (b1 : A1) (b2 : A2) (b3 : A3) (b4 : A4) (b5 : A5) (b6 : A6), I b1 b2 b3 b4 b5 b6 → μ b1 b2 b3 b4 b5 b6 < μ a1 a2 a3 a4 a5 a6 → WW p l e R s m args below meth c Q cc nL ret own Ts D cy B N cells slots (G b1 b2 b3 b4 b5 b6) pc (L b1 b2 b3 b4 b5 b6) st) → WW p l e R s m args below meth c Q cc nL ret own Ts D cy B N cells slots (G a1 a2 a3 a4 a5 a6) pc (L a1 a2 a3 a4 a5 a6) st) : ∀ (a1 : A1) (a2 : A2) (a3 : A3) (a4 : A4) (a5 : A5) (a6 : A6), I a1 a2 a3 a4 a5 a6 → WW p l e R s m args below meth c Q cc nL ret own Ts D cy B N cells slots (G a1 a2 a3 a4 a5 a6) pc (L a1 a2 a3 a4 a5 a6) st := by
  have key : ∀ (n : Nat) (a1 : A1) (a2 : A2) (a3 : A3) (a4 : A4) (a5 : A5) (a6 : A6), μ a1 a2 a3 a4 a5 a6 < n → I a1 a2 a3 a4 a5 a6 → WW p l e R s m args below meth c Q cc nL ret own Ts D cy B N cells slots (G a1 a2 a3 a4 a5 a6) pc (L a1 a2 a3 a4 a5 a6) st := by
    intro n
    induction n with
    | zero => intro a1 a2 a3 a4 a5 a6 h; exact absurd h (Nat.not_lt_zero _)
    | succ n ih => intro a1 a2 a3 a4 a5 a6 h hI; exact hs a1 a2 a3 a4 a5 a6 hI (fun b1 b2 b3 b4 b5 b6 hJ hlt => ih b1 b2 b3 b4 b5 b6 (by omega) hJ)
  intro a1 a2 a3 a4 a5 a6 hI
  exact key _ a1 a2 a3 a4 a5 a6 (Nat.lt_succ_self _) hI
theorem w_loop7 {A1 A2 A3 A4 A5 A6 A7 : Type} (I : A1 → A2 → A3 → A4 → A5 → A6 → A7 → Prop) (μ : A1 → A2 → A3 → A4 → A5 → A6 → A7 → Nat) (G : A1 → A2 → A3 → A4 → A5 → A6 → A7 → Nat → va_E) (L : A1 → A2 → A3 → A4 → A5 → A6 → A7 → List (Nat × Value)) (hs : ∀ (a1 : A1) (a2 : A2) (a3 : A3) (a4 : A4) (a5 : A5) (a6 : A6) (a7 : A7), I a1 a2 a3 a4 a5 a6 a7 → (∀ (b1 : A1) (b2 : A2) (b3 : A3) (b4 : A4) (b5 : A5) (b6 : A6) (b7 : A7), I b1 b2 b3 b4 b5 b6 b7 → μ b1 b2 b3 b4 b5 b6 b7 < μ a1 a2 a3 a4 a5 a6 a7 → WW p l e R s m args below meth c Q cc nL ret own Ts D cy B N cells slots (G b1 b2 b3 b4 b5 b6 b7) pc (L b1 b2 b3 b4 b5 b6 b7) st) → WW p l e R s m args below meth c Q cc nL ret own Ts D cy B N cells slots (G a1 a2 a3 a4 a5 a6 a7) pc (L a1 a2 a3 a4 a5 a6 a7) st) : ∀ (a1 : A1) (a2 : A2) (a3 : A3) (a4 : A4) (a5 : A5) (a6 : A6) (a7 : A7), I a1 a2 a3 a4 a5 a6 a7 → WW p l e R s m args below meth c Q cc nL ret own Ts D cy B N cells slots (G a1 a2 a3 a4 a5 a6 a7) pc (L a1 a2 a3 a4 a5 a6 a7) st := by
  have key : ∀ (n : Nat) (a1 : A1) (a2 : A2) (a3 : A3) (a4 : A4) (a5 : A5) (a6 : A6) (a7 : A7), μ a1 a2 a3 a4 a5 a6 a7 < n → I a1 a2 a3 a4 a5 a6 a7 → WW p l e R s m args below meth c Q cc nL ret own Ts D cy B N cells slots (G a1 a2 a3 a4 a5 a6 a7) pc (L a1 a2 a3 a4 a5 a6 a7) st := by
    intro n
    induction n with
    | zero => intro a1 a2 a3 a4 a5 a6 a7 h; exact absurd h (Nat.not_lt_zero _)
    | succ n ih => intro a1 a2 a3 a4 a5 a6 a7 h hI; exact hs a1 a2 a3 a4 a5 a6 a7 hI (fun b1 b2 b3 b4 b5 b6 b7 hJ hlt => ih b1 b2 b3 b4 b5 b6 b7 (by omega) hJ)
  intro a1 a2 a3 a4 a5 a6 a7 hI
  exact key _ a1 a2 a3 a4 a5 a6 a7 (Nat.lt_succ_self _) hI
theorem w_loop8 {A1 A2 A3 A4 A5 A6 A7 A8 : Type} (I : A1 → A2 → A3 → A4 → A5 → A6 → A7 → A8 → Prop) (μ : A1 → A2 → A3 → A4 → A5 → A6 → A7 → A8 → Nat) (G : A1 → A2 → A3 → A4 → A5 → A6 → A7 → A8 → Nat → va_E) (L : A1 → A2 → A3 → A4 → A5 → A6 → A7 → A8 → List (Nat × Value)) (hs : ∀ (a1 : A1) (a2 : A2) (a3 : A3) (a4 : A4) (a5 : A5) (a6 : A6) (a7 : A7) (a8 : A8), I a1 a2 a3 a4 a5 a6 a7 a8 → (∀ (b1 : A1) (b2 : A2) (b3 : A3) (b4 : A4) (b5 : A5) (b6 : A6) (b7 : A7) (b8 : A8), I b1 b2 b3 b4 b5 b6 b7 b8 → μ b1 b2 b3 b4 b5 b6 b7 b8 < μ a1 a2 a3 a4 a5 a6 a7 a8 → WW p l e R s m args below meth c Q cc nL ret own Ts D cy B N cells slots (G b1 b2 b3 b4 b5 b6 b7 b8) pc (L b1 b2 b3 b4 b5 b6 b7 b8) st) → WW p l e R s m args below meth c Q cc nL ret own Ts D cy B N cells slots (G a1 a2 a3 a4 a5 a6 a7 a8) pc (L a1 a2 a3 a4 a5 a6 a7 a8) st) : ∀ (a1 : A1) (a2 : A2) (a3 : A3) (a4 : A4) (a5 : A5) (a6 : A6) (a7 : A7) (a8 : A8), I a1 a2 a3 a4 a5 a6 a7 a8 → WW p l e R s m args below meth c Q cc nL ret own Ts D cy B N cells slots (G a1 a2 a3 a4 a5 a6 a7 a8) pc (L a1 a2 a3 a4 a5 a6 a7 a8) st := by
  have key : ∀ (n : Nat) (a1 : A1) (a2 : A2) (a3 : A3) (a4 : A4) (a5 : A5) (a6 : A6) (a7 : A7) (a8 : A8), μ a1 a2 a3 a4 a5 a6 a7 a8 < n → I a1 a2 a3 a4 a5 a6 a7 a8 → WW p l e R s m args below meth c Q cc nL ret own Ts D cy B N cells slots (G a1 a2 a3 a4 a5 a6 a7 a8) pc (L a1 a2 a3 a4 a5 a6 a7 a8) st := by
    intro n
    induction n with
    | zero => intro a1 a2 a3 a4 a5 a6 a7 a8 h; exact absurd h (Nat.not_lt_zero _)
    | succ n ih => intro a1 a2 a3 a4 a5 a6 a7 a8 h hI; exact hs a1 a2 a3 a4 a5 a6 a7 a8 hI (fun b1 b2 b3 b4 b5 b6 b7 b8 hJ hlt => ih b1 b2 b3 b4 b5 b6 b7 b8 (by omega) hJ)
  intro a1 a2 a3 a4 a5 a6 a7 a8 hI
  exact key _ a1 a2 a3 a4 a5 a6 a7 a8 (Nat.lt_succ_self _) hI
theorem w_loop9 {A1 A2 A3 A4 A5 A6 A7 A8 A9 : Type} (I : A1 → A2 → A3 → A4 → A5 → A6 → A7 → A8 → A9 → Prop) (μ : A1 → A2 → A3 → A4 → A5 → A6 → A7 → A8 → A9 → Nat) (G : A1 → A2 → A3 → A4 → A5 → A6 → A7 → A8 → A9 → Nat → va_E) (L : A1 → A2 → A3 → A4 → A5 → A6 → A7 → A8 → A9 → List (Nat × Value)) (hs : ∀ (a1 : A1) (a2 : A2) (a3 : A3) (a4 : A4) (a5 : A5) (a6 : A6) (a7 : A7) (a8 : A8) (a9 : A9), I a1 a2 a3 a4 a5 a6 a7 a8 a9 → (∀ (b1 : A1) (b2 : A2) (b3 : A3) (b4 : A4) (b5 : A5) (b6 : A6) (b7 : A7) (b8 : A8) (b9 : A9), I b1 b2 b3 b4 b5 b6 b7 b8 b9 → μ b1 b2 b3 b4 b5 b6 b7 b8 b9 < μ a1 a2 a3 a4 a5 a6 a7 a8 a9 → WW p l e R s m args below meth c Q cc nL ret own Ts D cy B N cells slots (G b1 b2 b3 b4 b5 b6 b7 b8 b9) pc (L b1 b2 b3 b4 b5 b6 b7 b8 b9) st) → WW p l e R s m args below meth c Q cc nL ret own Ts D cy B N cells slots (G a1 a2 a3 a4 a5 a6 a7 a8 a9) pc (L a1 a2 a3 a4 a5 a6 a7 a8 a9) st) : ∀ (a1 : A1) (a2 : A2) (a3 : A3) (a4 : A4) (a5 : A5) (a6 : A6) (a7 : A7) (a8 : A8) (a9 : A9), I a1 a2 a3 a4 a5 a6 a7 a8 a9 → WW p l e R s m args below meth c Q cc nL ret own Ts D cy B N cells slots (G a1 a2 a3 a4 a5 a6 a7 a8 a9) pc (L a1 a2 a3 a4 a5 a6 a7 a8 a9) st := by
  have key : ∀ (n : Nat) (a1 : A1) (a2 : A2) (a3 : A3) (a4 : A4) (a5 : A5) (a6 : A6) (a7 : A7) (a8 : A8) (a9 : A9), μ a1 a2 a3 a4 a5 a6 a7 a8 a9 < n → I a1 a2 a3 a4 a5 a6 a7 a8 a9 → WW p l e R s m args below meth c Q cc nL ret own Ts D cy B N cells slots (G a1 a2 a3 a4 a5 a6 a7 a8 a9) pc (L a1 a2 a3 a4 a5 a6 a7 a8 a9) st := by
    intro n
    induction n with
    | zero => intro a1 a2 a3 a4 a5 a6 a7 a8 a9 h; exact absurd h (Nat.not_lt_zero _)
    | succ n ih => intro a1 a2 a3 a4 a5 a6 a7 a8 a9 h hI; exact hs a1 a2 a3 a4 a5 a6 a7 a8 a9 hI (fun b1 b2 b3 b4 b5 b6 b7 b8 b9 hJ hlt => ih b1 b2 b3 b4 b5 b6 b7 b8 b9 (by omega) hJ)
  intro a1 a2 a3 a4 a5 a6 a7 a8 a9 hI
  exact key _ a1 a2 a3 a4 a5 a6 a7 a8 a9 (Nat.lt_succ_self _) hI
theorem w_loop10 {A1 A2 A3 A4 A5 A6 A7 A8 A9 A10 : Type} (I : A1 → A2 → A3 → A4 → A5 → A6 → A7 → A8 → A9 → A10 → Prop) (μ : A1 → A2 → A3 → A4 → A5 → A6 → A7 → A8 → A9 → A10 → Nat) (G : A1 → A2 → A3 → A4 → A5 → A6 → A7 → A8 → A9 → A10 → Nat → va_E) (L : A1 → A2 → A3 → A4 → A5 → A6 → A7 → A8 → A9 → A10 → List (Nat × Value)) (hs : ∀ (a1 : A1) (a2 : A2) (a3 : A3) (a4 : A4) (a5 : A5) (a6 : A6) (a7 : A7) (a8 : A8) (a9 : A9) (a10 : A10), I a1 a2 a3 a4 a5 a6 a7 a8 a9 a10 → (∀ (b1 : A1) (b2 : A2) (b3 : A3) (b4 : A4) (b5 : A5) (b6 : A6) (b7 : A7) (b8 : A8) (b9 : A9) (b10 : A10), I b1 b2 b3 b4 b5 b6 b7 b8 b9 b10 → μ b1 b2 b3 b4 b5 b6 b7 b8 b9 b10 < μ a1 a2 a3 a4 a5 a6 a7 a8 a9 a10 → WW p l e R s m args below meth c Q cc nL ret own Ts D cy B N cells slots (G b1 b2 b3 b4 b5 b6 b7 b8 b9 b10) pc (L b1 b2 b3 b4 b5 b6 b7 b8 b9 b10) st) → WW p l e R s m args below meth c Q cc nL ret own Ts D cy B N cells slots (G a1 a2 a3 a4 a5 a6 a7 a8 a9 a10) pc (L a1 a2 a3 a4 a5 a6 a7 a8 a9 a10) st) : ∀ (a1 : A1) (a2 : A2) (a3 : A3) (a4 : A4) (a5 : A5) (a6 : A6) (a7 : A7) (a8 : A8) (a9 : A9) (a10 : A10), I a1 a2 a3 a4 a5 a6 a7 a8 a9 a10 → WW p l e R s m args below meth c Q cc nL ret own Ts D cy B N cells slots (G a1 a2 a3 a4 a5 a6 a7 a8 a9 a10) pc (L a1 a2 a3 a4 a5 a6 a7 a8 a9 a10) st := by
  have key : ∀ (n : Nat) (a1 : A1) (a2 : A2) (a3 : A3) (a4 : A4) (a5 : A5) (a6 : A6) (a7 : A7) (a8 : A8) (a9 : A9) (a10 : A10), μ a1 a2 a3 a4 a5 a6 a7 a8 a9 a10 < n → I a1 a2 a3 a4 a5 a6 a7 a8 a9 a10 → WW p l e R s m args below meth c Q cc nL ret own Ts D cy B N cells slots (G a1 a2 a3 a4 a5 a6 a7 a8 a9 a10) pc (L a1 a2 a3 a4 a5 a6 a7 a8 a9 a10) st := by
    intro n
    induction n with
    | zero => intro a1 a2 a3 a4 a5 a6 a7 a8 a9 a10 h; exact absurd h (Nat.not_lt_zero _)
    | succ n ih => intro a1 a2 a3 a4 a5 a6 a7 a8 a9 a10 h hI; exact hs a1 a2 a3 a4 a5 a6 a7 a8 a9 a10 hI (fun b1 b2 b3 b4 b5 b6 b7 b8 b9 b10 hJ hlt => ih b1 b2 b3 b4 b5 b6 b7 b8 b9 b10 (by omega) hJ)
  intro a1 a2 a3 a4 a5 a6 a7 a8 a9 a10 hI
  exact key _ a1 a2 a3 a4 a5 a6 a7 a8 a9 a10 (Nat.lt_succ_self _) hI
theorem w_loop11 {A1 A2 A3 A4 A5 A6 A7 A8 A9 A10 A11 : Type} (I : A1 → A2 → A3 → A4 → A5 → A6 → A7 → A8 → A9 → A10 → A11 → Prop) (μ : A1 → A2 → A3 → A4 → A5 → A6 → A7 → A8 → A9 → A10 → A11 → Nat) (G : A1 → A2 → A3 → A4 → A5 → A6 → A7 → A8 → A9 → A10 → A11 → Nat → va_E) (L : A1 → A2 → A3 → A4 → A5 → A6 → A7 → A8 → A9 → A10 → A11 → List (Nat × Value)) (hs : ∀ (a1 : A1) (a2 : A2) (a3 : A3) (a4 : A4) (a5 : A5) (a6 : A6) (a7 : A7) (a8 : A8) (a9 : A9) (a10 : A10) (a11 : A11), I a1 a2 a3 a4 a5 a6 a7 a8 a9 a10 a11 → (∀ (b1 : A1) (b2 : A2) (b3 : A3) (b4 : A4) (b5 : A5) (b6 : A6) (b7 : A7) (b8 : A8) (b9 : A9) (b10 : A10) (b11 : A11), I b1 b2 b3 b4 b5 b6 b7 b8 b9 b10 b11 → μ b1 b2 b3 b4 b5 b6 b7 b8 b9 b10 b11 < μ a1 a2 a3 a4 a5 a6 a7 a8 a9 a10 a11 → WW p l e R s m args below meth c Q cc nL ret own Ts D cy B N cells slots (G b1 b2 b3 b4 b5 b6 b7 b8 b9 b10 b11) pc (L b1 b2 b3 b4 b5 b6 b7 b8 b9 b10 b11) st) → WW p l e R s m args below meth c Q cc nL ret own Ts D cy B N cells slots (G a1 a2 a3 a4 a5 a6 a7 a8 a9 a10 a11) pc (L a1 a2 a3 a4 a5 a6 a7 a8 a9 a10 a11) st) : ∀ (a1 : A1) (a2 : A2) (a3 : A3) (a4 : A4) (a5 : A5) (a6 : A6) (a7 : A7) (a8 : A8) (a9 : A9) (a10 : A10) (a11 : A11), I a1 a2 a3 a4 a5 a6 a7 a8 a9 a10 a11 → WW p l e R s m args below meth c Q cc nL ret own Ts D cy B N cells slots (G a1 a2 a3 a4 a5 a6 a7 a8 a9 a10 a11) pc (L a1 a2 a3 a4 a5 a6 a7 a8 a9 a10 a11) st := by
  have key : ∀ (n : Nat) (a1 : A1) (a2 : A2) (a3 : A3) (a4 : A4) (a5 : A5) (a6 : A6) (a7 : A7) (a8 : A8) (a9 : A9) (a10 : A10) (a11 : A11), μ a1 a2 a3 a4 a5 a6 a7 a8 a9 a10 a11 < n → I a1 a2 a3 a4 a5 a6 a7 a8 a9 a10 a11 → WW p l e R s m args below meth c Q cc nL ret own Ts D cy B N cells slots (G a1 a2 a3 a4 a5 a6 a7 a8 a9 a10 a11) pc (L a1 a2 a3 a4 a5 a6 a7 a8 a9 a10 a11) st := by
    intro n
    induction n with
    | zero => intro a1 a2 a3 a4 a5 a6 a7 a8 a9 a10 a11 h; exact absurd h (Nat.not_lt_zero _)
    | succ n ih => intro a1 a2 a3 a4 a5 a6 a7 a8 a9 a10 a11 h hI; exact hs a1 a2 a3 a4 a5 a6 a7 a8 a9 a10 a11 hI (fun b1 b2 b3 b4 b5 b6 b7 b8 b9 b10 b11 hJ hlt => ih b1 b2 b3 b4 b5 b6 b7 b8 b9 b10 b11 (by omega) hJ)
  intro a1 a2 a3 a4 a5 a6 a7 a8 a9 a10 a11 hI
  exact key _ a1 a2 a3 a4 a5 a6 a7 a8 a9 a10 a11 (Nat.lt_succ_self _) hI
theorem w_loop12 {A1 A2 A3 A4 A5 A6 A7 A8 A9 A10 A11 A12 : Type} (I : A1 → A2 → A3 → A4 → A5 → A6 → A7 → A8 → A9 → A10 → A11 → A12 → Prop) (μ : A1 → A2 → A3 → A4 → A5 → A6 → A7 → A8 → A9 → A10 → A11 → A12 → Nat) (G : A1 → A2 → A3 → A4 → A5 → A6 → A7 → A8 → A9 → A10 → A11 → A12 → Nat → va_E) (L : A1 → A2 → A3 → A4 → A5 → A6 → A7 → A8 → A9 → A10 → A11 → A12 → List (Nat × Value)) (hs : ∀ (a1 : A1) (a2 : A2) (a3 : A3) (a4 : A4) (a5 : A5) (a6 : A6) (a7 : A7) (a8 : A8) (a9 : A9) (a10 : A10) (a11 : A11) (a12 : A12), I a1 a2 a3 a4 a5 a6 a7 a8 a9 a10 a11 a12 → (∀ (b1 : A1) (b2 : A2) (b3 : A3) (b4 : A4) (b5 : A5) (b6 : A6) (b7 : A7) (b8 : A8) (b9 : A9) (b10 : A10) (b11 : A11) (b12 : A12), I b1 b2 b3 b4 b5 b6 b7 b8 b9 b10 b11 b12 → μ b1 b2 b3 b4 b5 b6 b7 b8 b9 b10 b11 b12 < μ a1 a2 a3 a4 a5 a6 a7 a8 a9 a10 a11 a12 → WW p l e R s m args below meth c Q cc nL ret own Ts D cy B N cells slots (G b1 b2 b3 b4 b5 b6 b7 b8 b9 b10 b11 b12) pc (L b1 b2 b3 b4 b5 b6 b7 b8 b9 b10 b11 b12) st) → WW p l e R s m args below meth c Q cc nL ret own Ts D cy B N cells slots (G a1 a2 a3 a4 a5 a6 a7 a8 a9 a10 a11 a12) pc (L a1 a2 a3 a4 a5 a6 a7 a8 a9 a10 a11 a12) st) : ∀ (a1 : A1) (a2 : A2) (a3 : A3) (a4 : A4) (a5 : A5) (a6 : A6) (a7 : A7) (a8 : A8) (a9 : A9) (a10 : A10) (a11 : A11) (a12 : A12), I a1 a2 a3 a4 a5 a6 a7 a8 a9 a10 a11 a12 → WW p l e R s m args below meth c Q cc nL ret own Ts D cy B N cells slots (G a1 a2 a3 a4 a5 a6 a7 a8 a9 a10 a11 a12) pc (L a1 a2 a3 a4 a5 a6 a7 a8 a9 a10 a11 a12) st := by
  have key : ∀ (n : Nat) (a1 : A1) (a2 : A2) (a3 : A3) (a4 : A4) (a5 : A5) (a6 : A6) (a7 : A7) (a8 : A8) (a9 : A9) (a10 : A10) (a11 : A11) (a12 : A12), μ a1 a2 a3 a4 a5 a6 a7 a8 a9 a10 a11 a12 < n → I a1 a2 a3 a4 a5 a6 a7 a8 a9 a10 a11 a12 → WW p l e R s m args below meth c Q cc nL ret own Ts D cy B N cells slots (G a1 a2 a3 a4 a5 a6 a7 a8 a9 a10 a11 a12) pc (L a1 a2 a3 a4 a5 a6 a7 a8 a9 a10 a11 a12) st := by
    intro n
    induction n with
    | zero => intro a1 a2 a3 a4 a5 a6 a7 a8 a9 a10 a11 a12 h; exact absurd h (Nat.not_lt_zero _)
    | succ n ih => intro a1 a2 a3 a4 a5 a6 a7 a8 a9 a10 a11 a12 h hI; exact hs a1 a2 a3 a4 a5 a6 a7 a8 a9 a10 a11 a12 hI (fun b1 b2 b3 b4 b5 b6 b7 b8 b9 b10 b11 b12 hJ hlt => ih b1 b2 b3 b4 b5 b6 b7 b8 b9 b10 b11 b12 (by omega) hJ)
  intro a1 a2 a3 a4 a5 a6 a7 a8 a9 a10 a11 a12 hI
  exact key _ a1 a2 a3 a4 a5 a6 a7 a8 a9 a10 a11 a12 (Nat.lt_succ_self _) hI
