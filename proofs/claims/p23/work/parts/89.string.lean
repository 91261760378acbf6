/-! ===== the first text: a String constant below the pool; String.length, charAt ===== -/
def ftx : String := "s;c8,1,0;c7,3,1;c9,6,2;c6,5,3;s;c5,1,0;c6,4,2;"
def ftL : List Int := [115, 59, 99, 56, 44, 49, 44, 48, 59, 99, 55, 44, 51, 44, 49, 59, 99, 57, 44, 54, 44, 50, 59, 99, 54, 44, 53, 44, 51, 59, 115, 59, 99, 53, 44, 49, 44, 48, 59, 99, 54, 44, 52, 44, 50, 59]
def ftA (i : Int) : Int := ftL.getD i.toNat 0
theorem ftA_rg : ∀ j : Nat, j < 46 → 32 ≤ ftA ((j : Nat) : Int) ∧ ftA ((j : Nat) : Int) ≤ 126 := by decide +kernel
/-- what the cells below the pool hold: COMPACT_STRINGS, the formatter of the bounds check, the String at sa, its bytes at va -/
def SFh (B sa va : Nat) (U : State) (H : Heap) : Prop := va_Z "java/lang/String" "COMPACT_STRINGS" "Z" (.int (zI 1)) (yA B) U H ∧ va_Zq "jdk/internal/util/Preconditions" "SIOOBE_FORMATTER" "Ljava/util/function/BiFunction;" (yA B) U H ∧ va_O "java/lang/String" sa (yA B) U H ∧ va_OF "java/lang/String" "coder" "B" (.int (zI 0)) sa (yA B) U H ∧ va_OF "java/lang/String" "value" "[B" (.ref va) sa (yA B) U H ∧ va_T .byte va 46 (fun j => .int (zI (ftA ((j : Nat) : Int)))) (yA B) U H
theorem SFh.moved {B sa va : Nat} {u U : State} {H : Heap} (hvm : u.vm.Alike U.vm) (h : SFh B sa va u H) : SFh B sa va U H := ⟨va_Z.moved hvm h.1, va_Zq.moved hvm h.2.1, va_O.moved hvm h.2.2.1, va_OF.moved hvm h.2.2.2.1, va_OF.moved hvm h.2.2.2.2.1, va_T.moved hvm h.2.2.2.2.2⟩
theorem SFh.kept {B sa va : Nat} {U : State} {H H1 : Heap} (h : SFh B sa va U H) (hq : ∀ a : Nat, a < H.size → ¬ yA B a → H1[a]? = H[a]?) : SFh B sa va U H1 := ⟨va_Z.kept h.1 hq, va_Zq.kept h.2.1 hq, va_O.kept h.2.2.1 hq, va_OF.kept h.2.2.2.1 hq, va_OF.kept h.2.2.2.2.1 hq, va_T.kept h.2.2.2.2.2 hq⟩
def SF (B sa va : Nat) (U : State) : Prop := SFh B sa va U U.heap ∧ vk_R RX10 53 ftx sa U
theorem SF.at {B sa va : Nat} {s U : State} {H : Heap} {locs : List Loc} (h : SF B sa va s) (hS : va_S (yA B) s.heap H locs) (hU : U.heap = H) (hW : s.WarmedH U.vm) : SF B sa va U := ⟨by rw [hU]; exact (h.1.kept hS.2.1).moved hW.alike, h.2.warm hW⟩
def Wd3 (D : va_G) (cy : Nat → ClassId) (B N : Nat) (g : Nat → va_E) (sa va : Nat) (U : State) : Prop := Wd D cy B N g U ∧ SF B sa va U
theorem Wd3_blind {D : va_G} {cy : Nat → ClassId} {B N sa va : Nat} {g : Nat → va_E} {av : List Value} : FrameBlind (va_Pc av (Wd3 D cy B N g sa va)) := fun a U _ _ q => ⟨q.1, ⟨q.2.1.1, q.2.1.2.1, va_K.moved (u := U) (Vm.Alike.refl U.vm) q.2.1.2.2⟩, SFh.moved (u := U) (Vm.Alike.refl U.vm) q.2.2.1, vk_R.same (u := U) rfl q.2.2.2⟩
def CTi3 (l : Launch) (y : MethodName) (ws : List Cond) (rm : Room) (D : va_G) (cy : Nat → ClassId) (B N : Nat) (g : Nat → va_E) (sa va : Nat) (av : List Value) (E : Int) : Prop := Met l y ws rm (va_Pc av (Wd3 D cy B N g sa va)) (va_Qi (fun r g' => r = zI E ∧ g' = g) (Wd D cy B N) (yA B)) 0 0 (yA B)
def CTv3 (l : Launch) (y : MethodName) (ws : List Cond) (rm : Room) (D : va_G) (cy : Nat → ClassId) (B N : Nat) (g : Nat → va_E) (sa va : Nat) (av : List Value) : Prop := Met l y ws rm (va_Pc av (Wd3 D cy B N g sa va)) (va_Qv (fun g' => g' = g) (Wd D cy B N) (yA B)) 0 0 (yA B)
section CT3
variable {p : Program} {l : Launch} {e : Env} {R : Room} {s : State} {m : MethodId} {args : Array Value} {below : List Frame} {meth : Method} {c : Code} {Q : State → Prop} {cc : ByteArray} {nL : Nat} {ret : Option FieldType} {own : String} {Ts : List Cond} {D : va_G} {cy : Nat → ClassId} {B N cells slots : Nat} {g : Nat → va_E} {pc : Nat} {lv : List (Nat × Value)} {st : List Value} {sa va : Nat}
theorem WW_of3 {y : MethodName} {ws ws' : List Cond} {rm : Room} {maxL mc ms : Nat} {av : List Value} {lvs : List (Nat × Value)} {Qc : Array Value → State → Outcome → State → Prop} (hy : plainName y.cls = true) (hw : ws = Cond.code y cc maxL ret :: ws') (hown : y.cls = own) (hlen : (lg_sl av).length ≤ maxL) (hlv : lv_args 0 av = lvs)
    (body : ∀ (p : Program) (e : Env) (s : State) (m : MethodId) (below : List Frame) (meth : Method) (c : Code), meth.name = y.name → SF B sa va s → WW p l e rm s m av.toArray below meth c (MQ below Qc av.toArray s mc ms (yA B)) cc maxL ret own ws D cy B N 0 0 g 0 lvs []) : Met l y ws rm (va_Pc av (Wd3 D cy B N g sa va)) Qc mc ms (yA B) := by
  refine Met.ofW (cc := cc) (maxL := maxL) (ret := ret) hy hw ?_
  intro p e s m args below meth c s₁ Bd hml hv
  obtain ⟨rfl, ⟨⟨hb, hz⟩, hP, hK⟩, hsf⟩ := hv
  have hl := lv_entry av hlen
  rw [lg_entry_eq]
  rw [hlv] at hl
  exact body p e s m below meth c (name_of_methodNamed Bd.named Bd.method).1 hsf ⟨Bd.exec, Bd.bytes, hml, hown ▸ findClass_of_methodNamed Bd.named, atoms_spec (ws := ws) Bd.pre, hK, Bd.returns, Bd.notSynchronized⟩ hb (by omega) s.heap [] _ hP va_S.rf hl
theorem w_calli3 {y : MethodName} {ws ws' : List Cond} {rm : Room} {bytes : ByteArray} {maxL index n : Nat} {rt : Option FieldType} {As rest : List Value} {E : Int} (hsf : SF B sa va s) (hM : CTi3 l y ws rm D cy B N g sa va (.ref sa :: As) E) (hG : GoodIn Ts (wsV own index RJ0 y ws)) (hw : ws = Cond.code y bytes maxL rt :: ws') (hrc : rm.cells = 0) (hrs : rm.slots = 0) (hy : y.cls = RJ0 ∧ y.cls ≠ "java/lang/invoke/MethodHandle" ∧ y.cls ≠ "java/lang/invoke/VarHandle" ∧ (parseMethodDescriptor y.desc).map (fun d => d.parameters.length) = some n) (hR : rm.frames + 1 ≤ R.frames ∧ 8 + (maxL + 11) + rm.locals ≤ R.locals) (hn : As.length = n) (hroom : (rest.map fun v => v.category).sum ≤ 8) (hcs : cells ≤ R.cells ∧ slots ≤ R.slots) (hd : decode cc pc = .ok (.invokevirtual index, 3)) (hst : st = As.reverse ++ .ref sa :: rest) (kk : WW p l e R s m args below meth c Q cc nL ret own Ts D cy B N cells slots g (pc + 3) lv (.int (zI E) :: rest)) : WW p l e R s m args below meth c Q cc nL ret own Ts D cy B N cells slots g pc lv st := by
  intro C hb hz H locs ls hP hS hl T hT X
  have hsz := pw_size X hT hP hb hz hS.1
  have hCF : CallFix p m c cc nL s args Ts own := ⟨C.1, C.2.1, C.2.2.1, C.2.2.2.1, C.2.2.2.2.1⟩
  have hW0 : ∀ U : State, U.heap = H → s.WarmedH U.vm → Wd3 D cy B N g sa va U := fun U hU hW => ⟨⟨⟨by rw [hU]; omega, by rw [hU]; exact hsz⟩, by rw [hU]; exact hP, va_K.moved hW.alike C.2.2.2.2.2.1⟩, hsf.at hS hU hW⟩
  have hrec : ∃ cell : Cell, H[sa]? = some cell ∧ cell.vm.isStatics = false ∧ s.vm.findClass RJ0 = some cell.cls := by
    obtain ⟨cell, h1, h2, h3, -⟩ := (hsf.1.2.2.1).kept hS.2.1
    exact ⟨cell, h1, h2, h3⟩
  refine va_calli (va_runV hCF hM (cwV n C.2.2.2.2.1 hG hw hrc hrs hy hR) ⟨Wd3_blind, hrec, fun U hU hW => ⟨rfl, hW0 U hU hW⟩⟩ rfl hn hl.1 hst (lv_room hroom) hd hcs) hS (fun q _ h => h) (fun q h => h) (fun r u t H1 locs1 ht hvm hw hB hz1 hk1 hS1 => ?_) T hT X
  obtain ⟨rfl, rfl⟩ := hw
  exact kk C hb hz H1 locs1 ls (by rw [← ht]; exact hB.2.1) hS1 hl
theorem w_calli3S {y : MethodName} {ws ws' : List Cond} {rm : Room} {bytes : ByteArray} {maxL index n : Nat} {rt : Option FieldType} {As rest : List Value} {E : Int} (hsf : SF B sa va s) (hM : CTi3 l y ws rm D cy B N g sa va As E) (hG : GoodIn Ts (va_wsS own index y ws)) (hw : ws = Cond.code y bytes maxL rt :: ws') (hrc : rm.cells = 0) (hrs : rm.slots = 0) (hy : y.cls ≠ "java/lang/invoke/MethodHandle" ∧ y.cls ≠ "java/lang/invoke/VarHandle" ∧ (parseMethodDescriptor y.desc).map (fun d => d.parameters.length) = some n) (hR : rm.frames + 1 ≤ R.frames ∧ 8 + (maxL + 11) + rm.locals ≤ R.locals) (hn : As.length = n) (hroom : (rest.map fun v => v.category).sum ≤ 8) (hcs : cells ≤ R.cells ∧ slots ≤ R.slots) (hd : decode cc pc = .ok (.invokestatic index, 3)) (hst : st = As.reverse ++ rest) (kk : WW p l e R s m args below meth c Q cc nL ret own Ts D cy B N cells slots g (pc + 3) lv (.int (zI E) :: rest)) : WW p l e R s m args below meth c Q cc nL ret own Ts D cy B N cells slots g pc lv st := by
  intro C hb hz H locs ls hP hS hl T hT X
  have hsz := pw_size X hT hP hb hz hS.1
  have hCF : CallFix p m c cc nL s args Ts own := ⟨C.1, C.2.1, C.2.2.1, C.2.2.2.1, C.2.2.2.2.1⟩
  have hW0 : ∀ U : State, U.heap = H → s.WarmedH U.vm → Wd3 D cy B N g sa va U := fun U hU hW => ⟨⟨⟨by rw [hU]; omega, by rw [hU]; exact hsz⟩, by rw [hU]; exact hP, va_K.moved hW.alike C.2.2.2.2.2.1⟩, hsf.at hS hU hW⟩
  refine va_calli (va_runS hCF hM (va_cwS n C.2.2.2.2.1 hG hw hrc hrs hy hR) ⟨Wd3_blind, fun U hU hW => ⟨rfl, hW0 U hU hW⟩⟩ rfl hn hl.1 hst (lv_room hroom) hd hcs) hS (fun q _ h => h) (fun q h => h) (fun r u t H1 locs1 ht hvm hw hB hz1 hk1 hS1 => ?_) T hT X
  obtain ⟨rfl, rfl⟩ := hw
  exact kk C hb hz H1 locs1 ls (by rw [← ht]; exact hB.2.1) hS1 hl
theorem w_callv3S {y : MethodName} {ws ws' : List Cond} {rm : Room} {bytes : ByteArray} {maxL index n : Nat} {rt : Option FieldType} {As rest : List Value} (hsf : SF B sa va s) (hM : CTv3 l y ws rm D cy B N g sa va As) (hG : GoodIn Ts (va_wsS own index y ws)) (hw : ws = Cond.code y bytes maxL rt :: ws') (hrc : rm.cells = 0) (hrs : rm.slots = 0) (hy : y.cls ≠ "java/lang/invoke/MethodHandle" ∧ y.cls ≠ "java/lang/invoke/VarHandle" ∧ (parseMethodDescriptor y.desc).map (fun d => d.parameters.length) = some n) (hR : rm.frames + 1 ≤ R.frames ∧ 8 + (maxL + 11) + rm.locals ≤ R.locals) (hn : As.length = n) (hroom : (rest.map fun v => v.category).sum ≤ 8) (hcs : cells ≤ R.cells ∧ slots ≤ R.slots) (hd : decode cc pc = .ok (.invokestatic index, 3)) (hst : st = As.reverse ++ rest) (kk : WW p l e R s m args below meth c Q cc nL ret own Ts D cy B N cells slots g (pc + 3) lv rest) : WW p l e R s m args below meth c Q cc nL ret own Ts D cy B N cells slots g pc lv st := by
  intro C hb hz H locs ls hP hS hl T hT X
  have hsz := pw_size X hT hP hb hz hS.1
  have hCF : CallFix p m c cc nL s args Ts own := ⟨C.1, C.2.1, C.2.2.1, C.2.2.2.1, C.2.2.2.2.1⟩
  have hW0 : ∀ U : State, U.heap = H → s.WarmedH U.vm → Wd3 D cy B N g sa va U := fun U hU hW => ⟨⟨⟨by rw [hU]; omega, by rw [hU]; exact hsz⟩, by rw [hU]; exact hP, va_K.moved hW.alike C.2.2.2.2.2.1⟩, hsf.at hS hU hW⟩
  refine va_callv (va_runS hCF hM (va_cwS n C.2.2.2.2.1 hG hw hrc hrs hy hR) ⟨Wd3_blind, fun U hU hW => ⟨rfl, hW0 U hU hW⟩⟩ rfl hn hl.1 hst (lv_room hroom) hd hcs) hS (fun q _ h => h) (fun q h => h) (fun u t H1 locs1 ht hvm hw hB hz1 hk1 hS1 => ?_) T hT X
  subst hw
  exact kk C hb hz H1 locs1 ls (by rw [← ht]; exact hB.2.1) hS1 hl
theorem w_ldcS {index q : Nat} {tx : String} (hZ : vk_R own index tx q s) (hd : decode cc pc = .ok (.ldc index, 2)) (kk : WW p l e R s m args below meth c Q cc nL ret own Ts D cy B N cells slots g (pc + 2) lv (.ref q :: st)) : WW p l e R s m args below meth c Q cc nL ret own Ts D cy B N cells slots g pc lv st := fun C hb hz H locs ls hP hS hl => va_ldcS C.1 C.2.1 C.2.2.2.1 hZ hd (kk C hb hz H locs ls hP hS hl)
theorem w_gets {C0 n d : String} {v : Value} {index : Nat} (hZ : va_Z C0 n d v (yA B) s s.heap) (hl1 : Cond.fieldLink own index C0 n d ∈ Ts) (hd : decode cc pc = .ok (.getstatic index, 3)) (kk : WW p l e R s m args below meth c Q cc nL ret own Ts D cy B N cells slots g (pc + 3) lv (v :: st)) : WW p l e R s m args below meth c Q cc nL ret own Ts D cy B N cells slots g pc lv st := fun C hb hz H locs ls hP hS hl => va_gets C.1 C.2.1 hZ hS C.2.2.2.1 (C.2.2.2.2.1 _ hl1) (fun _ h => h) hd (kk C hb hz H locs ls hP hS hl)
theorem w_getO {o n d : String} {v : Value} {index q : Nat} (hZ : va_OF o n d v q (yA B) s s.heap) (hl1 : Cond.fieldLink own index o n d ∈ Ts) (hd : decode cc pc = .ok (.getfield index, 3)) (kk : WW p l e R s m args below meth c Q cc nL ret own Ts D cy B N cells slots g (pc + 3) lv (v :: st)) : WW p l e R s m args below meth c Q cc nL ret own Ts D cy B N cells slots g pc lv (.ref q :: st) := fun C hb hz H locs ls hP hS hl => vk_getf C.1 C.2.1 hZ hS C.2.2.2.1 (C.2.2.2.2.1 _ hl1) (fun _ h => h) hd (kk C hb hz H locs ls hP hS hl)
theorem w_tlen {t n : Nat} {f : Nat → Value} (hT : va_T .byte t n f (yA B) s s.heap) (hd : decode cc pc = .ok (.arraylength, 1)) (kk : WW p l e R s m args below meth c Q cc nL ret own Ts D cy B N cells slots g (pc + 1) lv (.int (zI ((n : Nat) : Int)) :: st)) : WW p l e R s m args below meth c Q cc nL ret own Ts D cy B N cells slots g pc lv (.ref t :: st) := fun C hb hz H locs ls hP hS hl => va_tlen C.1 C.2.1 hT hS (v := zI ((n : Nat) : Int)) (zI_ofNat n).symm hd (kk C hb hz H locs ls hP hS hl)
theorem w_tb {t n : Nat} {F : Int → Int} {z : Int} (hT : va_T .byte t n (fun j => .int (zI (F ((j : Nat) : Int)))) (yA B) s s.heap) (hz0 : 0 ≤ z ∧ z < n ∧ z < 2147483648) (hd : decode cc pc = .ok (.baload, 1)) (kk : WW p l e R s m args below meth c Q cc nL ret own Ts D cy B N cells slots g (pc + 1) lv (.int (zI (F z)) :: st)) : WW p l e R s m args below meth c Q cc nL ret own Ts D cy B N cells slots g pc lv (.int (zI z) :: .ref t :: st) := fun C hb hz H locs ls hP hS hl => va_tb C.1 C.2.1 hT hS (zI_in hz0) (v := .int (zI (F z))) (by show Value.int (zI (F (((zI z).toNatClampNeg : Nat) : Int))) = _; rw [zI_nat (by omega), Int.toNat_of_nonneg hz0.1]) hd (kk C hb hz H locs ls hP hS hl)
theorem w_andM {a b r : Int} (h : zI a &&& zI b = zI r) (hd : decode cc pc = .ok (.iand, 1)) (kk : WW p l e R s m args below meth c Q cc nL ret own Ts D cy B N cells slots g (pc + 1) lv (.int (zI r) :: st)) : WW p l e R s m args below meth c Q cc nL ret own Ts D cy B N cells slots g pc lv (.int (zI b) :: .int (zI a) :: st) := fun C hb hz H locs ls hP hS hl => lv_iand C.1 C.2.1 hd (by rw [h]; exact kk C hb hz H locs ls hP hS hl)
theorem w_shrM {a b r : Int} (h : zI a >>> (zI b &&& 31) = zI r) (hd : decode cc pc = .ok (.ishr, 1)) (kk : WW p l e R s m args below meth c Q cc nL ret own Ts D cy B N cells slots g (pc + 1) lv (.int (zI r) :: st)) : WW p l e R s m args below meth c Q cc nL ret own Ts D cy B N cells slots g pc lv (.int (zI b) :: .int (zI a) :: st) := fun C hb hz H locs ls hP hS hl => lv_ishr C.1 C.2.1 hd (by rw [h]; exact kk C hb hz H locs ls hP hS hl)
theorem c_J0_coder : CTi3 l yJ0_coder_7d493 wsJ0_coder_7d493 (rmo 0 0) D cy B N g sa va [.ref sa] 0 := by
  refine WW_of3 (cc := cJ0_coder_7d493) (maxL := 1) (ret := some .byte) (own := RJ0) (by decide) rfl rfl (Nat.le_of_ble_eq_true rfl) rfl ?_
  intro pp ee ss mm bl me co hmn hsf
  refine w_gets hsf.1.1 (List.mem_of_getElem? (i := 1) rfl) dJ0_coder_7d493_0 ?_
  refine w_if_eq 13 dJ0_coder_7d493_3 (by decide) (by omega) (fun h => absurd h (by decide)) (fun _ => ?_)
  refine w_aload_n dJ0_coder_7d493_6 rfl 0 rfl ?_
  refine w_getO hsf.1.2.2.2.1 (List.mem_of_getElem? (i := 2) rfl) dJ0_coder_7d493_7 ?_
  refine w_goto 14 dJ0_coder_7d493_10 (by decide) ?_
  exact w_zret dJ0_coder_7d493_14 rfl rfl rfl rfl
theorem c_J0_isLatin1 : CTi3 l yJ0_isLatin1_aae02 wsJ0_isLatin1_aae02 (rmo 0 0) D cy B N g sa va [.ref sa] 1 := by
  refine WW_of3 (cc := cJ0_isLatin1_aae02) (maxL := 1) (ret := some .boolean) (own := RJ0) (by decide) rfl rfl (Nat.le_of_ble_eq_true rfl) rfl ?_
  intro pp ee ss mm bl me co hmn hsf
  refine w_gets hsf.1.1 (List.mem_of_getElem? (i := 1) rfl) dJ0_isLatin1_aae02_0 ?_
  refine w_if_eq 17 dJ0_isLatin1_aae02_3 (by decide) (by omega) (fun h => absurd h (by decide)) (fun _ => ?_)
  refine w_aload_n dJ0_isLatin1_aae02_6 rfl 0 rfl ?_
  refine w_getO hsf.1.2.2.2.1 (List.mem_of_getElem? (i := 2) rfl) dJ0_isLatin1_aae02_7 ?_
  refine w_if_ne 17 dJ0_isLatin1_aae02_10 (by decide) (by omega) (fun h => absurd rfl h) (fun _ => ?_)
  refine w_iconst dJ0_isLatin1_aae02_13 ?_
  refine w_goto 18 dJ0_isLatin1_aae02_14 (by decide) ?_
  exact w_zret dJ0_isLatin1_aae02_18 rfl rfl rfl rfl
theorem c_J0_length : CTi3 l yJ0_length_8abf5 wsJ0_length_8abf5 (rmo 1 20) D cy B N g sa va [.ref sa] 46 := by
  refine WW_of3 (cc := cJ0_length_8abf5) (maxL := 1) (ret := some .int) (own := RJ0) (by decide) rfl rfl (Nat.le_of_ble_eq_true rfl) rfl ?_
  intro pp ee ss mm bl me co hmn hsf
  refine w_aload_n dJ0_length_8abf5_0 rfl 0 rfl ?_
  refine w_getO hsf.1.2.2.2.2.1 (List.mem_of_getElem? (i := 1) rfl) dJ0_length_8abf5_1 ?_
  refine w_tlen hsf.1.2.2.2.2.2 dJ0_length_8abf5_4 ?_
  refine w_aload_n dJ0_length_8abf5_5 rfl 0 rfl ?_
  refine w_calli3 (As := []) (rest := [.int (zI ((46 : Nat) : Int))]) (n := 0) hsf c_J0_coder gJ0_length_8abf5_J0_coder_7d493 rfl rfl rfl (by decide +kernel) ⟨Nat.le_of_ble_eq_true rfl, Nat.le_of_ble_eq_true rfl⟩ rfl (Nat.le_of_ble_eq_true rfl) ⟨Nat.zero_le _, Nat.zero_le _⟩ dJ0_length_8abf5_6 rfl ?_
  refine w_shrM (r := 46) (by decide) dJ0_length_8abf5_9 ?_
  exact w_iret dJ0_length_8abf5_10 rfl rfl rfl
theorem c_J3_n {z n : Int} (hz : 0 ≤ z ∧ z < n ∧ n < 2147483648) : CTi l yJ3_checkIndex_8e157 wsJ3_checkIndex_8e157 (rmo 0 0) D cy B N g [.int (zI z), .int (zI n), .null] z (fun g' => g' = g) := by
  refine WW_of (cc := cJ3_checkIndex_8e157) (maxL := 3) (ret := some .int) (own := RJ3) (by decide) rfl rfl (Nat.le_of_ble_eq_true rfl) rfl ?_
  intro pp ee ss mm bl me co hmn
  refine w_iload_n dJ3_checkIndex_8e157_0 rfl 0 rfl ?_
  refine w_if_lt 9 dJ3_checkIndex_8e157_1 (by decide) (by omega) (fun h => absurd h (by omega)) (fun _ => ?_)
  refine w_iload_n dJ3_checkIndex_8e157_4 rfl 0 rfl ?_
  refine w_iload_n dJ3_checkIndex_8e157_5 rfl 1 rfl ?_
  refine w_icmp_lt 16 dJ3_checkIndex_8e157_6 (by decide) (by omega) (by omega) (fun _ => ?_) (fun h => absurd hz.2.1 h)
  refine w_iload_n dJ3_checkIndex_8e157_16 rfl 0 rfl ?_
  exact w_iret dJ3_checkIndex_8e157_17 rfl rfl rfl
theorem c_J3_r {z n : Int} {t : Nat} (hz : 0 ≤ z ∧ z < n ∧ n < 2147483648) : CTi l yJ3_checkIndex_8e157 wsJ3_checkIndex_8e157 (rmo 0 0) D cy B N g [.int (zI z), .int (zI n), .ref t] z (fun g' => g' = g) := by
  refine WW_of (cc := cJ3_checkIndex_8e157) (maxL := 3) (ret := some .int) (own := RJ3) (by decide) rfl rfl (Nat.le_of_ble_eq_true rfl) rfl ?_
  intro pp ee ss mm bl me co hmn
  refine w_iload_n dJ3_checkIndex_8e157_0 rfl 0 rfl ?_
  refine w_if_lt 9 dJ3_checkIndex_8e157_1 (by decide) (by omega) (fun h => absurd h (by omega)) (fun _ => ?_)
  refine w_iload_n dJ3_checkIndex_8e157_4 rfl 0 rfl ?_
  refine w_iload_n dJ3_checkIndex_8e157_5 rfl 1 rfl ?_
  refine w_icmp_lt 16 dJ3_checkIndex_8e157_6 (by decide) (by omega) (by omega) (fun _ => ?_) (fun h => absurd hz.2.1 h)
  refine w_iload_n dJ3_checkIndex_8e157_16 rfl 0 rfl ?_
  exact w_iret dJ3_checkIndex_8e157_17 rfl rfl rfl
theorem c_J0_checkIndex {z n : Int} (hz : 0 ≤ z ∧ z < n ∧ n < 2147483648) : CTv3 l yJ0_checkIndex_df160 wsJ0_checkIndex_df160 (rmo 1 22) D cy B N g sa va [.int (zI z), .int (zI n)] := by
  refine WW_of3 (cc := cJ0_checkIndex_df160) (maxL := 2) (ret := none) (own := RJ0) (by decide) rfl rfl (Nat.le_of_ble_eq_true rfl) rfl ?_
  intro pp ee ss mm bl me co hmn hsf
  refine w_iload_n dJ0_checkIndex_df160_0 rfl 0 rfl ?_
  refine w_iload_n dJ0_checkIndex_df160_1 rfl 1 rfl ?_
  rcases hsf.1.2.1 with h9 | ⟨t, h9⟩
  · refine w_gets h9 (List.mem_of_getElem? (i := 1) rfl) dJ0_checkIndex_df160_2 ?_
    refine w_calliS (As := [.int (zI z), .int (zI n), .null]) (rest := []) (n := 3) (c_J3_n hz) gJ0_checkIndex_df160_J3_checkIndex_8e157 rfl rfl rfl (by decide +kernel) ⟨Nat.le_of_ble_eq_true rfl, Nat.le_of_ble_eq_true rfl⟩ rfl (Nat.le_of_ble_eq_true rfl) ⟨Nat.zero_le _, Nat.zero_le _⟩ dJ0_checkIndex_df160_5 rfl (fun g' hg => ?_)
    subst hg
    refine w_pop dJ0_checkIndex_df160_8 rfl ?_
    exact w_vret dJ0_checkIndex_df160_9 rfl rfl
  · refine w_gets h9 (List.mem_of_getElem? (i := 1) rfl) dJ0_checkIndex_df160_2 ?_
    refine w_calliS (As := [.int (zI z), .int (zI n), .ref t]) (rest := []) (n := 3) (c_J3_r hz) gJ0_checkIndex_df160_J3_checkIndex_8e157 rfl rfl rfl (by decide +kernel) ⟨Nat.le_of_ble_eq_true rfl, Nat.le_of_ble_eq_true rfl⟩ rfl (Nat.le_of_ble_eq_true rfl) ⟨Nat.zero_le _, Nat.zero_le _⟩ dJ0_checkIndex_df160_5 rfl (fun g' hg => ?_)
    subst hg
    refine w_pop dJ0_checkIndex_df160_8 rfl ?_
    exact w_vret dJ0_checkIndex_df160_9 rfl rfl
theorem and255 : ∀ j : Nat, j < 46 → zI (ftA ((j : Nat) : Int)) &&& zI 255 = zI (ftA ((j : Nat) : Int)) := by decide +kernel
theorem c_J1_charAt {z : Int} (hz : 0 ≤ z ∧ z < 46) : CTi3 l yJ1_charAt_3b067 wsJ1_charAt_3b067 (rmo 2 43) D cy B N g sa va [.ref va, .int (zI z)] (ftA z) := by
  refine WW_of3 (cc := cJ1_charAt_3b067) (maxL := 2) (ret := some .char) (own := RJ1) (by decide) rfl rfl (Nat.le_of_ble_eq_true rfl) rfl ?_
  intro pp ee ss mm bl me co hmn hsf
  have h1 := ftA_rg z.toNat (by omega)
  have h2 := and255 z.toNat (by omega)
  rw [Int.toNat_of_nonneg hz.1] at h1 h2
  refine w_iload_n dJ1_charAt_3b067_0 rfl 1 rfl ?_
  refine w_aload_n dJ1_charAt_3b067_1 rfl 0 rfl ?_
  refine w_tlen hsf.1.2.2.2.2.2 dJ1_charAt_3b067_2 ?_
  refine w_callv3S (As := [.int (zI z), .int (zI ((46 : Nat) : Int))]) (rest := []) (n := 2) hsf (c_J0_checkIndex ⟨hz.1, by omega, by omega⟩) gJ1_charAt_3b067_J0_checkIndex_df160 rfl rfl rfl (by decide +kernel) ⟨Nat.le_of_ble_eq_true rfl, Nat.le_of_ble_eq_true rfl⟩ rfl (Nat.le_of_ble_eq_true rfl) ⟨Nat.zero_le _, Nat.zero_le _⟩ dJ1_charAt_3b067_3 rfl ?_
  refine w_aload_n dJ1_charAt_3b067_6 rfl 0 rfl ?_
  refine w_iload_n dJ1_charAt_3b067_7 rfl 1 rfl ?_
  refine w_tb (F := ftA) hsf.1.2.2.2.2.2 ⟨hz.1, by omega, by omega⟩ dJ1_charAt_3b067_8 ?_
  refine w_sipush dJ1_charAt_3b067_9 (by decide) ?_
  refine w_andM h2 dJ1_charAt_3b067_12 ?_
  refine w_i2c dJ1_charAt_3b067_13 (by omega) ?_
  exact w_zret dJ1_charAt_3b067_14 rfl (nar_c (by omega)) rfl rfl
theorem c_J0_charAt {z : Int} (hz : 0 ≤ z ∧ z < 46) : CTi3 l yJ0_charAt_5068e wsJ0_charAt_5068e (rmo 3 64) D cy B N g sa va [.ref sa, .int (zI z)] (ftA z) := by
  refine WW_of3 (cc := cJ0_charAt_5068e) (maxL := 2) (ret := some .char) (own := RJ0) (by decide) rfl rfl (Nat.le_of_ble_eq_true rfl) rfl ?_
  intro pp ee ss mm bl me co hmn hsf
  have h1 := ftA_rg z.toNat (by omega)
  rw [Int.toNat_of_nonneg hz.1] at h1
  refine w_aload_n dJ0_charAt_5068e_0 rfl 0 rfl ?_
  refine w_calli3 (As := []) (rest := []) (n := 0) hsf c_J0_isLatin1 gJ0_charAt_5068e_J0_isLatin1_aae02 rfl rfl rfl (by decide +kernel) ⟨Nat.le_of_ble_eq_true rfl, Nat.le_of_ble_eq_true rfl⟩ rfl (Nat.le_of_ble_eq_true rfl) ⟨Nat.zero_le _, Nat.zero_le _⟩ dJ0_charAt_5068e_1 rfl ?_
  refine w_if_eq 16 dJ0_charAt_5068e_4 (by decide) (by omega) (fun h => absurd h (by decide)) (fun _ => ?_)
  refine w_aload_n dJ0_charAt_5068e_7 rfl 0 rfl ?_
  refine w_getO hsf.1.2.2.2.2.1 (List.mem_of_getElem? (i := 1) rfl) dJ0_charAt_5068e_8 ?_
  refine w_iload_n dJ0_charAt_5068e_11 rfl 1 rfl ?_
  refine w_calli3S (As := [.ref va, .int (zI z)]) (rest := []) (n := 2) hsf (c_J1_charAt hz) gJ0_charAt_5068e_J1_charAt_3b067 rfl rfl rfl (by decide +kernel) ⟨Nat.le_of_ble_eq_true rfl, Nat.le_of_ble_eq_true rfl⟩ rfl (Nat.le_of_ble_eq_true rfl) ⟨Nat.zero_le _, Nat.zero_le _⟩ dJ0_charAt_5068e_12 rfl ?_
  exact w_zret dJ0_charAt_5068e_15 rfl (nar_c (by omega)) rfl rfl
end CT3
