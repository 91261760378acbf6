/-! ===== what the class's cells hold; the text parsed depends on its letters alone ===== -/
theorem figA_c {n : Nat} {L L' : Int → Int} (h : inA n L = inA n L') : figA n L = figA n L' := funext fun p => by
  unfold figA
  rw [h]
theorem numV_c {n : Nat} {L L' : Int → Int} (h : inA n L = inA n L') : numV n L = numV n L' := funext fun p => by
  unfold numV
  rw [figA_c h]
theorem numP_c {n : Nat} {L L' : Int → Int} (h : inA n L = inA n L') : numP n L = numP n L' := funext fun p => by
  unfold numP
  rw [figA_c h]
theorem skp_c {n : Nat} {L L' : Int → Int} (h : inA n L = inA n L') : skp n L = skp n L' := funext fun x => funext fun p => by
  unfold skp
  rw [h]
theorem i2_c {n : Nat} {L L' : Int → Int} (h : inA n L = inA n L') : i2 n L = i2 n L' := funext fun p => by
  unfold i2
  rw [numP_c h]
theorem i3_c {n : Nat} {L L' : Int → Int} (h : inA n L = inA n L') : i3 n L = i3 n L' := funext fun p => by
  unfold i3
  rw [skp_c h, i2_c h]
theorem i4_c {n : Nat} {L L' : Int → Int} (h : inA n L = inA n L') : i4 n L = i4 n L' := funext fun p => by
  unfold i4
  rw [numP_c h, i3_c h]
theorem i5_c {n : Nat} {L L' : Int → Int} (h : inA n L = inA n L') : i5 n L = i5 n L' := funext fun p => by
  unfold i5
  rw [skp_c h, i4_c h]
theorem i6_c {n : Nat} {L L' : Int → Int} (h : inA n L = inA n L') : i6 n L = i6 n L' := funext fun p => by
  unfold i6
  rw [numP_c h, i5_c h]
theorem i7_c {n : Nat} {L L' : Int → Int} (h : inA n L = inA n L') : i7 n L = i7 n L' := funext fun p => by
  unfold i7
  rw [skp_c h, i6_c h]
theorem iT_c {n : Nat} {L L' : Int → Int} (h : inA n L = inA n L') : iT n L = iT n L' := funext fun p => by
  unfold iT
  rw [numV_c h]
theorem iX_c {n : Nat} {L L' : Int → Int} (h : inA n L = inA n L') : iX n L = iX n L' := funext fun p => by
  unfold iX
  rw [numV_c h, i3_c h]
theorem iV_c {n : Nat} {L L' : Int → Int} (h : inA n L = inA n L') : iV n L = iV n L' := funext fun p => by
  unfold iV
  rw [numV_c h, i5_c h]
theorem psI_c {n : Nat} {L L' : Int → Int} (h : inA n L = inA n L') (p : Int) (S : St) : psI n L p S = psI n L' p S := by
  simp only [psI, vcol, h, i2_c h, i4_c h, i6_c h, i7_c h, iT_c h, iX_c h, iV_c h]
theorem psF_c {n : Nat} {L L' : Int → Int} (h : inA n L = inA n L') : ∀ (f : Nat) (p : Int) (S : St), psF n L f p S = psF n L' f p S
  | 0, _, _ => rfl
  | f + 1, p, S => by
    rw [psF, psF, psI_c h]
    split
    · split
      · rfl
      · exact psF_c h f _ _
    · rfl
theorem inA_of {n : Nat} {L L' : Int → Int} (h : ∀ i : Int, 0 ≤ i → i < n → L i = L' i) : inA n L = inA n L' := funext fun j => by
  unfold inA
  split
  · next h1 => exact h j h1.1 h1.2
  · rfl
theorem ft_ps0 : psF 46 ftA 200 0 [] = (-1, firstS) := by decide +kernel
theorem ft_ps {n : Nat} {L : Int → Int} (hn : n = 46) (h : ∀ j : Int, 0 ≤ j → j < n → L j = ftA j) : psF n L 200 0 [] = (-1, firstS) := by
  subst hn
  rw [psF_c (inA_of h), ft_ps0]
/-- the past states P (the latest first) by the class's rows: each from the state behind it, one stratum put back -/
def PC (wh : Int → Int) (Rw : Nat → Int → Int) (nx : Nat) (S : St) (P : List St) : Prop := P.length ≤ 6 ∧ ∀ i : Nat, i < P.length → ∃ k : Nat, k < ((S :: P).getD i []).length ∧ wh (((nx + 5 - i) % 6 : Nat) : Int) = ((k : Nat) : Int) ∧ P.getD i [] = ((S :: P).getD i []).set k (put (((S :: P).getD i []).getD k []) (Rw ((nx + 5 - i) % 6)))
theorem PC_nil {wh : Int → Int} {Rw : Nat → Int → Int} {nx : Nat} {S : St} : PC wh Rw nx S [] := ⟨by decide, fun i hi => absurd hi (Nat.not_lt_zero i)⟩
def vCW (cy : Nat → ClassId) (B : Nat) (g : Nat → va_E) (n : Nat) (L : Int → Int) (la : Nat) (Cn : Nat → Int → Int) (sr : Nat) (pl : Int) (dn : Nat → Nat) (dv : Nat → Int) (dT dX dV : Nat → Int → Int) (dW : Nat → Nat → Int → Int) (nx sz : Nat) (wh : Int → Int) (Rw : Nat → Int → Int) (jW jA : Int → Int) (jg : Int) (cs : Nat → List Co) (Ms : Nat → Int) (fs : Nat → Nat) : Prop := vTop cy B g 0 la ∧ vSA cy B g 62 ∧ vText cy B g 16 n L ∧ vReader cy B g 18 sr pl ∧ vDr cy B g (18 + 2) 1 dn dv dT dX dV dW ∧ vSets cy B g 1 Cn ∧ vPast cy B g 50 wh Rw nx sz ∧ vJoint cy B g 59 jW jA jg ∧ vSWs cy B g 63 cs Ms fs
/-- the class's cells hold: a text of n letters L, the strata S, the past states P; versions M at most -/
def CW (cy : Nat → ClassId) (B : Nat) (g : Nat → va_E) (n : Nat) (L : Int → Int) (S : St) (P : List St) (M : Int) : Prop := ∃ (Cn : Nat → Int → Int) (sr : Nat) (pl : Int) (dn : Nat → Nat) (dv : Nat → Int) (dT dX dV : Nat → Int → Int) (dW : Nat → Nat → Int → Int) (nx : Nat) (wh : Int → Int) (Rw : Nat → Int → Int) (jW jA : Int → Int) (jg : Int) (cs : Nat → List Co) (Ms : Nat → Int) (fs : Nat → Nat), vCW cy B g n L S.length Cn sr pl dn dv dT dX dV dW nx P.length wh Rw jW jA jg cs Ms fs ∧ (∀ t x : Nat, t ≤ 12 → x ≤ 12 → setA Cn ((t : Nat) : Int) ((x : Nat) : Int) = ((ch t x : Nat) : Int)) ∧ nx < 6 ∧ PC wh Rw nx S P ∧ (∀ i : Nat, i < S.length → cs i = S.getD i []) ∧ (∀ i : Nat, Ms i ≤ M)
theorem SetI_A {Cn : Nat → Int → Int} (h : SetI 13 0 Cn) : ∀ t x : Nat, t ≤ 12 → x ≤ 12 → setA Cn ((t : Nat) : Int) ((x : Nat) : Int) = ((ch t x : Nat) : Int) := fun t x ht hx => by
  unfold setA
  split
  · rw [show (((t : Nat) : Int)).toNat = t from Int.toNat_natCast t, h t x, if_pos (by omega)]
  · rw [ch_out (by omega)]
    rfl
/-! a constructor that reads the text -/
def Wd4 (D : va_G) (cy : Nat → ClassId) (B N : Nat) (g : Nat → va_E) (sa va : Nat) (U : State) : Prop := Wd D cy B N g U ∧ AOs U ∧ SF B sa va U
theorem Wd4_blind {D : va_G} {cy : Nat → ClassId} {B N sa va : Nat} {g : Nat → va_E} {av : List Value} : FrameBlind (va_Pc av (Wd4 D cy B N g sa va)) := fun a U _ _ q => ⟨q.1, ⟨q.2.1.1, q.2.1.2.1, va_K.moved (u := U) (Vm.Alike.refl U.vm) q.2.1.2.2⟩, AOs.moved (u := U) (Vm.Alike.refl U.vm) q.2.2.1, SFh.moved (u := U) (Vm.Alike.refl U.vm) q.2.2.2.1, vk_R.same (u := U) rfl q.2.2.2.2⟩
def CTc4 (l : Launch) (y : MethodName) (ws : List Cond) (rm : Room) (D : va_G) (cy : Nat → ClassId) (B N : Nat) (g : Nat → va_E) (sa va : Nat) (av : List Value) (mc ms : Nat) (Hp : (Nat → va_E) → Prop) : Prop := Met l y ws rm (va_Pc av (Wd4 D cy B N g sa va)) (va_Qv (fun g' => Hp g') (Wd D cy B (N + mc)) (yA B)) mc ms (yA B)
section CT4
variable {p : Program} {l : Launch} {e : Env} {R : Room} {s : State} {m : MethodId} {args : Array Value} {below : List Frame} {meth : Method} {c : Code} {Q : State → Prop} {cc : ByteArray} {nL : Nat} {ret : Option FieldType} {own : String} {Ts : List Cond} {D : va_G} {cy : Nat → ClassId} {B N cells slots : Nat} {g : Nat → va_E} {pc : Nat} {lv : List (Nat × Value)} {st : List Value} {sa va : Nat}
theorem WW_of4 {y : MethodName} {ws ws' : List Cond} {rm : Room} {maxL mc ms : Nat} {av : List Value} {lvs : List (Nat × Value)} {Qc : Array Value → State → Outcome → State → Prop} (hy : plainName y.cls = true) (hw : ws = Cond.code y cc maxL ret :: ws') (hown : y.cls = own) (hlen : (lg_sl av).length ≤ maxL) (hlv : lv_args 0 av = lvs)
    (body : ∀ (p : Program) (e : Env) (s : State) (m : MethodId) (below : List Frame) (meth : Method) (c : Code), meth.name = y.name → AOs s → SF B sa va s → WW p l e rm s m av.toArray below meth c (MQ below Qc av.toArray s mc ms (yA B)) cc maxL ret own ws D cy B N 0 0 g 0 lvs []) : Met l y ws rm (va_Pc av (Wd4 D cy B N g sa va)) Qc mc ms (yA B) := by
  refine Met.ofW (cc := cc) (maxL := maxL) (ret := ret) hy hw ?_
  intro p e s m args below meth c s₁ Bd hml hv
  obtain ⟨rfl, ⟨⟨hb, hz⟩, hP, hK⟩, hao, hsf⟩ := hv
  have hl := lv_entry av hlen
  rw [lg_entry_eq]
  rw [hlv] at hl
  exact body p e s m below meth c (name_of_methodNamed Bd.named Bd.method).1 hao hsf ⟨Bd.exec, Bd.bytes, hml, hown ▸ findClass_of_methodNamed Bd.named, atoms_spec (ws := ws) Bd.pre, hK, Bd.returns, Bd.notSynchronized⟩ hb (by omega) s.heap [] _ hP va_S.rf hl
theorem w_ctor4 {y : MethodName} {ws ws' : List Cond} {rm : Room} {bytes : ByteArray} {maxL index n k mc ms : Nat} {As rest : List Value} {Hp : (Nat → va_E) → Prop} (hao : AOs s) (hsf : SF B sa va s) (hM : CTc4 l y ws rm D cy B N g sa va (.ref (B + k) :: As) mc ms Hp) (hG : GoodIn Ts ws) (hw : ws = Cond.code y bytes maxL none :: ws') (hrc : rm.cells = mc) (hrs : rm.slots = ms) (hini : Cond.initialized y.cls ∈ Ts) (hlk : Cond.methodLink own index y ∈ Ts) (hin : Cond.instanceMethod y ∈ Ts) (hy1 : y.name = "<init>") (hy : y.cls ≠ "java/lang/invoke/MethodHandle" ∧ y.cls ≠ "java/lang/invoke/VarHandle" ∧ (parseMethodDescriptor y.desc).map (fun d => d.parameters.length) = some n) (hR : rm.frames + 1 ≤ R.frames ∧ 8 + (maxL + 11) + rm.locals ≤ R.locals) (hn : As.length = n) (hroom : (rest.map fun v => v.category).sum ≤ 8) (hcs : cells + mc ≤ R.cells ∧ slots + ms ≤ R.slots) (hd : decode cc pc = .ok (.invokespecial index, 3)) (hst : st = As.reverse ++ .ref (B + k) :: rest) (kk : ∀ g' : Nat → va_E, Hp g' → WW p l e R s m args below meth c Q cc nL ret own Ts D cy B (N + mc) (cells + mc) (slots + ms) g' (pc + 3) lv rest) : WW p l e R s m args below meth c Q cc nL ret own Ts D cy B N cells slots g pc lv st := by
  intro C hb hz H locs ls hP hS hl T hT X
  have hsz := pw_size X hT hP hb hz hS.1
  have hCF : CallFix p m c cc nL s args Ts own := ⟨C.1, C.2.1, C.2.2.1, C.2.2.2.1, C.2.2.2.2.1⟩
  have hW0 : ∀ U : State, U.heap = H → s.WarmedH U.vm → Wd4 D cy B N g sa va U := fun U hU hW => ⟨⟨⟨by rw [hU]; omega, by rw [hU]; exact hsz⟩, by rw [hU]; exact hP, va_K.moved hW.alike C.2.2.2.2.2.1⟩, hao.moved hW.alike, hsf.at hS hU hW⟩
  refine va_callv (va_runI hCF hM (cwI n C.2.2.2.2.1 hG hw hrc hrs (C.2.2.2.2.1 _ hini) (C.2.2.2.2.1 _ hlk) (C.2.2.2.2.1 _ hin) hy1 hy hR) ⟨Wd4_blind, fun U hU hW => ⟨rfl, hW0 U hU hW⟩⟩ rfl hn hl.1 hst (lv_room hroom) hd hcs) hS (fun q _ h => h) (fun q h => h) (fun u t H1 locs1 ht hvm hw hB hz1 hk1 hS1 => ?_) T hT X
  exact kk u hw C hb (by omega) H1 locs1 ls (by rw [← ht]; exact hB.2.1) hS1 hl
end CT4
