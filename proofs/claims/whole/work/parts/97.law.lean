/-! THE CLAIM OUT OF ONE WALK OF THE LAW'S BODY. Your part is whole_start (and what it stands on); all else here is the same for every law, but numbers. -/
def R_law : String := "MarginTablesLaw"
def lw_P (b : Addr) (xs : List Int32) (args : Array Value) (s : State) : Prop := args = #[.ref b] ∧ s.IntsAt b xs ∧ xs.length ≤ 2560 ∧ (Jvm.Cond.and given_1 narrow_1).before args s = true
def lw_Q (_ : Array Value) (s : State) (o : Outcome) (t : State) : Prop := o = .returned (some (.int 1)) ∧ Framed s o t [] 600000 7302250
def lw_Z (below : List Frame) (a : Array Value) (s : State) : State → Prop := fun t => ∃ o, t.status = .running ∧ Ended t below o ∧ lw_Q a s o t
/-- the law's own end, with 1 on the stack, nothing written that was there before, its room as the claim has it -/
theorem lw_ret {p : Program} {l : Launch} {e : Env} {s : State} {m : MethodId} {below : List Frame} {meth : Method} {c : Code} {b : Nat} (hx : p.tables.exec = Jvm.exec) (hb : c.code = code) (hr : meth.sig.returnType = ret) (hlocks : meth.locks = false) {pc : Nat} {H : Heap} {ls : Array Slot} (hdg : decode code pc = .ok (.ireturn, 1)) : W p l e room_1 s m #[Value.ref b] below meth c H [] 600000 7302250 (lw_Z below #[Value.ref b] s) (F0 m pc ls [.int 1]) := by
  intro T hT X
  obtain ⟨fs, hret, hrun, hended, hW, hframe⟩ := X.leave (v := some (.int 1)) (hlocks := hlocks) (fun h => by rw [hr] at h; cases h)
  have hmeth' : T.vm.method? m = some meth := X.method'
  refine ⟨T.setFrames fs, ?_, .returned (some (.int 1)), hrun, hended, rfl, ⟨_, rfl⟩, hW, hframe⟩
  jvm_step X.here [X.here.top, hx, hb, hdg, hmeth', hr, ret, narrow_b1]
  (try refine ⟨rfl, ?_⟩); (try refine ⟨rfl, ?_⟩)
  first | (intro acts; rw [hret _ acts rfl rfl rfl]) | rw [hret _ _ rfl rfl rfl]
  exact Steps.refl _
/-- what holds at the law's entry: the machine, the code, the tables' words (any of lw_tbl by 'hts w (by decide +kernel)'), the script of L ints xs at the cell b, what the Statement gives of the start (any of its parts by flat_of_before) -/
def lw_At (p : Program) (s : State) (m : MethodId) (meth : Method) (c : Code) (b L : Nat) (xs : Nat → Int32) : Prop :=
  p.tables.exec = Jvm.exec ∧ c.code = code ∧ meth.sig.returnType = ret ∧ c.maxLocals = 4 ∧ s.vm.findClass R_law = some m.cls ∧ (∀ w ∈ lw_tbl, w.before #[Value.ref b] s = true) ∧ va_X b L xs s s.heap ∧ b < s.heap.size ∧ meth.locks = false ∧ (Jvm.Cond.and given_1 narrow_1).before #[Value.ref b] s = true
/-! ===== the law's walk: its own rows ===== -/
def xz (xs : Nat → Int32) (z : Int) : Int := (xs z.toNat).toInt
theorem xz_rg {xs : Nat → Int32} (z : Int) : -2147483648 ≤ xz xs z ∧ xz xs z < 2147483648 := zI_rg _
theorem CW_fr {cy : Nat → ClassId} {B : Nat} {g g' : Nat → va_E} {n : Nat} {L : Int → Int} {S : St} {P : List St} {M : Int} (h : CW cy B g n L S P M) (hq : ∀ q, q < 141 → g' q = g q) : CW cy B g' n L S P M := by
  obtain ⟨Cn, sr, pl, dn, dv, dT, dX, dV, dW, nx, wh, Rw, jW0, jA0, jg, cs, Ms, fs, ⟨ht0, hsa, htx, hr, hd, hst, hp, hj, hss⟩, hrest⟩ := h
  exact ⟨Cn, sr, pl, dn, dv, dT, dX, dV, dW, nx, wh, Rw, jW0, jA0, jg, cs, Ms, fs, ⟨vTop_fr ht0 (fun q h1 h2 => hq q (by omega)), vSA_fr hsa (fun q h1 h2 => hq q (by omega)), vText_fr htx (fun q h1 h2 => hq q (by omega)), vReader_fr hr (fun q h1 h2 => hq q (by omega)), vDr_fr hd (fun q h1 h2 => hq q (by omega)), vSets_fr hst (fun q h1 h2 => hq q (by omega)), vPast_fr hp (fun q h1 h2 => hq q (by omega)), vJoint_fr hj (fun q h1 h2 => hq q (by omega)), vSWs_fr hss (fun q h1 h2 => hq q (by omega))⟩, hrest⟩
theorem CW_0 {cy : Nat → ClassId} {B : Nat} {g : Nat → va_E} {n : Nat} {L : Int → Int} {S : St} {P : List St} {M : Int} (h : CW cy B g n L S P M) : ∃ fs, g 0 = .inr (10, fs) := by
  obtain ⟨Cn, sr, pl, dn, dv, dT, dX, dV, dW, nx, wh, Rw, jW0, jA0, jg, cs, Ms, fs, ⟨ht0, -⟩, -⟩ := h
  exact ⟨_, ht0⟩
theorem CW_M {cy : Nat → ClassId} {B : Nat} {g : Nat → va_E} {n : Nat} {L : Int → Int} {S : St} {P : List St} {M M' : Int} (h : CW cy B g n L S P M) (hM : M = M') : CW cy B g n L S P M' := hM ▸ h
theorem MW_fr {cy : Nat → ClassId} {B : Nat} {g g' : Nat → va_E} {n : Nat} {L : Int → Int} {S : St} {P : List St} (h : MW cy B g n L S P) (hq : ∀ q, 141 ≤ q → g' q = g q) : MW cy B g' n L S P := by
  obtain ⟨cg, le, sp, va, o0, tn, aw, mw, fw, ls, gs, sn, sw, kr, Nw, Rd, Ps, Lm, Sv, Tb, Lk, Bs, Jo, Wi, Ah, Be, Lo, Sh, Ro, Tr, Su, Sz, ⟨hm, h142, h143, h144, h145, h146, h147, h148, h149, h150, h151, h152, h153, h154, h155, h156, h157, h158, h159⟩, hrest⟩ := h
  exact ⟨cg, le, sp, va, o0, tn, aw, mw, fw, ls, gs, sn, sw, kr, Nw, Rd, Ps, Lm, Sv, Tb, Lk, Bs, Jo, Wi, Ah, Be, Lo, Sh, Ro, Tr, Su, Sz, ⟨vM_fr hm (fun q h1 h2 => hq q (by omega)), vIA_fr h142 (fun q h1 h2 => hq q (by omega)), vIA_fr h143 (fun q h1 h2 => hq q (by omega)), vIA_fr h144 (fun q h1 h2 => hq q (by omega)), vIA_fr h145 (fun q h1 h2 => hq q (by omega)), vLA_fr h146 (fun q h1 h2 => hq q (by omega)), vIA_fr h147 (fun q h1 h2 => hq q (by omega)), vIA_fr h148 (fun q h1 h2 => hq q (by omega)), vLA_fr h149 (fun q h1 h2 => hq q (by omega)), vLA_fr h150 (fun q h1 h2 => hq q (by omega)), vLA_fr h151 (fun q h1 h2 => hq q (by omega)), vLA_fr h152 (fun q h1 h2 => hq q (by omega)), vLA_fr h153 (fun q h1 h2 => hq q (by omega)), vLA_fr h154 (fun q h1 h2 => hq q (by omega)), vLA_fr h155 (fun q h1 h2 => hq q (by omega)), vIA_fr h156 (fun q h1 h2 => hq q (by omega)), vIA_fr h157 (fun q h1 h2 => hq q (by omega)), vIA_fr h158 (fun q h1 h2 => hq q (by omega)), vLA_fr h159 (fun q h1 h2 => hq q (by omega))⟩, hrest⟩
theorem MW_0 {cy : Nat → ClassId} {B : Nat} {g : Nat → va_E} {n : Nat} {L : Int → Int} {S : St} {P : List St} (h : MW cy B g n L S P) : ∃ fs, g 141 = .inr (11, fs) := by
  obtain ⟨cg, le, sp, va, o0, tn, aw, mw, fw, ls, gs, sn, sw, kr, Nw, Rd, Ps, Lm, Sv, Tb, Lk, Bs, Jo, Wi, Ah, Be, Lo, Sh, Ro, Tr, Su, Sz, ⟨hm, -⟩, -⟩ := h
  exact ⟨_, hm⟩
section LAWROWS
variable {p : Program} {l : Launch} {e : Env} {R : Room} {s : State} {m : MethodId} {args : Array Value} {below : List Frame} {meth : Method} {c : Code} {Q : State → Prop} {cc : ByteArray} {nL : Nat} {ret : Option FieldType} {own : String} {Ts : List Cond} {D : va_G} {cy : Nat → ClassId} {B N cells slots : Nat} {g : Nat → va_E} {pc : Nat} {lv : List (Nat × Value)} {st : List Value}
theorem w_slen {b L : Nat} {xs : Nat → Int32} (hX : va_X b L xs s s.heap) (hbl : b < s.heap.size) (hbA : ¬ yA B b) (hd : decode cc pc = .ok (.arraylength, 1)) (kk : WW p l e R s m args below meth c Q cc nL ret own Ts D cy B N cells slots g (pc + 1) lv (.int (zI ((L : Nat) : Int)) :: st)) : WW p l e R s m args below meth c Q cc nL ret own Ts D cy B N cells slots g pc lv (.ref b :: st) := fun C hb hz H locs ls hP hS hl => va_slen C.1 C.2.1 hX hbl hbA hS hd (by rw [show Int32.ofNat L = zI ((L : Nat) : Int) from (zI_ofNat L).symm]; exact kk C hb hz H locs ls hP hS hl)
theorem w_sld {b L : Nat} {xs : Nat → Int32} {z : Int} (hX : va_X b L xs s s.heap) (hbl : b < s.heap.size) (hbA : ¬ yA B b) (hz0 : 0 ≤ z ∧ z < L ∧ z < 2147483648) (hd : decode cc pc = .ok (.iaload, 1)) (kk : WW p l e R s m args below meth c Q cc nL ret own Ts D cy B N cells slots g (pc + 1) lv (.int (zI (xz xs z)) :: st)) : WW p l e R s m args below meth c Q cc nL ret own Ts D cy B N cells slots g pc lv (.int (zI z) :: .ref b :: st) := fun C hb hz H locs ls hP hS hl => va_sld C.1 C.2.1 hX hbl hbA hS (zI_in hz0) hd (by rw [show xs (zI z).toNatClampNeg = zI (xz xs z) from by unfold xz; rw [zI_of, zI_nat (by omega)]]; exact kk C hb hz H locs ls hP hS hl)
theorem w_andR {a b : Int} (hd : decode cc pc = .ok (.iand, 1)) (kk : ∀ r : Int, (-2147483648 ≤ r ∧ r < 2147483648) → WW p l e R s m args below meth c Q cc nL ret own Ts D cy B N cells slots g (pc + 1) lv (.int (zI r) :: st)) : WW p l e R s m args below meth c Q cc nL ret own Ts D cy B N cells slots g pc lv (.int (zI b) :: .int (zI a) :: st) := fun C hb hz H locs ls hP hS hl => lv_iand C.1 C.2.1 hd (by rw [← zI_of (zI a &&& zI b)]; exact kk _ (zI_rg _) C hb hz H locs ls hP hS hl)
theorem w_eqS {x : Int32} {off : Int} (tgt : Nat) (hd : decode cc pc = .ok (.if_icmp .eq off, 3)) (ht : (pc : Int) + off = (tgt : Int)) (kt : WW p l e R s m args below meth c Q cc nL ret own Ts D cy B N cells slots g tgt lv st) : WW p l e R s m args below meth c Q cc nL ret own Ts D cy B N cells slots g pc lv (.int x :: .int x :: st) := fun C hb hz H locs ls hP hS hl => lv_icmp_eq C.1 C.2.1 hd ht (fun _ => kt C hb hz H locs ls hP hS hl) (fun q => absurd rfl q)
theorem w_leqS {x : Int64} {off : Int} (tgt : Nat) (hd : decode cc pc = .ok (.lcmp, 1)) (hd2 : decode cc (pc + 1) = .ok (.ifCond .eq off, 3)) (ht : ((pc + 1 : Nat) : Int) + off = (tgt : Int)) (kt : WW p l e R s m args below meth c Q cc nL ret own Ts D cy B N cells slots g tgt lv st) : WW p l e R s m args below meth c Q cc nL ret own Ts D cy B N cells slots g pc lv (.long x :: .long x :: st) := fun C hb hz H locs ls hP hS hl => W.lcmp C.1 C.2.1 hd (by
  have h0 : lg_cmp x x = 0 := by
    unfold lg_cmp
    rw [if_neg (by intro h; exact absurd (Int64.lt_iff_toInt_lt.mp h) (by omega)), if_pos rfl]
  rw [h0]
  exact lv_if_eq C.1 C.2.1 hd2 ht (fun _ => kt C hb hz H locs ls hP hS hl) (fun q => absurd rfl q))
end LAWROWS
theorem CW_up {cy : Nat → ClassId} {B : Nat} {g : Nat → va_E} {n : Nat} {L : Int → Int} {S : St} {P : List St} {M M' : Int} (h : CW cy B g n L S P M) (hM : M ≤ M') : CW cy B g n L S P M' := by
  obtain ⟨Cn, sr, pl, dn, dv, dT, dX, dV, dW, nx, wh, Rw, jW0, jA0, jg, cs, Ms, fs, hv, a1, a2, a3, a4, a5⟩ := h
  exact ⟨Cn, sr, pl, dn, dv, dT, dX, dV, dW, nx, wh, Rw, jW0, jA0, jg, cs, Ms, fs, hv, a1, a2, a3, a4, fun i => by have := a5 i; omega⟩
