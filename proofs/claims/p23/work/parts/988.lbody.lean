/-! THE CLAIM OUT OF ONE WALK OF THE LAW'S BODY. Your part is whole_start (and what it stands on); all else here is the same for every law, but numbers. -/
def R_law : String := "MarginTablesLaw"
def lw_P (b : Addr) (xs : List Int32) (args : Array Value) (s : State) : Prop := args = #[.ref b] ∧ s.IntsAt b xs ∧ xs.length ≤ 260 ∧ (Jvm.Cond.and given_1 narrow_1).before args s = true
def lw_Q (_ : Array Value) (s : State) (o : Outcome) (t : State) : Prop := o = .returned (some (.int 1)) ∧ Framed s o t [] 600000 7302250
def lw_Z (below : List Frame) (a : Array Value) (s : State) : State → Prop := fun t => ∃ o, t.status = .running ∧ Ended t below o ∧ lw_Q a s o t
/-- the law's own end, with 1 on the stack, nothing written that was there before, its room as the claim has it -/
theorem lw_ret {p : Program} {l : Launch} {e : Env} {s : State} {m : MethodId} {below : List Frame} {meth : Method} {c : Code} {b : Nat} (hx : p.tables.exec = Jvm.exec) (hb : c.code = code) (hr : meth.sig.returnType = ret) (hlocks : meth.locks = false) {pc : Nat} {H : Heap} {ls : Array Slot} (hdg : decode code pc = .ok (.ireturn, 1)) : W p l e room_1 s m #[Value.ref b] below meth c H [] 600000 7302250 (lw_Z below #[Value.ref b] s) (F0 m pc ls [.int 1]) := by
  intro T hT X
  obtain ⟨fs, hret, hrun, hended, hW, hframe⟩ := X.leave (v := some (.int 1)) (hlocks := hlocks) (fun h => by rw [hr] at h; cases h)
  have hmeth' : T.vm.method? m = some meth := X.method'
  refine ⟨T.setFrames fs, ?_, .returned (some (.int 1)), hrun, hended, rfl, ⟨_, rfl⟩, hW, hframe⟩
  jvm_step X.here [X.here.top, hx, hb, hdg, hmeth', hr, ret, narrow_b1]
  (try refine ⟨rfl, ?_⟩); (try refine ⟨rfl, ?_⟩)
  first | (intro acts; rw [hret _ acts rfl rfl rfl]) | rw [hret _ _ rfl rfl rfl]
  exact Steps.refl _
/-- what holds at the law's entry: the machine, the code, the tables' words (any of lw_tbl by 'hts w (by decide +kernel)'), the script of L ints xs at the cell b, what the Statement gives of the start (any of its parts by flat_of_before) -/
def lw_At (p : Program) (s : State) (m : MethodId) (meth : Method) (c : Code) (b L : Nat) (xs : Nat → Int32) : Prop :=
  p.tables.exec = Jvm.exec ∧ c.code = code ∧ meth.sig.returnType = ret ∧ c.maxLocals = 5 ∧ s.vm.findClass R_law = some m.cls ∧ (∀ w ∈ lw_tbl, w.before #[Value.ref b] s = true) ∧ va_X b L xs s s.heap ∧ b < s.heap.size ∧ meth.locks = false ∧ (Jvm.Cond.and given_1 narrow_1).before #[Value.ref b] s = true
/-! ===== the law from its start on ===== -/
set_option maxHeartbeats 64000000 in
set_option maxRecDepth 100000 in
theorem law_body {p : Program} {l : Launch} {e : Env} {s : State} {m : MethodId} {below : List Frame} {meth : Method} {c : Code} {D : va_G} {cy : Nat → ClassId} {B b L : Nat} {xs : Nat → Int32} {g : Nat → va_E} (hBs : B = s.heap.size) (hsx : SX B b L xs s) (hL : L ≤ 260) (ho : OW cy B g 0 [] firstS [] 7) (hf : vIA cy B g 141 64 (fun _ => 0)) : WW p l e room_1 s m #[Value.ref b] below meth c (lw_Z below #[Value.ref b] s) cL_law 5 ret RL wsL_law D cy B 142 (0 + 1 + 140 + 1) (0 + 6 + 16408 + 64) g 13 [(2, .ref (B + 141)), (1, .ref (B + 0)), (0, .ref b)] [] := by
  have hN : 141 ≤ 142 := by omega
  refine w_aload_n dL_law_13 rfl 1 rfl ?_
  obtain ⟨fx_3, hfx_3⟩ := OW_0 ho
  refine w_calli (As := []) (rest := []) (n := 0) (a_undo ho (by omega) (by omega)) gL_law_X10_undo rfl rfl rfl (by decide +kernel) ⟨(Nat.le_of_ble_eq_true rfl), (Nat.le_of_ble_eq_true rfl)⟩ rfl (by omega) hfx_3 rfl (Nat.le_of_ble_eq_true rfl) ⟨(Nat.le_of_ble_eq_true rfl), (Nat.le_of_ble_eq_true rfl)⟩ dL_law_14 rfl (fun g_1 hp_2 => ?_)
  obtain ⟨ho_4, hf_5⟩ := hp_2
  have hf_6 : vIA cy B g_1 141 64 (fun _ => 0) := vIA_fr hf (fun q h1 h2 => hf_5 q (by omega))
  have ho_7 : OW cy B g_1 0 ([]) firstS ([]) (7 + 20) := by have h9 := ho_4; exact h9
  refine w_bipush dL_law_17 (by decide) ?_
  refine w_as (st' := [.int (zI (-2)), .int (zI (-2))]) (lc_s (sc_i rfl rfl)) ?_
  refine w_icmp_neS 65 dL_law_19 (by decide) ?_
  refine w_aload_n dL_law_22 rfl 1 rfl ?_
  obtain ⟨fx_10, hfx_10⟩ := OW_0 ho_7
  refine w_calli (As := []) (rest := []) (n := 0) (a_fault ho_7 (by omega) (by omega)) gL_law_X10_fault rfl rfl rfl (by decide +kernel) ⟨(Nat.le_of_ble_eq_true rfl), (Nat.le_of_ble_eq_true rfl)⟩ rfl (by omega) hfx_10 rfl (Nat.le_of_ble_eq_true rfl) ⟨(Nat.le_of_ble_eq_true rfl), (Nat.le_of_ble_eq_true rfl)⟩ dL_law_23 rfl (fun g_8 hp_9 => ?_)
  obtain ⟨ho_11, hf_12⟩ := hp_9
  have hf_13 : vIA cy B g_8 141 64 (fun _ => 0) := vIA_fr hf_6 (fun q h1 h2 => hf_12 q (by omega))
  refine w_bipush dL_law_26 (by decide) ?_
  refine w_as (st' := [.int (zI (-4)), .int (zI (-4))]) (lc_s (sc_i (by decide +kernel) rfl)) ?_
  refine w_icmp_neS 65 dL_law_28 (by decide) ?_
  refine w_aload_n dL_law_31 rfl 1 rfl ?_
  obtain ⟨fx_16, hfx_16⟩ := OW_0 ho_11
  refine w_calli (As := []) (rest := []) (n := 0) (n_lay ho_11 (by omega) (by omega) (by decide +kernel)) gL_law_X10_lay rfl rfl rfl (by decide +kernel) ⟨(Nat.le_of_ble_eq_true rfl), (Nat.le_of_ble_eq_true rfl)⟩ rfl (by omega) hfx_16 rfl (Nat.le_of_ble_eq_true rfl) ⟨(Nat.le_of_ble_eq_true rfl), (Nat.le_of_ble_eq_true rfl)⟩ dL_law_32 rfl (fun g_14 hp_15 => ?_)
  obtain ⟨ho_17, hf_18⟩ := hp_15
  have hf_19 : vIA cy B g_14 141 64 (fun _ => 0) := vIA_fr hf_13 (fun q h1 h2 => hf_18 q (by omega))
  refine w_bipush dL_law_35 (by decide) ?_
  refine w_icmp_neS 65 dL_law_37 (by decide) ?_
  refine w_aload_n dL_law_40 rfl 1 rfl ?_
  refine w_iconst dL_law_41 ?_
  obtain ⟨fx_22, hfx_22⟩ := OW_0 ho_17
  refine w_calli (As := [.int (zI 0)]) (rest := []) (n := 1) (a_count (what := 0) ho_17 (by omega) (by omega) ⟨by omega, by omega⟩) gL_law_X10_count rfl rfl rfl (by decide +kernel) ⟨(Nat.le_of_ble_eq_true rfl), (Nat.le_of_ble_eq_true rfl)⟩ rfl (by omega) hfx_22 rfl (Nat.le_of_ble_eq_true rfl) ⟨(Nat.le_of_ble_eq_true rfl), (Nat.le_of_ble_eq_true rfl)⟩ dL_law_42 rfl (fun g_20 hp_21 => ?_)
  obtain ⟨ho_23, hf_24⟩ := hp_21
  have hf_25 : vIA cy B g_20 141 64 (fun _ => 0) := vIA_fr hf_19 (fun q h1 h2 => hf_24 q (by omega))
  refine w_as (st' := [.int (zI 2)]) (sc_i rfl rfl) ?_
  refine w_iconst dL_law_45 ?_
  refine w_icmp_neS 65 dL_law_46 (by decide) ?_
  refine w_aload_n dL_law_49 rfl 1 rfl ?_
  refine w_bipush dL_law_50 (by decide) ?_
  obtain ⟨fx_28, hfx_28⟩ := OW_0 ho_23
  refine w_calli (As := [.int (zI 6)]) (rest := []) (n := 1) (a_count (what := 6) ho_23 (by omega) (by omega) ⟨by omega, by omega⟩) gL_law_X10_count rfl rfl rfl (by decide +kernel) ⟨(Nat.le_of_ble_eq_true rfl), (Nat.le_of_ble_eq_true rfl)⟩ rfl (by omega) hfx_28 rfl (Nat.le_of_ble_eq_true rfl) ⟨(Nat.le_of_ble_eq_true rfl), (Nat.le_of_ble_eq_true rfl)⟩ dL_law_52 rfl (fun g_26 hp_27 => ?_)
  obtain ⟨ho_29, hf_30⟩ := hp_27
  have hf_31 : vIA cy B g_26 141 64 (fun _ => 0) := vIA_fr hf_25 (fun q h1 h2 => hf_30 q (by omega))
  refine w_as (st' := [.int (zI 0)]) (sc_i rfl rfl) ?_
  refine w_if_ne 65 dL_law_55 (by decide) (by first | omega | with_reducible rfl) (fun c_55 => ?_) (fun c_55 => ?_)
  · exfalso; omega
  · refine w_aload_n dL_law_58 rfl 1 rfl ?_
    refine w_calliS (As := [.ref (B + 0)]) (rest := []) (n := 1) (c_refused ho_29 (by omega) (by omega)) gL_law_L_refused rfl rfl rfl (by decide +kernel) ⟨(Nat.le_of_ble_eq_true rfl), (Nat.le_of_ble_eq_true rfl)⟩ rfl (Nat.le_of_ble_eq_true rfl) ⟨(Nat.le_of_ble_eq_true rfl), (Nat.le_of_ble_eq_true rfl)⟩ dL_law_59 rfl (fun g_32 hp_33 => ?_)
    obtain ⟨ho_34, hf_35⟩ := hp_33
    have hf_36 : vIA cy B g_32 141 64 (fun _ => 0) := vIA_fr hf_31 (fun q h1 h2 => hf_35 q (by omega))
    refine w_if_ne 67 dL_law_62 (by decide) (by first | omega | with_reducible rfl) (fun c_62 => ?_) (fun c_62 => ?_)
    · have ho_37 : OW cy B g_32 0 ([]) firstS ([]) 1000 := by have h9 := ho_34; exact OW_up h9 (by omega)
      refine w_iconst dL_law_67 ?_
      refine w_istore_n [(3, .int (zI 0)), (2, .ref (B + 141)), (1, .ref (B + 0)), (0, .ref b)] dL_law_68 rfl (by decide) rfl ?_
      refine w_iload_n dL_law_69 rfl 0 rfl ?_
      refine w_iconst dL_law_70 ?_
      refine w_icmp_ge 202 dL_law_71 (by decide) (by first | omega | with_reducible rfl) (by first | omega | with_reducible rfl) (fun c_71 => ?_) (fun c_71 => ?_)
      · exfalso; omega
      · refine w_aload_n dL_law_74 rfl 2 rfl ?_
        refine w_aload_n dL_law_75 rfl 3 rfl ?_
        refine w_bipush dL_law_76 (by decide) ?_
        refine w_iload_n dL_law_78 rfl 0 rfl ?_
        refine w_imul dL_law_79 ?_
        refine w_iconst dL_law_80 ?_
        refine w_iconst dL_law_81 ?_
        refine w_iload_n dL_law_82 rfl 0 rfl ?_
        refine w_iconst dL_law_83 ?_
        refine w_icmp_ge 92 dL_law_84 (by decide) (by first | omega | with_reducible rfl) (by first | omega | with_reducible rfl) (fun c_84 => ?_) (fun c_84 => ?_)
        · exfalso; omega
        · refine w_bipush dL_law_87 (by decide) ?_
          refine w_goto 93 dL_law_89 (by decide) ?_
          refine w_bipush dL_law_93 (by decide) ?_
          refine w_aload_n dL_law_95 rfl 1 rfl ?_
          refine w_calliX (As := [.ref (B + 0), .ref b, .int (zI (40 * 0)), .int (zI 3), .int (zI 4), .int (zI 12), .int (zI 9), .ref (B + 141)]) (rest := []) (n := 8) (mc := 0) (ms := 0) hsx (c_lays (from1 := (40 * 0)) (strata := 3) (columns := 4) (all := 12) (score := 9) ho_37 hf_36 (by omega) (by omega) (by first | omega | with_reducible rfl) (by first | omega | with_reducible rfl) (by first | omega | with_reducible rfl) (by first | omega | with_reducible rfl) (by first | omega | with_reducible rfl) (by first | omega | with_reducible rfl) (by first | omega | with_reducible rfl)) gL_law_L_lays rfl rfl rfl (by decide +kernel) ⟨(Nat.le_of_ble_eq_true rfl), (Nat.le_of_ble_eq_true rfl)⟩ rfl (Nat.le_of_ble_eq_true rfl) ⟨(Nat.le_of_ble_eq_true rfl), (Nat.le_of_ble_eq_true rfl)⟩ dL_law_96 rfl (fun g_38 hp_39 => ?_)
          obtain ⟨W1_40, S1_41, F1_42, ho_43, hf_44, hF1_96, hf_45⟩ := hp_39
          refine w_if_ne 104 dL_law_99 (by decide) (by first | omega | with_reducible rfl) (fun c_99 => ?_) (fun c_99 => ?_)
          · have hwf9 := OW_wf ho_43
            have hS9 := (WF_S hwf9).1
            have ho_46 : OW cy B g_38 0 W1_40 S1_41 ([]) 1050 := by have h9 := ho_43; exact OW_up h9 (by omega)
            refine w_iconst dL_law_104 ?_
            refine w_istore [(4, .int (zI 0)), (3, .int (zI 0)), (2, .ref (B + 141)), (1, .ref (B + 0)), (0, .ref b)] dL_law_105 (by decide) rfl ?_
            refine w_sub [(0, .ref b), (1, .ref (B + 0)), (2, .ref (B + 141)), (3, .int (zI 0)), (4, .int (zI 0))] [4, 3, 2, 1, 0] rfl ?_
            refine w_lv (lv' := [(0, .ref b), (1, .ref (B + 0)), (2, .ref (B + 141)), (3, .int (zI 0)), (4, .int (zI ((0 : Nat) : Int)))]) (lc_s (lc_s (lc_s (lc_s (lc_i (by first | omega | with_reducible rfl) rfl))))) ?_
            refine w_loop3 (fun (i : Nat) (Pi : List St) (gl_47 : (Nat → va_E)) => OW cy B gl_47 0 W1_40 S1_41 Pi (1050 + (40 * ((i : Nat) : Int))) ∧ vIA cy B gl_47 141 64 F1_42 ∧ i ≤ S1_41.length) (fun (i : Nat) (Pi : List St) (gl_47 : (Nat → va_E)) => S1_41.length - i) (fun (i : Nat) (Pi : List St) (gl_47 : (Nat → va_E)) => gl_47) (fun (i : Nat) (Pi : List St) (gl_47 : (Nat → va_E)) => [(0, .ref b), (1, .ref (B + 0)), (2, .ref (B + 141)), (3, .int (zI 0)), (4, .int (zI ((i : Nat) : Int)))]) ?_ 0 ([]) g_38 ⟨(by have h9 := ho_46; exact OW_up h9 (by omega)), hf_44, (Nat.zero_le _)⟩
            rintro i Pi gl_47 ⟨ho_48, hf_49, hi⟩ ih_107
            refine w_iload dL_law_107 4 rfl ?_
            refine w_aload_n dL_law_109 rfl 2 rfl ?_
            refine w_iconst dL_law_110 ?_
            refine w_iald 141 (by first | omega | with_reducible rfl) hf_49 (by first | omega | with_reducible rfl) dL_law_111 ?_
            refine w_as (st' := [.int (zI ((S1_41.length : Nat) : Int)), .int (zI ((i : Nat) : Int))]) (sc_i hF1_96 rfl) ?_
            refine w_icmp_ge 155 dL_law_112 (by decide) (by omega) (by omega) (fun c_112 => ?_) (fun c_112 => ?_)
            · have ho_50 : OW cy B gl_47 0 W1_40 S1_41 Pi 1200 := by have h9 := ho_48; exact OW_up h9 (by omega)
              refine w_aload_n dL_law_155 rfl 1 rfl ?_
              refine w_aload_n dL_law_156 rfl 0 rfl ?_
              refine w_bipush dL_law_157 (by decide) ?_
              refine w_iload_n dL_law_159 rfl 3 rfl ?_
              refine w_imul dL_law_160 ?_
              refine w_bipush dL_law_161 (by decide) ?_
              refine w_iadd dL_law_163 ?_
              refine w_aload_n dL_law_164 rfl 2 rfl ?_
              refine w_calliX (As := [.ref (B + 0), .ref b, .int (zI ((40 * 0) + 23)), .ref (B + 141)]) (rest := []) (n := 4) (mc := 1) (ms := 12) hsx (c_undoes (from1 := ((40 * 0) + 23)) ho_50 hf_49 (by omega) (by omega) (by first | omega | with_reducible rfl) (by first | omega | with_reducible rfl) (by rw [hF1_96]; omega) (by first | omega | with_reducible rfl)) gL_law_L_undoes rfl rfl rfl (by decide +kernel) ⟨(Nat.le_of_ble_eq_true rfl), (Nat.le_of_ble_eq_true rfl)⟩ rfl (Nat.le_of_ble_eq_true rfl) ⟨(Nat.le_of_ble_eq_true rfl), (Nat.le_of_ble_eq_true rfl)⟩ dL_law_165 rfl (fun g_51 hp_52 => ?_)
              obtain ⟨S1_53, P1_54, ho_55, hf_56⟩ := hp_52
              have hf_57 : vIA cy B g_51 141 64 F1_42 := vIA_fr hf_49 (fun q h1 h2 => hf_56 q (by omega))
              refine w_if_eq 194 dL_law_168 (by decide) (by first | omega | with_reducible rfl) (fun c_168 => ?_) (fun c_168 => ?_)
              · exfalso; omega
              · refine w_aload_n dL_law_171 rfl 1 rfl ?_
                refine w_aload_n dL_law_172 rfl 0 rfl ?_
                refine w_bipush dL_law_173 (by decide) ?_
                refine w_iload_n dL_law_175 rfl 3 rfl ?_
                refine w_imul dL_law_176 ?_
                refine w_bipush dL_law_177 (by decide) ?_
                refine w_iadd dL_law_179 ?_
                refine w_aload_n dL_law_180 rfl 2 rfl ?_
                refine w_calliX (As := [.ref (B + 0), .ref b, .int (zI ((40 * 0) + 30)), .ref (B + 141)]) (rest := []) (n := 4) (mc := 1) (ms := 12) hsx (c_undoes (from1 := ((40 * 0) + 30)) ho_55 hf_57 (by omega) (by omega) (by first | omega | with_reducible rfl) (by first | omega | with_reducible rfl) (by rw [hF1_96]; omega) (by first | omega | with_reducible rfl)) gL_law_L_undoes rfl rfl rfl (by decide +kernel) ⟨(Nat.le_of_ble_eq_true rfl), (Nat.le_of_ble_eq_true rfl)⟩ rfl (Nat.le_of_ble_eq_true rfl) ⟨(Nat.le_of_ble_eq_true rfl), (Nat.le_of_ble_eq_true rfl)⟩ dL_law_181 rfl (fun g_58 hp_59 => ?_)
                obtain ⟨S1_60, P1_61, ho_62, hf_63⟩ := hp_59
                have hf_64 : vIA cy B g_58 141 64 F1_42 := vIA_fr hf_57 (fun q h1 h2 => hf_63 q (by omega))
                refine w_if_eq 194 dL_law_184 (by decide) (by first | omega | with_reducible rfl) (fun c_184 => ?_) (fun c_184 => ?_)
                · exfalso; omega
                · refine w_aload_n dL_law_187 rfl 1 rfl ?_
                  refine w_calliS (As := [.ref (B + 0)]) (rest := []) (n := 1) (c_refused ho_62 (by omega) (by omega)) gL_law_L_refused rfl rfl rfl (by decide +kernel) ⟨(Nat.le_of_ble_eq_true rfl), (Nat.le_of_ble_eq_true rfl)⟩ rfl (Nat.le_of_ble_eq_true rfl) ⟨(Nat.le_of_ble_eq_true rfl), (Nat.le_of_ble_eq_true rfl)⟩ dL_law_188 rfl (fun g_65 hp_66 => ?_)
                  obtain ⟨ho_67, hf_68⟩ := hp_66
                  have hf_69 : vIA cy B g_65 141 64 F1_42 := vIA_fr hf_64 (fun q h1 h2 => hf_68 q (by omega))
                  refine w_if_ne 196 dL_law_191 (by decide) (by first | omega | with_reducible rfl) (fun c_191 => ?_) (fun c_191 => ?_)
                  · have ho_70 : OW cy B g_65 0 W1_40 S1_60 P1_61 3000 := by have h9 := ho_67; exact OW_up h9 (by omega)
                    refine w_iinc 3 [(3, .int (zI (0 + 1))), (0, .ref b), (1, .ref (B + 0)), (2, .ref (B + 141)), (4, .int (zI ((i : Nat) : Int)))] dL_law_196 rfl (by decide) rfl ?_
                    refine w_goto 69 dL_law_199 (by decide) ?_
                    refine w_iload_n dL_law_69 rfl 0 rfl ?_
                    refine w_iconst dL_law_70 ?_
                    refine w_icmp_ge 202 dL_law_71 (by decide) (by first | omega | with_reducible rfl) (by first | omega | with_reducible rfl) (fun c_71 => ?_) (fun c_71 => ?_)
                    · exfalso; omega
                    · refine w_aload_n dL_law_74 rfl 2 rfl ?_
                      refine w_aload_n dL_law_75 rfl 1 rfl ?_
                      refine w_bipush dL_law_76 (by decide) ?_
                      refine w_iload_n dL_law_78 rfl 0 rfl ?_
                      refine w_imul dL_law_79 ?_
                      refine w_iconst dL_law_80 ?_
                      refine w_iconst dL_law_81 ?_
                      refine w_iload_n dL_law_82 rfl 0 rfl ?_
                      refine w_iconst dL_law_83 ?_
                      refine w_icmp_ge 92 dL_law_84 (by decide) (by first | omega | with_reducible rfl) (by first | omega | with_reducible rfl) (fun c_84 => ?_) (fun c_84 => ?_)
                      · exfalso; omega
                      · refine w_bipush dL_law_87 (by decide) ?_
                        refine w_goto 93 dL_law_89 (by decide) ?_
                        refine w_bipush dL_law_93 (by decide) ?_
                        refine w_aload_n dL_law_95 rfl 3 rfl ?_
                        refine w_calliX (As := [.ref (B + 0), .ref b, .int (zI (40 * (0 + 1))), .int (zI 3), .int (zI 4), .int (zI 12), .int (zI 9), .ref (B + 141)]) (rest := []) (n := 8) (mc := 0) (ms := 0) hsx (c_lays (from1 := (40 * (0 + 1))) (strata := 3) (columns := 4) (all := 12) (score := 9) ho_70 hf_69 (by omega) (by omega) (by first | omega | with_reducible rfl) (by first | omega | with_reducible rfl) (by first | omega | with_reducible rfl) (by first | omega | with_reducible rfl) (by first | omega | with_reducible rfl) (by first | omega | with_reducible rfl) (by first | omega | with_reducible rfl)) gL_law_L_lays rfl rfl rfl (by decide +kernel) ⟨(Nat.le_of_ble_eq_true rfl), (Nat.le_of_ble_eq_true rfl)⟩ rfl (Nat.le_of_ble_eq_true rfl) ⟨(Nat.le_of_ble_eq_true rfl), (Nat.le_of_ble_eq_true rfl)⟩ dL_law_96 rfl (fun g_71 hp_72 => ?_)
                        obtain ⟨W1_73, S1_74, F1_75, ho_76, hf_77, hF1_96, hf_78⟩ := hp_72
                        refine w_if_ne 104 dL_law_99 (by decide) (by first | omega | with_reducible rfl) (fun c_99 => ?_) (fun c_99 => ?_)
                        · have hwf9 := OW_wf ho_76
                          have hS9 := (WF_S hwf9).1
                          have ho_79 : OW cy B g_71 0 W1_73 S1_74 ([]) 3050 := by have h9 := ho_76; exact OW_up h9 (by omega)
                          refine w_iconst dL_law_104 ?_
                          refine w_istore [(4, .int (zI 0)), (3, .int (zI (0 + 1))), (0, .ref b), (1, .ref (B + 0)), (2, .ref (B + 141))] dL_law_105 (by decide) rfl ?_
                          refine w_sub [(0, .ref b), (1, .ref (B + 0)), (2, .ref (B + 141)), (3, .int (zI (0 + 1))), (4, .int (zI 0))] [2, 3, 4, 1, 0] rfl ?_
                          refine w_lv (lv' := [(0, .ref b), (1, .ref (B + 0)), (2, .ref (B + 141)), (3, .int (zI (0 + 1))), (4, .int (zI ((0 : Nat) : Int)))]) (lc_s (lc_s (lc_s (lc_s (lc_i (by first | omega | with_reducible rfl) rfl))))) ?_
                          refine w_loop3 (fun (i : Nat) (Pi : List St) (gl_80 : (Nat → va_E)) => OW cy B gl_80 0 W1_73 S1_74 Pi (3050 + (40 * ((i : Nat) : Int))) ∧ vIA cy B gl_80 141 64 F1_75 ∧ i ≤ S1_74.length) (fun (i : Nat) (Pi : List St) (gl_80 : (Nat → va_E)) => S1_74.length - i) (fun (i : Nat) (Pi : List St) (gl_80 : (Nat → va_E)) => gl_80) (fun (i : Nat) (Pi : List St) (gl_80 : (Nat → va_E)) => [(0, .ref b), (1, .ref (B + 0)), (2, .ref (B + 141)), (3, .int (zI (0 + 1))), (4, .int (zI ((i : Nat) : Int)))]) ?_ 0 ([]) g_71 ⟨(by have h9 := ho_79; exact OW_up h9 (by omega)), hf_77, (Nat.zero_le _)⟩
                          rintro i Pi gl_80 ⟨ho_81, hf_82, hi⟩ ih_107
                          refine w_iload dL_law_107 4 rfl ?_
                          refine w_aload_n dL_law_109 rfl 2 rfl ?_
                          refine w_iconst dL_law_110 ?_
                          refine w_iald 141 (by first | omega | with_reducible rfl) hf_82 (by first | omega | with_reducible rfl) dL_law_111 ?_
                          refine w_as (st' := [.int (zI ((S1_74.length : Nat) : Int)), .int (zI ((i : Nat) : Int))]) (sc_i hF1_96 rfl) ?_
                          refine w_icmp_ge 155 dL_law_112 (by decide) (by omega) (by omega) (fun c_112 => ?_) (fun c_112 => ?_)
                          · have ho_83 : OW cy B gl_80 0 W1_73 S1_74 Pi 3200 := by have h9 := ho_81; exact OW_up h9 (by omega)
                            refine w_aload_n dL_law_155 rfl 1 rfl ?_
                            refine w_aload_n dL_law_156 rfl 0 rfl ?_
                            refine w_bipush dL_law_157 (by decide) ?_
                            refine w_iload_n dL_law_159 rfl 3 rfl ?_
                            refine w_imul dL_law_160 ?_
                            refine w_bipush dL_law_161 (by decide) ?_
                            refine w_iadd dL_law_163 ?_
                            refine w_aload_n dL_law_164 rfl 2 rfl ?_
                            refine w_calliX (As := [.ref (B + 0), .ref b, .int (zI ((40 * (0 + 1)) + 23)), .ref (B + 141)]) (rest := []) (n := 4) (mc := 1) (ms := 12) hsx (c_undoes (from1 := ((40 * (0 + 1)) + 23)) ho_83 hf_82 (by omega) (by omega) (by first | omega | with_reducible rfl) (by first | omega | with_reducible rfl) (by rw [hF1_96]; omega) (by first | omega | with_reducible rfl)) gL_law_L_undoes rfl rfl rfl (by decide +kernel) ⟨(Nat.le_of_ble_eq_true rfl), (Nat.le_of_ble_eq_true rfl)⟩ rfl (Nat.le_of_ble_eq_true rfl) ⟨(Nat.le_of_ble_eq_true rfl), (Nat.le_of_ble_eq_true rfl)⟩ dL_law_165 rfl (fun g_84 hp_85 => ?_)
                            obtain ⟨S1_86, P1_87, ho_88, hf_89⟩ := hp_85
                            have hf_90 : vIA cy B g_84 141 64 F1_75 := vIA_fr hf_82 (fun q h1 h2 => hf_89 q (by omega))
                            refine w_if_eq 194 dL_law_168 (by decide) (by first | omega | with_reducible rfl) (fun c_168 => ?_) (fun c_168 => ?_)
                            · exfalso; omega
                            · refine w_aload_n dL_law_171 rfl 1 rfl ?_
                              refine w_aload_n dL_law_172 rfl 0 rfl ?_
                              refine w_bipush dL_law_173 (by decide) ?_
                              refine w_iload_n dL_law_175 rfl 3 rfl ?_
                              refine w_imul dL_law_176 ?_
                              refine w_bipush dL_law_177 (by decide) ?_
                              refine w_iadd dL_law_179 ?_
                              refine w_aload_n dL_law_180 rfl 2 rfl ?_
                              refine w_calliX (As := [.ref (B + 0), .ref b, .int (zI ((40 * (0 + 1)) + 30)), .ref (B + 141)]) (rest := []) (n := 4) (mc := 1) (ms := 12) hsx (c_undoes (from1 := ((40 * (0 + 1)) + 30)) ho_88 hf_90 (by omega) (by omega) (by first | omega | with_reducible rfl) (by first | omega | with_reducible rfl) (by rw [hF1_96]; omega) (by first | omega | with_reducible rfl)) gL_law_L_undoes rfl rfl rfl (by decide +kernel) ⟨(Nat.le_of_ble_eq_true rfl), (Nat.le_of_ble_eq_true rfl)⟩ rfl (Nat.le_of_ble_eq_true rfl) ⟨(Nat.le_of_ble_eq_true rfl), (Nat.le_of_ble_eq_true rfl)⟩ dL_law_181 rfl (fun g_91 hp_92 => ?_)
                              obtain ⟨S1_93, P1_94, ho_95, hf_96⟩ := hp_92
                              have hf_97 : vIA cy B g_91 141 64 F1_75 := vIA_fr hf_90 (fun q h1 h2 => hf_96 q (by omega))
                              refine w_if_eq 194 dL_law_184 (by decide) (by first | omega | with_reducible rfl) (fun c_184 => ?_) (fun c_184 => ?_)
                              · exfalso; omega
                              · refine w_aload_n dL_law_187 rfl 1 rfl ?_
                                refine w_calliS (As := [.ref (B + 0)]) (rest := []) (n := 1) (c_refused ho_95 (by omega) (by omega)) gL_law_L_refused rfl rfl rfl (by decide +kernel) ⟨(Nat.le_of_ble_eq_true rfl), (Nat.le_of_ble_eq_true rfl)⟩ rfl (Nat.le_of_ble_eq_true rfl) ⟨(Nat.le_of_ble_eq_true rfl), (Nat.le_of_ble_eq_true rfl)⟩ dL_law_188 rfl (fun g_98 hp_99 => ?_)
                                obtain ⟨ho_100, hf_101⟩ := hp_99
                                have hf_102 : vIA cy B g_98 141 64 F1_75 := vIA_fr hf_97 (fun q h1 h2 => hf_101 q (by omega))
                                refine w_if_ne 196 dL_law_191 (by decide) (by first | omega | with_reducible rfl) (fun c_191 => ?_) (fun c_191 => ?_)
                                · have ho_103 : OW cy B g_98 0 W1_73 S1_93 P1_94 5000 := by have h9 := ho_100; exact OW_up h9 (by omega)
                                  refine w_iinc 3 [(3, .int (zI ((0 + 1) + 1))), (0, .ref b), (1, .ref (B + 0)), (2, .ref (B + 141)), (4, .int (zI ((i : Nat) : Int)))] dL_law_196 rfl (by decide) rfl ?_
                                  refine w_goto 69 dL_law_199 (by decide) ?_
                                  refine w_iload_n dL_law_69 rfl 0 rfl ?_
                                  refine w_iconst dL_law_70 ?_
                                  refine w_icmp_ge 202 dL_law_71 (by decide) (by first | omega | with_reducible rfl) (by first | omega | with_reducible rfl) (fun c_71 => ?_) (fun c_71 => ?_)
                                  · exfalso; omega
                                  · refine w_aload_n dL_law_74 rfl 2 rfl ?_
                                    refine w_aload_n dL_law_75 rfl 1 rfl ?_
                                    refine w_bipush dL_law_76 (by decide) ?_
                                    refine w_iload_n dL_law_78 rfl 0 rfl ?_
                                    refine w_imul dL_law_79 ?_
                                    refine w_iconst dL_law_80 ?_
                                    refine w_iconst dL_law_81 ?_
                                    refine w_iload_n dL_law_82 rfl 0 rfl ?_
                                    refine w_iconst dL_law_83 ?_
                                    refine w_icmp_ge 92 dL_law_84 (by decide) (by first | omega | with_reducible rfl) (by first | omega | with_reducible rfl) (fun c_84 => ?_) (fun c_84 => ?_)
                                    · refine w_iconst dL_law_92 ?_
                                      refine w_bipush dL_law_93 (by decide) ?_
                                      refine w_aload_n dL_law_95 rfl 3 rfl ?_
                                      refine w_calliX (As := [.ref (B + 0), .ref b, .int (zI (40 * ((0 + 1) + 1))), .int (zI 3), .int (zI 4), .int (zI 5), .int (zI 9), .ref (B + 141)]) (rest := []) (n := 8) (mc := 0) (ms := 0) hsx (c_lays (from1 := (40 * ((0 + 1) + 1))) (strata := 3) (columns := 4) (all := 5) (score := 9) ho_103 hf_102 (by omega) (by omega) (by first | omega | with_reducible rfl) (by first | omega | with_reducible rfl) (by first | omega | with_reducible rfl) (by first | omega | with_reducible rfl) (by first | omega | with_reducible rfl) (by first | omega | with_reducible rfl) (by first | omega | with_reducible rfl)) gL_law_L_lays rfl rfl rfl (by decide +kernel) ⟨(Nat.le_of_ble_eq_true rfl), (Nat.le_of_ble_eq_true rfl)⟩ rfl (Nat.le_of_ble_eq_true rfl) ⟨(Nat.le_of_ble_eq_true rfl), (Nat.le_of_ble_eq_true rfl)⟩ dL_law_96 rfl (fun g_104 hp_105 => ?_)
                                      obtain ⟨W1_106, S1_107, F1_108, ho_109, hf_110, hF1_96, hf_111⟩ := hp_105
                                      refine w_if_ne 104 dL_law_99 (by decide) (by first | omega | with_reducible rfl) (fun c_99 => ?_) (fun c_99 => ?_)
                                      · have hwf9 := OW_wf ho_109
                                        have hS9 := (WF_S hwf9).1
                                        have ho_112 : OW cy B g_104 0 W1_106 S1_107 ([]) 5050 := by have h9 := ho_109; exact OW_up h9 (by omega)
                                        refine w_iconst dL_law_104 ?_
                                        refine w_istore [(4, .int (zI 0)), (3, .int (zI ((0 + 1) + 1))), (0, .ref b), (1, .ref (B + 0)), (2, .ref (B + 141))] dL_law_105 (by decide) rfl ?_
                                        refine w_sub [(0, .ref b), (1, .ref (B + 0)), (2, .ref (B + 141)), (3, .int (zI ((0 + 1) + 1))), (4, .int (zI 0))] [2, 3, 4, 1, 0] rfl ?_
                                        refine w_lv (lv' := [(0, .ref b), (1, .ref (B + 0)), (2, .ref (B + 141)), (3, .int (zI ((0 + 1) + 1))), (4, .int (zI ((0 : Nat) : Int)))]) (lc_s (lc_s (lc_s (lc_s (lc_i (by first | omega | with_reducible rfl) rfl))))) ?_
                                        refine w_loop3 (fun (i : Nat) (Pi : List St) (gl_113 : (Nat → va_E)) => OW cy B gl_113 0 W1_106 S1_107 Pi (5050 + (40 * ((i : Nat) : Int))) ∧ vIA cy B gl_113 141 64 F1_108 ∧ i ≤ S1_107.length) (fun (i : Nat) (Pi : List St) (gl_113 : (Nat → va_E)) => S1_107.length - i) (fun (i : Nat) (Pi : List St) (gl_113 : (Nat → va_E)) => gl_113) (fun (i : Nat) (Pi : List St) (gl_113 : (Nat → va_E)) => [(0, .ref b), (1, .ref (B + 0)), (2, .ref (B + 141)), (3, .int (zI ((0 + 1) + 1))), (4, .int (zI ((i : Nat) : Int)))]) ?_ 0 ([]) g_104 ⟨(by have h9 := ho_112; exact OW_up h9 (by omega)), hf_110, (Nat.zero_le _)⟩
                                        rintro i Pi gl_113 ⟨ho_114, hf_115, hi⟩ ih_107
                                        refine w_iload dL_law_107 4 rfl ?_
                                        refine w_aload_n dL_law_109 rfl 2 rfl ?_
                                        refine w_iconst dL_law_110 ?_
                                        refine w_iald 141 (by first | omega | with_reducible rfl) hf_115 (by first | omega | with_reducible rfl) dL_law_111 ?_
                                        refine w_as (st' := [.int (zI ((S1_107.length : Nat) : Int)), .int (zI ((i : Nat) : Int))]) (sc_i hF1_96 rfl) ?_
                                        refine w_icmp_ge 155 dL_law_112 (by decide) (by omega) (by omega) (fun c_112 => ?_) (fun c_112 => ?_)
                                        · have ho_116 : OW cy B gl_113 0 W1_106 S1_107 Pi 5200 := by have h9 := ho_114; exact OW_up h9 (by omega)
                                          refine w_aload_n dL_law_155 rfl 1 rfl ?_
                                          refine w_aload_n dL_law_156 rfl 0 rfl ?_
                                          refine w_bipush dL_law_157 (by decide) ?_
                                          refine w_iload_n dL_law_159 rfl 3 rfl ?_
                                          refine w_imul dL_law_160 ?_
                                          refine w_bipush dL_law_161 (by decide) ?_
                                          refine w_iadd dL_law_163 ?_
                                          refine w_aload_n dL_law_164 rfl 2 rfl ?_
                                          refine w_calliX (As := [.ref (B + 0), .ref b, .int (zI ((40 * ((0 + 1) + 1)) + 23)), .ref (B + 141)]) (rest := []) (n := 4) (mc := 1) (ms := 12) hsx (c_undoes (from1 := ((40 * ((0 + 1) + 1)) + 23)) ho_116 hf_115 (by omega) (by omega) (by first | omega | with_reducible rfl) (by first | omega | with_reducible rfl) (by rw [hF1_96]; omega) (by first | omega | with_reducible rfl)) gL_law_L_undoes rfl rfl rfl (by decide +kernel) ⟨(Nat.le_of_ble_eq_true rfl), (Nat.le_of_ble_eq_true rfl)⟩ rfl (Nat.le_of_ble_eq_true rfl) ⟨(Nat.le_of_ble_eq_true rfl), (Nat.le_of_ble_eq_true rfl)⟩ dL_law_165 rfl (fun g_117 hp_118 => ?_)
                                          obtain ⟨S1_119, P1_120, ho_121, hf_122⟩ := hp_118
                                          have hf_123 : vIA cy B g_117 141 64 F1_108 := vIA_fr hf_115 (fun q h1 h2 => hf_122 q (by omega))
                                          refine w_if_eq 194 dL_law_168 (by decide) (by first | omega | with_reducible rfl) (fun c_168 => ?_) (fun c_168 => ?_)
                                          · exfalso; omega
                                          · refine w_aload_n dL_law_171 rfl 1 rfl ?_
                                            refine w_aload_n dL_law_172 rfl 0 rfl ?_
                                            refine w_bipush dL_law_173 (by decide) ?_
                                            refine w_iload_n dL_law_175 rfl 3 rfl ?_
                                            refine w_imul dL_law_176 ?_
                                            refine w_bipush dL_law_177 (by decide) ?_
                                            refine w_iadd dL_law_179 ?_
                                            refine w_aload_n dL_law_180 rfl 2 rfl ?_
                                            refine w_calliX (As := [.ref (B + 0), .ref b, .int (zI ((40 * ((0 + 1) + 1)) + 30)), .ref (B + 141)]) (rest := []) (n := 4) (mc := 1) (ms := 12) hsx (c_undoes (from1 := ((40 * ((0 + 1) + 1)) + 30)) ho_121 hf_123 (by omega) (by omega) (by first | omega | with_reducible rfl) (by first | omega | with_reducible rfl) (by rw [hF1_96]; omega) (by first | omega | with_reducible rfl)) gL_law_L_undoes rfl rfl rfl (by decide +kernel) ⟨(Nat.le_of_ble_eq_true rfl), (Nat.le_of_ble_eq_true rfl)⟩ rfl (Nat.le_of_ble_eq_true rfl) ⟨(Nat.le_of_ble_eq_true rfl), (Nat.le_of_ble_eq_true rfl)⟩ dL_law_181 rfl (fun g_124 hp_125 => ?_)
                                            obtain ⟨S1_126, P1_127, ho_128, hf_129⟩ := hp_125
                                            have hf_130 : vIA cy B g_124 141 64 F1_108 := vIA_fr hf_123 (fun q h1 h2 => hf_129 q (by omega))
                                            refine w_if_eq 194 dL_law_184 (by decide) (by first | omega | with_reducible rfl) (fun c_184 => ?_) (fun c_184 => ?_)
                                            · exfalso; omega
                                            · refine w_aload_n dL_law_187 rfl 1 rfl ?_
                                              refine w_calliS (As := [.ref (B + 0)]) (rest := []) (n := 1) (c_refused ho_128 (by omega) (by omega)) gL_law_L_refused rfl rfl rfl (by decide +kernel) ⟨(Nat.le_of_ble_eq_true rfl), (Nat.le_of_ble_eq_true rfl)⟩ rfl (Nat.le_of_ble_eq_true rfl) ⟨(Nat.le_of_ble_eq_true rfl), (Nat.le_of_ble_eq_true rfl)⟩ dL_law_188 rfl (fun g_131 hp_132 => ?_)
                                              obtain ⟨ho_133, hf_134⟩ := hp_132
                                              have hf_135 : vIA cy B g_131 141 64 F1_108 := vIA_fr hf_130 (fun q h1 h2 => hf_134 q (by omega))
                                              refine w_if_ne 196 dL_law_191 (by decide) (by first | omega | with_reducible rfl) (fun c_191 => ?_) (fun c_191 => ?_)
                                              · have ho_136 : OW cy B g_131 0 W1_106 S1_126 P1_127 7000 := by have h9 := ho_133; exact OW_up h9 (by omega)
                                                refine w_iinc 3 [(3, .int (zI (((0 + 1) + 1) + 1))), (0, .ref b), (1, .ref (B + 0)), (2, .ref (B + 141)), (4, .int (zI ((i : Nat) : Int)))] dL_law_196 rfl (by decide) rfl ?_
                                                refine w_goto 69 dL_law_199 (by decide) ?_
                                                refine w_iload_n dL_law_69 rfl 0 rfl ?_
                                                refine w_iconst dL_law_70 ?_
                                                refine w_icmp_ge 202 dL_law_71 (by decide) (by first | omega | with_reducible rfl) (by first | omega | with_reducible rfl) (fun c_71 => ?_) (fun c_71 => ?_)
                                                · exfalso; omega
                                                · refine w_aload_n dL_law_74 rfl 2 rfl ?_
                                                  refine w_aload_n dL_law_75 rfl 1 rfl ?_
                                                  refine w_bipush dL_law_76 (by decide) ?_
                                                  refine w_iload_n dL_law_78 rfl 0 rfl ?_
                                                  refine w_imul dL_law_79 ?_
                                                  refine w_iconst dL_law_80 ?_
                                                  refine w_iconst dL_law_81 ?_
                                                  refine w_iload_n dL_law_82 rfl 0 rfl ?_
                                                  refine w_iconst dL_law_83 ?_
                                                  refine w_icmp_ge 92 dL_law_84 (by decide) (by first | omega | with_reducible rfl) (by first | omega | with_reducible rfl) (fun c_84 => ?_) (fun c_84 => ?_)
                                                  · refine w_iconst dL_law_92 ?_
                                                    refine w_bipush dL_law_93 (by decide) ?_
                                                    refine w_aload_n dL_law_95 rfl 3 rfl ?_
                                                    refine w_calliX (As := [.ref (B + 0), .ref b, .int (zI (40 * (((0 + 1) + 1) + 1))), .int (zI 3), .int (zI 4), .int (zI 5), .int (zI 9), .ref (B + 141)]) (rest := []) (n := 8) (mc := 0) (ms := 0) hsx (c_lays (from1 := (40 * (((0 + 1) + 1) + 1))) (strata := 3) (columns := 4) (all := 5) (score := 9) ho_136 hf_135 (by omega) (by omega) (by first | omega | with_reducible rfl) (by first | omega | with_reducible rfl) (by first | omega | with_reducible rfl) (by first | omega | with_reducible rfl) (by first | omega | with_reducible rfl) (by first | omega | with_reducible rfl) (by first | omega | with_reducible rfl)) gL_law_L_lays rfl rfl rfl (by decide +kernel) ⟨(Nat.le_of_ble_eq_true rfl), (Nat.le_of_ble_eq_true rfl)⟩ rfl (Nat.le_of_ble_eq_true rfl) ⟨(Nat.le_of_ble_eq_true rfl), (Nat.le_of_ble_eq_true rfl)⟩ dL_law_96 rfl (fun g_137 hp_138 => ?_)
                                                    obtain ⟨W1_139, S1_140, F1_141, ho_142, hf_143, hF1_96, hf_144⟩ := hp_138
                                                    refine w_if_ne 104 dL_law_99 (by decide) (by first | omega | with_reducible rfl) (fun c_99 => ?_) (fun c_99 => ?_)
                                                    · have hwf9 := OW_wf ho_142
                                                      have hS9 := (WF_S hwf9).1
                                                      have ho_145 : OW cy B g_137 0 W1_139 S1_140 ([]) 7050 := by have h9 := ho_142; exact OW_up h9 (by omega)
                                                      refine w_iconst dL_law_104 ?_
                                                      refine w_istore [(4, .int (zI 0)), (3, .int (zI (((0 + 1) + 1) + 1))), (0, .ref b), (1, .ref (B + 0)), (2, .ref (B + 141))] dL_law_105 (by decide) rfl ?_
                                                      refine w_sub [(0, .ref b), (1, .ref (B + 0)), (2, .ref (B + 141)), (3, .int (zI (((0 + 1) + 1) + 1))), (4, .int (zI 0))] [2, 3, 4, 1, 0] rfl ?_
                                                      refine w_lv (lv' := [(0, .ref b), (1, .ref (B + 0)), (2, .ref (B + 141)), (3, .int (zI (((0 + 1) + 1) + 1))), (4, .int (zI ((0 : Nat) : Int)))]) (lc_s (lc_s (lc_s (lc_s (lc_i (by first | omega | with_reducible rfl) rfl))))) ?_
                                                      refine w_loop3 (fun (i : Nat) (Pi : List St) (gl_146 : (Nat → va_E)) => OW cy B gl_146 0 W1_139 S1_140 Pi (7050 + (40 * ((i : Nat) : Int))) ∧ vIA cy B gl_146 141 64 F1_141 ∧ i ≤ S1_140.length) (fun (i : Nat) (Pi : List St) (gl_146 : (Nat → va_E)) => S1_140.length - i) (fun (i : Nat) (Pi : List St) (gl_146 : (Nat → va_E)) => gl_146) (fun (i : Nat) (Pi : List St) (gl_146 : (Nat → va_E)) => [(0, .ref b), (1, .ref (B + 0)), (2, .ref (B + 141)), (3, .int (zI (((0 + 1) + 1) + 1))), (4, .int (zI ((i : Nat) : Int)))]) ?_ 0 ([]) g_137 ⟨(by have h9 := ho_145; exact OW_up h9 (by omega)), hf_143, (Nat.zero_le _)⟩
                                                      rintro i Pi gl_146 ⟨ho_147, hf_148, hi⟩ ih_107
                                                      refine w_iload dL_law_107 4 rfl ?_
                                                      refine w_aload_n dL_law_109 rfl 2 rfl ?_
                                                      refine w_iconst dL_law_110 ?_
                                                      refine w_iald 141 (by first | omega | with_reducible rfl) hf_148 (by first | omega | with_reducible rfl) dL_law_111 ?_
                                                      refine w_as (st' := [.int (zI ((S1_140.length : Nat) : Int)), .int (zI ((i : Nat) : Int))]) (sc_i hF1_96 rfl) ?_
                                                      refine w_icmp_ge 155 dL_law_112 (by decide) (by omega) (by omega) (fun c_112 => ?_) (fun c_112 => ?_)
                                                      · have ho_149 : OW cy B gl_146 0 W1_139 S1_140 Pi 7200 := by have h9 := ho_147; exact OW_up h9 (by omega)
                                                        refine w_aload_n dL_law_155 rfl 1 rfl ?_
                                                        refine w_aload_n dL_law_156 rfl 0 rfl ?_
                                                        refine w_bipush dL_law_157 (by decide) ?_
                                                        refine w_iload_n dL_law_159 rfl 3 rfl ?_
                                                        refine w_imul dL_law_160 ?_
                                                        refine w_bipush dL_law_161 (by decide) ?_
                                                        refine w_iadd dL_law_163 ?_
                                                        refine w_aload_n dL_law_164 rfl 2 rfl ?_
                                                        refine w_calliX (As := [.ref (B + 0), .ref b, .int (zI ((40 * (((0 + 1) + 1) + 1)) + 23)), .ref (B + 141)]) (rest := []) (n := 4) (mc := 1) (ms := 12) hsx (c_undoes (from1 := ((40 * (((0 + 1) + 1) + 1)) + 23)) ho_149 hf_148 (by omega) (by omega) (by first | omega | with_reducible rfl) (by first | omega | with_reducible rfl) (by rw [hF1_96]; omega) (by first | omega | with_reducible rfl)) gL_law_L_undoes rfl rfl rfl (by decide +kernel) ⟨(Nat.le_of_ble_eq_true rfl), (Nat.le_of_ble_eq_true rfl)⟩ rfl (Nat.le_of_ble_eq_true rfl) ⟨(Nat.le_of_ble_eq_true rfl), (Nat.le_of_ble_eq_true rfl)⟩ dL_law_165 rfl (fun g_150 hp_151 => ?_)
                                                        obtain ⟨S1_152, P1_153, ho_154, hf_155⟩ := hp_151
                                                        have hf_156 : vIA cy B g_150 141 64 F1_141 := vIA_fr hf_148 (fun q h1 h2 => hf_155 q (by omega))
                                                        refine w_if_eq 194 dL_law_168 (by decide) (by first | omega | with_reducible rfl) (fun c_168 => ?_) (fun c_168 => ?_)
                                                        · exfalso; omega
                                                        · refine w_aload_n dL_law_171 rfl 1 rfl ?_
                                                          refine w_aload_n dL_law_172 rfl 0 rfl ?_
                                                          refine w_bipush dL_law_173 (by decide) ?_
                                                          refine w_iload_n dL_law_175 rfl 3 rfl ?_
                                                          refine w_imul dL_law_176 ?_
                                                          refine w_bipush dL_law_177 (by decide) ?_
                                                          refine w_iadd dL_law_179 ?_
                                                          refine w_aload_n dL_law_180 rfl 2 rfl ?_
                                                          refine w_calliX (As := [.ref (B + 0), .ref b, .int (zI ((40 * (((0 + 1) + 1) + 1)) + 30)), .ref (B + 141)]) (rest := []) (n := 4) (mc := 1) (ms := 12) hsx (c_undoes (from1 := ((40 * (((0 + 1) + 1) + 1)) + 30)) ho_154 hf_156 (by omega) (by omega) (by first | omega | with_reducible rfl) (by first | omega | with_reducible rfl) (by rw [hF1_96]; omega) (by first | omega | with_reducible rfl)) gL_law_L_undoes rfl rfl rfl (by decide +kernel) ⟨(Nat.le_of_ble_eq_true rfl), (Nat.le_of_ble_eq_true rfl)⟩ rfl (Nat.le_of_ble_eq_true rfl) ⟨(Nat.le_of_ble_eq_true rfl), (Nat.le_of_ble_eq_true rfl)⟩ dL_law_181 rfl (fun g_157 hp_158 => ?_)
                                                          obtain ⟨S1_159, P1_160, ho_161, hf_162⟩ := hp_158
                                                          have hf_163 : vIA cy B g_157 141 64 F1_141 := vIA_fr hf_156 (fun q h1 h2 => hf_162 q (by omega))
                                                          refine w_if_eq 194 dL_law_184 (by decide) (by first | omega | with_reducible rfl) (fun c_184 => ?_) (fun c_184 => ?_)
                                                          · exfalso; omega
                                                          · refine w_aload_n dL_law_187 rfl 1 rfl ?_
                                                            refine w_calliS (As := [.ref (B + 0)]) (rest := []) (n := 1) (c_refused ho_161 (by omega) (by omega)) gL_law_L_refused rfl rfl rfl (by decide +kernel) ⟨(Nat.le_of_ble_eq_true rfl), (Nat.le_of_ble_eq_true rfl)⟩ rfl (Nat.le_of_ble_eq_true rfl) ⟨(Nat.le_of_ble_eq_true rfl), (Nat.le_of_ble_eq_true rfl)⟩ dL_law_188 rfl (fun g_164 hp_165 => ?_)
                                                            obtain ⟨ho_166, hf_167⟩ := hp_165
                                                            have hf_168 : vIA cy B g_164 141 64 F1_141 := vIA_fr hf_163 (fun q h1 h2 => hf_167 q (by omega))
                                                            refine w_if_ne 196 dL_law_191 (by decide) (by first | omega | with_reducible rfl) (fun c_191 => ?_) (fun c_191 => ?_)
                                                            · have ho_169 : OW cy B g_164 0 W1_139 S1_159 P1_160 9000 := by have h9 := ho_166; exact OW_up h9 (by omega)
                                                              refine w_iinc 3 [(3, .int (zI ((((0 + 1) + 1) + 1) + 1))), (0, .ref b), (1, .ref (B + 0)), (2, .ref (B + 141)), (4, .int (zI ((i : Nat) : Int)))] dL_law_196 rfl (by decide) rfl ?_
                                                              refine w_goto 69 dL_law_199 (by decide) ?_
                                                              refine w_iload_n dL_law_69 rfl 0 rfl ?_
                                                              refine w_iconst dL_law_70 ?_
                                                              refine w_icmp_ge 202 dL_law_71 (by decide) (by first | omega | with_reducible rfl) (by first | omega | with_reducible rfl) (fun c_71 => ?_) (fun c_71 => ?_)
                                                              · refine w_aload_n dL_law_202 rfl 2 rfl ?_
                                                                refine w_calliX (As := [.ref (B + 0)]) (rest := []) (n := 1) (mc := 22) (ms := 88) hsx (c_faults ho_169 (by omega) (by omega)) gL_law_L_faults rfl rfl rfl (by decide +kernel) ⟨(Nat.le_of_ble_eq_true rfl), (Nat.le_of_ble_eq_true rfl)⟩ rfl (Nat.le_of_ble_eq_true rfl) ⟨(Nat.le_of_ble_eq_true rfl), (Nat.le_of_ble_eq_true rfl)⟩ dL_law_203 rfl (fun g_170 hp_171 => ?_)
                                                                obtain ⟨ho_172, hf_173⟩ := hp_171
                                                                have hf_174 : vIA cy B g_170 141 64 F1_141 := vIA_fr hf_168 (fun q h1 h2 => hf_173 q (by omega))
                                                                refine w_if_ne 211 dL_law_206 (by decide) (by first | omega | with_reducible rfl) (fun c_206 => ?_) (fun c_206 => ?_)
                                                                · refine w_aload_n dL_law_211 rfl 2 rfl ?_
                                                                  refine w_bipush dL_law_212 (by decide) ?_
                                                                  refine w_bipush dL_law_214 (by decide) ?_
                                                                  refine w_iconst dL_law_216 ?_
                                                                  refine w_iconst dL_law_217 ?_
                                                                  refine w_callvX (As := [.ref (B + 0), .int (zI 115), .int (zI 59), .int (zI 0), .int (zI 0)]) (rest := []) (n := 5) (mc := 1) (ms := 4) hsx (c_says (a := 115) (b1 := 59) (c := 0) (d := 0) ho_172 (by omega) (by omega) (by decide +kernel) (by first | omega | with_reducible rfl) (by first | omega | with_reducible rfl) (by first | omega | with_reducible rfl) (by first | omega | with_reducible rfl)) gL_law_L_says rfl rfl rfl (by decide +kernel) ⟨(Nat.le_of_ble_eq_true rfl), (Nat.le_of_ble_eq_true rfl)⟩ rfl (Nat.le_of_ble_eq_true rfl) ⟨(Nat.le_of_ble_eq_true rfl), (Nat.le_of_ble_eq_true rfl)⟩ dL_law_218 rfl (fun g_175 hp_176 => ?_)
                                                                  obtain ⟨ho_177, hf_178⟩ := hp_176
                                                                  have hf_179 : vIA cy B g_175 141 64 F1_141 := vIA_fr hf_174 (fun q h1 h2 => hf_178 q (by omega))
                                                                  refine w_aload_n dL_law_221 rfl 2 rfl ?_
                                                                  refine w_bipush dL_law_222 (by decide) ?_
                                                                  refine w_iconst dL_law_224 ?_
                                                                  refine w_iconst dL_law_225 ?_
                                                                  refine w_callvS (As := [.ref (B + 0), .int (zI 12), .int (zI 0), .int (zI 3)]) (rest := []) (n := 4) (c_column (all := 12) (above := 0) (score := 3) ho_177 (by omega) (by omega) (by first | omega | with_reducible rfl) (by first | omega | with_reducible rfl) (by first | omega | with_reducible rfl) (by decide +kernel)) gL_law_L_column rfl rfl rfl (by decide +kernel) ⟨(Nat.le_of_ble_eq_true rfl), (Nat.le_of_ble_eq_true rfl)⟩ rfl (Nat.le_of_ble_eq_true rfl) ⟨(Nat.le_of_ble_eq_true rfl), (Nat.le_of_ble_eq_true rfl)⟩ dL_law_226 rfl (fun g_180 hp_181 => ?_)
                                                                  obtain ⟨ho_182, hf_183⟩ := hp_181
                                                                  have hf_184 : vIA cy B g_180 141 64 F1_141 := vIA_fr hf_179 (fun q h1 h2 => hf_183 q (by omega))
                                                                  refine w_aload_n dL_law_229 rfl 2 rfl ?_
                                                                  refine w_iconst dL_law_230 ?_
                                                                  refine w_iconst dL_law_231 ?_
                                                                  refine w_bipush dL_law_232 (by decide) ?_
                                                                  refine w_callvS (As := [.ref (B + 0), .int (zI 1), .int (zI 0), .int (zI 9)]) (rest := []) (n := 4) (c_column (all := 1) (above := 0) (score := 9) ho_182 (by omega) (by omega) (by first | omega | with_reducible rfl) (by first | omega | with_reducible rfl) (by first | omega | with_reducible rfl) (by decide +kernel)) gL_law_L_column rfl rfl rfl (by decide +kernel) ⟨(Nat.le_of_ble_eq_true rfl), (Nat.le_of_ble_eq_true rfl)⟩ rfl (Nat.le_of_ble_eq_true rfl) ⟨(Nat.le_of_ble_eq_true rfl), (Nat.le_of_ble_eq_true rfl)⟩ dL_law_234 rfl (fun g_185 hp_186 => ?_)
                                                                  obtain ⟨ho_187, hf_188⟩ := hp_186
                                                                  have hf_189 : vIA cy B g_185 141 64 F1_141 := vIA_fr hf_184 (fun q h1 h2 => hf_188 q (by omega))
                                                                  refine w_aload_n dL_law_237 rfl 2 rfl ?_
                                                                  obtain ⟨fx_192, hfx_192⟩ := OW_0 ho_187
                                                                  refine w_calli (As := []) (rest := []) (n := 0) (a_lay ho_187 (by omega) (by omega) (by decide +kernel) (by decide +kernel)) gL_law_X10_lay rfl rfl rfl (by decide +kernel) ⟨(Nat.le_of_ble_eq_true rfl), (Nat.le_of_ble_eq_true rfl)⟩ rfl (by omega) hfx_192 rfl (Nat.le_of_ble_eq_true rfl) ⟨(Nat.le_of_ble_eq_true rfl), (Nat.le_of_ble_eq_true rfl)⟩ dL_law_238 rfl (fun g_190 hp_191 => ?_)
                                                                  obtain ⟨ho_193, hf_194⟩ := hp_191
                                                                  have hf_195 : vIA cy B g_190 141 64 F1_141 := vIA_fr hf_189 (fun q h1 h2 => hf_194 q (by omega))
                                                                  have hps : (psW ((([] ++ sayL 115 59 0 0) ++ tcol 12 0 3) ++ tcol 1 0 9)).2 = [[(12, 0, 3), (1, 0, 9)]] := by decide +kernel
                                                                  have ho_196 : OW cy B g_190 0 (((([]) ++ sayL 115 59 0 0) ++ tcol 12 0 3) ++ tcol 1 0 9) ([[(12, 0, 3), (1, 0, 9)]]) ([]) (9000 + 20) := by have h9 := ho_193; rw [hps] at h9; exact h9
                                                                  refine w_as (st' := [.int (zI 1)]) (sc_i (by rw [hps]; rfl) rfl) ?_
                                                                  refine w_iconst dL_law_241 ?_
                                                                  refine w_icmp_neS 354 dL_law_242 (by decide) ?_
                                                                  refine w_aload_n dL_law_245 rfl 2 rfl ?_
                                                                  refine w_iconst dL_law_246 ?_
                                                                  refine w_iconst dL_law_247 ?_
                                                                  obtain ⟨fx_199, hfx_199⟩ := OW_0 ho_196
                                                                  refine w_calli (As := [.int (zI 0), .int (zI 4)]) (rest := []) (n := 2) (a_stratum (s := 0) (what := 4) ho_196 (by omega) (by omega) ⟨by omega, by omega⟩ ⟨by omega, by omega⟩) gL_law_X10_stratum rfl rfl rfl (by decide +kernel) ⟨(Nat.le_of_ble_eq_true rfl), (Nat.le_of_ble_eq_true rfl)⟩ rfl (by omega) hfx_199 rfl (Nat.le_of_ble_eq_true rfl) ⟨(Nat.le_of_ble_eq_true rfl), (Nat.le_of_ble_eq_true rfl)⟩ dL_law_248 rfl (fun g_197 hp_198 => ?_)
                                                                  obtain ⟨ho_200, hf_201⟩ := hp_198
                                                                  have hf_202 : vIA cy B g_197 141 64 F1_141 := vIA_fr hf_195 (fun q h1 h2 => hf_201 q (by omega))
                                                                  refine w_as (st' := [.int (zI 1)]) (sc_i (by decide +kernel) rfl) ?_
                                                                  refine w_iconst dL_law_251 ?_
                                                                  refine w_icmp_neS 354 dL_law_252 (by decide) ?_
                                                                  refine w_aload_n dL_law_255 rfl 2 rfl ?_
                                                                  refine w_iconst dL_law_256 ?_
                                                                  refine w_iconst dL_law_257 ?_
                                                                  obtain ⟨fx_205, hfx_205⟩ := OW_0 ho_200
                                                                  refine w_calli (As := [.int (zI 0), .int (zI 0)]) (rest := []) (n := 2) (a_looks (s := 0) (what := 0) ho_200 (by omega) (by omega) ⟨by omega, by omega⟩ ⟨by omega, by omega⟩) gL_law_X10_looks rfl rfl rfl (by decide +kernel) ⟨(Nat.le_of_ble_eq_true rfl), (Nat.le_of_ble_eq_true rfl)⟩ rfl (by omega) hfx_205 rfl (Nat.le_of_ble_eq_true rfl) ⟨(Nat.le_of_ble_eq_true rfl), (Nat.le_of_ble_eq_true rfl)⟩ dL_law_258 rfl (fun g_203 hp_204 => ?_)
                                                                  obtain ⟨ho_206, hf_207⟩ := hp_204
                                                                  have hf_208 : vIA cy B g_203 141 64 F1_141 := vIA_fr hf_202 (fun q h1 h2 => hf_207 q (by omega))
                                                                  refine w_as (st' := [.int (zI 1)]) (sc_i (by decide +kernel) rfl) ?_
                                                                  refine w_iconst dL_law_261 ?_
                                                                  refine w_icmp_neS 354 dL_law_262 (by decide) ?_
                                                                  refine w_aload_n dL_law_265 rfl 2 rfl ?_
                                                                  refine w_iconst dL_law_266 ?_
                                                                  refine w_iconst dL_law_267 ?_
                                                                  obtain ⟨fx_211, hfx_211⟩ := OW_0 ho_206
                                                                  refine w_calli (As := [.int (zI 0), .int (zI 1)]) (rest := []) (n := 2) (a_looks (s := 0) (what := 1) ho_206 (by omega) (by omega) ⟨by omega, by omega⟩ ⟨by omega, by omega⟩) gL_law_X10_looks rfl rfl rfl (by decide +kernel) ⟨(Nat.le_of_ble_eq_true rfl), (Nat.le_of_ble_eq_true rfl)⟩ rfl (by omega) hfx_211 rfl (Nat.le_of_ble_eq_true rfl) ⟨(Nat.le_of_ble_eq_true rfl), (Nat.le_of_ble_eq_true rfl)⟩ dL_law_268 rfl (fun g_209 hp_210 => ?_)
                                                                  obtain ⟨ho_212, hf_213⟩ := hp_210
                                                                  have hf_214 : vIA cy B g_209 141 64 F1_141 := vIA_fr hf_208 (fun q h1 h2 => hf_213 q (by omega))
                                                                  refine w_as (st' := [.int (zI 2)]) (sc_i (by decide +kernel) rfl) ?_
                                                                  refine w_iconst dL_law_271 ?_
                                                                  refine w_icmp_neS 354 dL_law_272 (by decide) ?_
                                                                  refine w_aload_n dL_law_275 rfl 2 rfl ?_
                                                                  refine w_iconst dL_law_276 ?_
                                                                  refine w_iconst dL_law_277 ?_
                                                                  refine w_iconst dL_law_278 ?_
                                                                  obtain ⟨fx_217, hfx_217⟩ := OW_0 ho_212
                                                                  refine w_calli (As := [.int (zI 0), .int (zI 0), .int (zI 1)]) (rest := []) (n := 3) (r_move (s := 0) (a := 0) (b := 1) (e := (-2)) ho_212 (by omega) (by omega) ⟨by omega, by omega⟩ ⟨by omega, by omega⟩ ⟨by omega, by omega⟩ (by decide +kernel) (by omega)) gL_law_X10_move rfl rfl rfl (by decide +kernel) ⟨(Nat.le_of_ble_eq_true rfl), (Nat.le_of_ble_eq_true rfl)⟩ rfl (by omega) hfx_217 rfl (Nat.le_of_ble_eq_true rfl) ⟨(Nat.le_of_ble_eq_true rfl), (Nat.le_of_ble_eq_true rfl)⟩ dL_law_279 rfl (fun g_215 hp_216 => ?_)
                                                                  obtain ⟨ho_218, hf_219⟩ := hp_216
                                                                  have hf_220 : vIA cy B g_215 141 64 F1_141 := vIA_fr hf_214 (fun q h1 h2 => hf_219 q (by omega))
                                                                  refine w_bipush dL_law_282 (by decide) ?_
                                                                  refine w_icmp_neS 354 dL_law_284 (by decide) ?_
                                                                  refine w_aload_n dL_law_287 rfl 2 rfl ?_
                                                                  refine w_iconst dL_law_288 ?_
                                                                  refine w_iconst dL_law_289 ?_
                                                                  refine w_iconst dL_law_290 ?_
                                                                  obtain ⟨fx_223, hfx_223⟩ := OW_0 ho_218
                                                                  refine w_calll (As := [.int (zI 0), .int (zI 0), .int (zI 0)]) (rest := []) (n := 3) (a_chance (s := 0) (law := 0) (part := 0) ho_218 (by omega) (by omega) ⟨by omega, by omega⟩ ⟨by omega, by omega⟩ ⟨by omega, by omega⟩) gL_law_X10_chance rfl rfl rfl (by decide +kernel) ⟨(Nat.le_of_ble_eq_true rfl), (Nat.le_of_ble_eq_true rfl)⟩ rfl (by omega) hfx_223 rfl (Nat.le_of_ble_eq_true rfl) ⟨(Nat.le_of_ble_eq_true rfl), (Nat.le_of_ble_eq_true rfl)⟩ dL_law_291 rfl (fun g_221 hp_222 => ?_)
                                                                  obtain ⟨ho_224, hf_225⟩ := hp_222
                                                                  have hf_226 : vIA cy B g_221 141 64 F1_141 := vIA_fr hf_220 (fun q h1 h2 => hf_225 q (by omega))
                                                                  refine w_as (st' := [.long (zJ 1)]) (sc_l (by decide +kernel) rfl) ?_
                                                                  refine w_lconst1 dL_law_294 ?_
                                                                  refine w_lcmp_neS 354 dL_law_295 dL_law_296 (by decide) ?_
                                                                  refine w_aload_n dL_law_299 rfl 2 rfl ?_
                                                                  refine w_iconst dL_law_300 ?_
                                                                  refine w_iconst dL_law_301 ?_
                                                                  refine w_iconst dL_law_302 ?_
                                                                  obtain ⟨fx_229, hfx_229⟩ := OW_0 ho_224
                                                                  refine w_calll (As := [.int (zI 0), .int (zI 0), .int (zI 1)]) (rest := []) (n := 3) (a_chance (s := 0) (law := 0) (part := 1) ho_224 (by omega) (by omega) ⟨by omega, by omega⟩ ⟨by omega, by omega⟩ ⟨by omega, by omega⟩) gL_law_X10_chance rfl rfl rfl (by decide +kernel) ⟨(Nat.le_of_ble_eq_true rfl), (Nat.le_of_ble_eq_true rfl)⟩ rfl (by omega) hfx_229 rfl (Nat.le_of_ble_eq_true rfl) ⟨(Nat.le_of_ble_eq_true rfl), (Nat.le_of_ble_eq_true rfl)⟩ dL_law_303 rfl (fun g_227 hp_228 => ?_)
                                                                  obtain ⟨ho_230, hf_231⟩ := hp_228
                                                                  have hf_232 : vIA cy B g_227 141 64 F1_141 := vIA_fr hf_226 (fun q h1 h2 => hf_231 q (by omega))
                                                                  refine w_as (st' := [.long (zJ 1)]) (sc_l (by decide +kernel) rfl) ?_
                                                                  refine w_lconst1 dL_law_306 ?_
                                                                  refine w_lcmp_neS 354 dL_law_307 dL_law_308 (by decide) ?_
                                                                  refine w_aload_n dL_law_311 rfl 2 rfl ?_
                                                                  refine w_iconst dL_law_312 ?_
                                                                  obtain ⟨fx_235, hfx_235⟩ := OW_0 ho_230
                                                                  refine w_calli (As := [.int (zI 0)]) (rest := []) (n := 1) (a_turn (s := 0) ho_230 (by omega) (by omega) ⟨by omega, by omega⟩) gL_law_X10_turn rfl rfl rfl (by decide +kernel) ⟨(Nat.le_of_ble_eq_true rfl), (Nat.le_of_ble_eq_true rfl)⟩ rfl (by omega) hfx_235 rfl (Nat.le_of_ble_eq_true rfl) ⟨(Nat.le_of_ble_eq_true rfl), (Nat.le_of_ble_eq_true rfl)⟩ dL_law_313 rfl (fun g_233 hp_234 => ?_)
                                                                  obtain ⟨ho_236, hf_237⟩ := hp_234
                                                                  have hf_238 : vIA cy B g_233 141 64 F1_141 := vIA_fr hf_232 (fun q h1 h2 => hf_237 q (by omega))
                                                                  have hT9 : stTurn [[(12, 0, 3), (1, 0, 9)]] 0 = (13, [[(12, 12, 3), (1, 1, 9)]]) := by decide +kernel
                                                                  have ho_239 : OW cy B g_233 0 (((([]) ++ sayL 115 59 0 0) ++ tcol 12 0 3) ++ tcol 1 0 9) ([[(12, 12, 3), (1, 1, 9)]]) ([[[(12, 0, 3), (1, 0, 9)]]]) (((9000 + 20) + 20) + 20) := by have h9 := ho_236; rw [hT9] at h9; exact h9
                                                                  refine w_as (st' := [.int (zI 13)]) (sc_i (by rw [hT9]) rfl) ?_
                                                                  refine w_bipush dL_law_316 (by decide) ?_
                                                                  refine w_icmp_neS 354 dL_law_318 (by decide) ?_
                                                                  refine w_aload_n dL_law_321 rfl 2 rfl ?_
                                                                  refine w_iconst dL_law_322 ?_
                                                                  refine w_bipush dL_law_323 (by decide) ?_
                                                                  obtain ⟨fx_242, hfx_242⟩ := OW_0 ho_239
                                                                  refine w_calli (As := [.int (zI 0), .int (zI 6)]) (rest := []) (n := 2) (a_stratum (s := 0) (what := 6) ho_239 (by omega) (by omega) ⟨by omega, by omega⟩ ⟨by omega, by omega⟩) gL_law_X10_stratum rfl rfl rfl (by decide +kernel) ⟨(Nat.le_of_ble_eq_true rfl), (Nat.le_of_ble_eq_true rfl)⟩ rfl (by omega) hfx_242 rfl (Nat.le_of_ble_eq_true rfl) ⟨(Nat.le_of_ble_eq_true rfl), (Nat.le_of_ble_eq_true rfl)⟩ dL_law_325 rfl (fun g_240 hp_241 => ?_)
                                                                  obtain ⟨ho_243, hf_244⟩ := hp_241
                                                                  have hf_245 : vIA cy B g_240 141 64 F1_141 := vIA_fr hf_238 (fun q h1 h2 => hf_244 q (by omega))
                                                                  refine w_as (st' := [.int (zI 45)]) (sc_i (by decide +kernel) rfl) ?_
                                                                  refine w_bipush dL_law_328 (by decide) ?_
                                                                  refine w_icmp_neS 354 dL_law_330 (by decide) ?_
                                                                  refine w_aload_n dL_law_333 rfl 2 rfl ?_
                                                                  refine w_iconst dL_law_334 ?_
                                                                  refine w_iconst dL_law_335 ?_
                                                                  refine w_iconst dL_law_336 ?_
                                                                  obtain ⟨fx_248, hfx_248⟩ := OW_0 ho_243
                                                                  refine w_calli (As := [.int (zI 0), .int (zI 0), .int (zI 1)]) (rest := []) (n := 3) (r_move (s := 0) (a := 0) (b := 1) (e := (-2)) ho_243 (by omega) (by omega) ⟨by omega, by omega⟩ ⟨by omega, by omega⟩ ⟨by omega, by omega⟩ (by decide +kernel) (by omega)) gL_law_X10_move rfl rfl rfl (by decide +kernel) ⟨(Nat.le_of_ble_eq_true rfl), (Nat.le_of_ble_eq_true rfl)⟩ rfl (by omega) hfx_248 rfl (Nat.le_of_ble_eq_true rfl) ⟨(Nat.le_of_ble_eq_true rfl), (Nat.le_of_ble_eq_true rfl)⟩ dL_law_337 rfl (fun g_246 hp_247 => ?_)
                                                                  obtain ⟨ho_249, hf_250⟩ := hp_247
                                                                  have hf_251 : vIA cy B g_246 141 64 F1_141 := vIA_fr hf_245 (fun q h1 h2 => hf_250 q (by omega))
                                                                  refine w_bipush dL_law_340 (by decide) ?_
                                                                  refine w_icmp_neS 354 dL_law_342 (by decide) ?_
                                                                  refine w_aload_n dL_law_345 rfl 2 rfl ?_
                                                                  refine w_iconst dL_law_346 ?_
                                                                  refine w_iconst dL_law_347 ?_
                                                                  refine w_calliS (As := [.ref (B + 0), .int (zI 0), .int (zI 0)]) (rest := []) (n := 3) (c_holds (k := 0) (x := 0) ho_249 (by omega) (by omega) (by decide +kernel)) gL_law_L_holds rfl rfl rfl (by decide +kernel) ⟨(Nat.le_of_ble_eq_true rfl), (Nat.le_of_ble_eq_true rfl)⟩ rfl (Nat.le_of_ble_eq_true rfl) ⟨(Nat.le_of_ble_eq_true rfl), (Nat.le_of_ble_eq_true rfl)⟩ dL_law_348 rfl (fun g_252 hp_253 => ?_)
                                                                  obtain ⟨ho_254, hf_255⟩ := hp_253
                                                                  have hf_256 : vIA cy B g_252 141 64 F1_141 := vIA_fr hf_251 (fun q h1 h2 => hf_255 q (by omega))
                                                                  refine w_if_ne 356 dL_law_351 (by decide) (by first | omega | with_reducible rfl) (fun c_351 => ?_) (fun c_351 => ?_)
                                                                  · refine w_aload_n dL_law_356 rfl 2 rfl ?_
                                                                    obtain ⟨fx_259, hfx_259⟩ := OW_0 ho_254
                                                                    refine w_calli (As := []) (rest := []) (n := 0) (a_wipe ho_254 (by omega) (by omega)) gL_law_X10_wipe rfl rfl rfl (by decide +kernel) ⟨(Nat.le_of_ble_eq_true rfl), (Nat.le_of_ble_eq_true rfl)⟩ rfl (by omega) hfx_259 rfl (Nat.le_of_ble_eq_true rfl) ⟨(Nat.le_of_ble_eq_true rfl), (Nat.le_of_ble_eq_true rfl)⟩ dL_law_357 rfl (fun g_257 hp_258 => ?_)
                                                                    obtain ⟨ho_260, hf_261⟩ := hp_258
                                                                    have hf_262 : vIA cy B g_257 141 64 F1_141 := vIA_fr hf_256 (fun q h1 h2 => hf_261 q (by omega))
                                                                    refine w_pop dL_law_360 rfl ?_
                                                                    refine w_iconst dL_law_361 ?_
                                                                    refine w_istore_n [(3, .int (zI 0)), (0, .ref b), (1, .ref (B + 0)), (2, .ref (B + 141)), (4, .int (zI ((i : Nat) : Int)))] dL_law_362 rfl (by decide) rfl ?_
                                                                    refine w_sub [(0, .ref b), (1, .ref (B + 0)), (2, .ref (B + 141)), (3, .int (zI 0))] [1, 2, 3, 0] rfl ?_
                                                                    refine w_lv (lv' := [(0, .ref b), (1, .ref (B + 0)), (2, .ref (B + 141)), (3, .int (zI ((0 : Nat) : Int)))]) (lc_s (lc_s (lc_s (lc_i (by first | omega | with_reducible rfl) rfl)))) ?_
                                                                    refine w_loop2 (fun (k : Nat) (gl_263 : (Nat → va_E)) => OW cy B gl_263 0 (List.replicate k 115) ([[(12, 12, 3), (1, 1, 9)]]) ([[[(12, 0, 3), (1, 0, 9)]]]) ((((9000 + 20) + 20) + 20) + 20) ∧ vIA cy B gl_263 141 64 F1_141 ∧ k ≤ 200) (fun (k : Nat) (gl_263 : (Nat → va_E)) => 200 - k) (fun (k : Nat) (gl_263 : (Nat → va_E)) => gl_263) (fun (k : Nat) (gl_263 : (Nat → va_E)) => [(0, .ref b), (1, .ref (B + 0)), (2, .ref (B + 141)), (3, .int (zI ((k : Nat) : Int)))]) ?_ 0 g_257 ⟨(by have h9 := ho_260; exact h9), hf_262, (by first | omega | with_reducible rfl)⟩
                                                                    rintro k gl_263 ⟨ho_264, hf_265, hk⟩ ih_363
                                                                    refine w_iload_n dL_law_363 rfl 3 rfl ?_
                                                                    refine w_sipush dL_law_364 (by decide) ?_
                                                                    refine w_icmp_ge 390 dL_law_367 (by decide) (by first | omega | with_reducible rfl) (by first | omega | with_reducible rfl) (fun c_367 => ?_) (fun c_367 => ?_)
                                                                    · refine w_aload_n dL_law_390 rfl 1 rfl ?_
                                                                      refine w_bipush dL_law_391 (by decide) ?_
                                                                      obtain ⟨fx_268, hfx_268⟩ := OW_0 ho_264
                                                                      refine w_calli (As := [.int (zI 115)]) (rest := []) (n := 1) (f_write (x := 115) ho_264 (by omega) (by omega) ⟨by omega, by omega⟩ (by first | omega | with_reducible rfl) (by rw [List.length_replicate]; omega)) gL_law_X10_write rfl rfl rfl (by decide +kernel) ⟨(Nat.le_of_ble_eq_true rfl), (Nat.le_of_ble_eq_true rfl)⟩ rfl (by omega) hfx_268 rfl (Nat.le_of_ble_eq_true rfl) ⟨(Nat.le_of_ble_eq_true rfl), (Nat.le_of_ble_eq_true rfl)⟩ dL_law_393 rfl (fun g_266 hp_267 => ?_)
                                                                      obtain ⟨ho_269, hf_270⟩ := hp_267
                                                                      have hf_271 : vIA cy B g_266 141 64 F1_141 := vIA_fr hf_265 (fun q h1 h2 => hf_270 q (by omega))
                                                                      refine w_bipush dL_law_396 (by decide) ?_
                                                                      refine w_icmp_neS 422 dL_law_398 (by decide) ?_
                                                                      refine w_aload_n dL_law_401 rfl 1 rfl ?_
                                                                      obtain ⟨fx_274, hfx_274⟩ := OW_0 ho_269
                                                                      refine w_calli (As := []) (rest := []) (n := 0) (a_fault ho_269 (by omega) (by omega)) gL_law_X10_fault rfl rfl rfl (by decide +kernel) ⟨(Nat.le_of_ble_eq_true rfl), (Nat.le_of_ble_eq_true rfl)⟩ rfl (by omega) hfx_274 rfl (Nat.le_of_ble_eq_true rfl) ⟨(Nat.le_of_ble_eq_true rfl), (Nat.le_of_ble_eq_true rfl)⟩ dL_law_402 rfl (fun g_272 hp_273 => ?_)
                                                                      obtain ⟨ho_275, hf_276⟩ := hp_273
                                                                      have hf_277 : vIA cy B g_272 141 64 F1_141 := vIA_fr hf_271 (fun q h1 h2 => hf_276 q (by omega))
                                                                      refine w_as (st' := [.int (zI 0)]) (sc_i (by rw [show k = 200 by omega]; decide +kernel) rfl) ?_
                                                                      refine w_if_ne 422 dL_law_405 (by decide) (by first | omega | with_reducible rfl) (fun c_405 => ?_) (fun c_405 => ?_)
                                                                      · exfalso; omega
                                                                      · refine w_aload_n dL_law_408 rfl 1 rfl ?_
                                                                        obtain ⟨fx_280, hfx_280⟩ := OW_0 ho_275
                                                                        refine w_calli (As := []) (rest := []) (n := 0) (a_wipe ho_275 (by omega) (by omega)) gL_law_X10_wipe rfl rfl rfl (by decide +kernel) ⟨(Nat.le_of_ble_eq_true rfl), (Nat.le_of_ble_eq_true rfl)⟩ rfl (by omega) hfx_280 rfl (Nat.le_of_ble_eq_true rfl) ⟨(Nat.le_of_ble_eq_true rfl), (Nat.le_of_ble_eq_true rfl)⟩ dL_law_409 rfl (fun g_278 hp_279 => ?_)
                                                                        obtain ⟨ho_281, hf_282⟩ := hp_279
                                                                        have hf_283 : vIA cy B g_278 141 64 F1_141 := vIA_fr hf_277 (fun q h1 h2 => hf_282 q (by omega))
                                                                        refine w_sipush dL_law_412 (by decide) ?_
                                                                        refine w_as (st' := [.int (zI 200), .int (zI 200)]) (lc_s (sc_i (by rw [List.length_replicate]; omega) rfl)) ?_
                                                                        refine w_icmp_neS 422 dL_law_415 (by decide) ?_
                                                                        refine w_iconst dL_law_418 ?_
                                                                        refine w_goto 423 dL_law_419 (by decide) ?_
                                                                        intro C hb hz H locs ls hP hS hl
                                                                        subst hBs
                                                                        refine va_forget (fun q hq => hS.2.2 q hq) ?_
                                                                        refine W.widen (k := 600000) (n := 7302250) (Nat.le_of_ble_eq_true rfl) (Nat.le_of_ble_eq_true rfl) ?_
                                                                        exact lw_ret C.1 C.2.1 C.2.2.2.2.2.2.1 C.2.2.2.2.2.2.2 dL_law_423
                                                                    · refine w_aload_n dL_law_370 rfl 1 rfl ?_
                                                                      refine w_bipush dL_law_371 (by decide) ?_
                                                                      obtain ⟨fx_286, hfx_286⟩ := OW_0 ho_264
                                                                      refine w_calli (As := [.int (zI 115)]) (rest := []) (n := 1) (a_write (x := 115) ho_264 (by omega) (by omega) ⟨by omega, by omega⟩ (by first | omega | with_reducible rfl) (by rw [List.length_replicate]; omega)) gL_law_X10_write rfl rfl rfl (by decide +kernel) ⟨(Nat.le_of_ble_eq_true rfl), (Nat.le_of_ble_eq_true rfl)⟩ rfl (by omega) hfx_286 rfl (Nat.le_of_ble_eq_true rfl) ⟨(Nat.le_of_ble_eq_true rfl), (Nat.le_of_ble_eq_true rfl)⟩ dL_law_373 rfl (fun g_284 hp_285 => ?_)
                                                                      obtain ⟨ho_287, hf_288⟩ := hp_285
                                                                      have hf_289 : vIA cy B g_284 141 64 F1_141 := vIA_fr hf_265 (fun q h1 h2 => hf_288 q (by omega))
                                                                      refine w_iload_n dL_law_376 rfl 3 rfl ?_
                                                                      refine w_iconst dL_law_377 ?_
                                                                      refine w_iadd dL_law_378 ?_
                                                                      refine w_as (st' := [.int (zI (((k : Nat) : Int) + 1)), .int (zI (((k : Nat) : Int) + 1))]) (lc_s (sc_i (by rw [List.length_replicate]; omega) rfl)) ?_
                                                                      refine w_icmp_eqS 384 dL_law_379 (by decide) ?_
                                                                      refine w_iinc 3 [(3, .int (zI (((k : Nat) : Int) + 1))), (0, .ref b), (1, .ref (B + 0)), (2, .ref (B + 141))] dL_law_384 rfl (by decide) rfl ?_
                                                                      refine w_goto 363 dL_law_387 (by decide) ?_
                                                                      refine w_sub [(0, .ref b), (1, .ref (B + 0)), (2, .ref (B + 141)), (3, .int (zI (((k : Nat) : Int) + 1)))] [1, 2, 3, 0] rfl ?_
                                                                      refine w_lv (lv' := [(0, .ref b), (1, .ref (B + 0)), (2, .ref (B + 141)), (3, .int (zI (((k + 1) : Nat) : Int)))]) (lc_s (lc_s (lc_s (lc_i (by first | omega | with_reducible rfl) rfl)))) ?_
                                                                      exact ih_363 (k + 1) g_284 ⟨(by have h9 := ho_287; (rw [List.replicate_succ']; exact h9)), hf_289, (by first | omega | with_reducible rfl)⟩ (by first | omega | with_reducible rfl)
                                                                  · exfalso; omega
                                                                · exfalso; omega
                                                              · exfalso; omega
                                                            · exfalso; omega
                                                      · refine w_aload_n dL_law_115 rfl 1 rfl ?_
                                                        refine w_iload dL_law_116 4 rfl ?_
                                                        refine w_aload_n dL_law_118 rfl 0 rfl ?_
                                                        refine w_bipush dL_law_119 (by decide) ?_
                                                        refine w_iload_n dL_law_121 rfl 3 rfl ?_
                                                        refine w_imul dL_law_122 ?_
                                                        refine w_bipush dL_law_123 (by decide) ?_
                                                        refine w_iadd dL_law_125 ?_
                                                        refine w_iload dL_law_126 4 rfl ?_
                                                        refine w_iadd dL_law_128 ?_
                                                        refine w_calliX (As := [.ref b, .int (zI (((40 * (((0 + 1) + 1) + 1)) + 20) + ((i : Nat) : Int)))]) (rest := [.int (zI ((i : Nat) : Int)), .ref (B + 0)]) (n := 2) (mc := 0) (ms := 0) hsx (c_cell (k := (((40 * (((0 + 1) + 1) + 1)) + 20) + ((i : Nat) : Int))) (by first | omega | with_reducible rfl) (by first | omega | with_reducible rfl)) gL_law_L_cell rfl rfl rfl (by decide +kernel) ⟨(Nat.le_of_ble_eq_true rfl), (Nat.le_of_ble_eq_true rfl)⟩ rfl (Nat.le_of_ble_eq_true rfl) ⟨(Nat.le_of_ble_eq_true rfl), (Nat.le_of_ble_eq_true rfl)⟩ dL_law_129 rfl (fun g_290 hp_291 => ?_)
                                                        subst g_290
                                                        refine w_calliS (As := [.ref (B + 0), .int (zI ((i : Nat) : Int)), .int (zI (clZ xs L (((40 * (((0 + 1) + 1) + 1)) + 20) + ((i : Nat) : Int))))]) (rest := []) (n := 3) (c_holds (k := i) (x := (clZ xs L (((40 * (((0 + 1) + 1) + 1)) + 20) + ((i : Nat) : Int)))) ho_147 (by omega) (by omega) (by first | omega | with_reducible rfl)) gL_law_L_holds rfl rfl rfl (by decide +kernel) ⟨(Nat.le_of_ble_eq_true rfl), (Nat.le_of_ble_eq_true rfl)⟩ rfl (Nat.le_of_ble_eq_true rfl) ⟨(Nat.le_of_ble_eq_true rfl), (Nat.le_of_ble_eq_true rfl)⟩ dL_law_132 rfl (fun g_292 hp_293 => ?_)
                                                        obtain ⟨ho_294, hf_295⟩ := hp_293
                                                        have hf_296 : vIA cy B g_292 141 64 F1_141 := vIA_fr hf_148 (fun q h1 h2 => hf_295 q (by omega))
                                                        refine w_if_eq 147 dL_law_135 (by decide) (by first | omega | with_reducible rfl) (fun c_135 => ?_) (fun c_135 => ?_)
                                                        · exfalso; omega
                                                        · refine w_aload_n dL_law_138 rfl 1 rfl ?_
                                                          refine w_iload dL_law_139 4 rfl ?_
                                                          refine w_calliS (As := [.ref (B + 0), .int (zI ((i : Nat) : Int))]) (rest := []) (n := 2) (c_turns (k := i) ho_294 (by omega) (by omega) (by first | omega | with_reducible rfl)) gL_law_L_turns rfl rfl rfl (by decide +kernel) ⟨(Nat.le_of_ble_eq_true rfl), (Nat.le_of_ble_eq_true rfl)⟩ rfl (Nat.le_of_ble_eq_true rfl) ⟨(Nat.le_of_ble_eq_true rfl), (Nat.le_of_ble_eq_true rfl)⟩ dL_law_141 rfl (fun g_297 hp_298 => ?_)
                                                          obtain ⟨P1_299, ho_300, hf_301⟩ := hp_298
                                                          have hf_302 : vIA cy B g_297 141 64 F1_141 := vIA_fr hf_296 (fun q h1 h2 => hf_301 q (by omega))
                                                          refine w_if_ne 149 dL_law_144 (by decide) (by first | omega | with_reducible rfl) (fun c_144 => ?_) (fun c_144 => ?_)
                                                          · refine w_iinc 4 [(4, .int (zI (((i : Nat) : Int) + 1))), (0, .ref b), (1, .ref (B + 0)), (2, .ref (B + 141)), (3, .int (zI (((0 + 1) + 1) + 1)))] dL_law_149 rfl (by decide) rfl ?_
                                                            refine w_goto 107 dL_law_152 (by decide) ?_
                                                            refine w_sub [(0, .ref b), (1, .ref (B + 0)), (2, .ref (B + 141)), (3, .int (zI (((0 + 1) + 1) + 1))), (4, .int (zI (((i : Nat) : Int) + 1)))] [1, 2, 3, 4, 0] rfl ?_
                                                            refine w_lv (lv' := [(0, .ref b), (1, .ref (B + 0)), (2, .ref (B + 141)), (3, .int (zI (((0 + 1) + 1) + 1))), (4, .int (zI (((i + 1) : Nat) : Int)))]) (lc_s (lc_s (lc_s (lc_s (lc_i (by first | omega | with_reducible rfl) rfl))))) ?_
                                                            exact ih_107 (i + 1) P1_299 g_297 ⟨(by have h9 := ho_300; exact OW_up h9 (by omega)), hf_302, (by first | omega | with_reducible rfl)⟩ (by first | omega | with_reducible rfl)
                                                          · exfalso; omega
                                                    · exfalso; omega
                                                  · exfalso; omega
                                              · exfalso; omega
                                        · refine w_aload_n dL_law_115 rfl 1 rfl ?_
                                          refine w_iload dL_law_116 4 rfl ?_
                                          refine w_aload_n dL_law_118 rfl 0 rfl ?_
                                          refine w_bipush dL_law_119 (by decide) ?_
                                          refine w_iload_n dL_law_121 rfl 3 rfl ?_
                                          refine w_imul dL_law_122 ?_
                                          refine w_bipush dL_law_123 (by decide) ?_
                                          refine w_iadd dL_law_125 ?_
                                          refine w_iload dL_law_126 4 rfl ?_
                                          refine w_iadd dL_law_128 ?_
                                          refine w_calliX (As := [.ref b, .int (zI (((40 * ((0 + 1) + 1)) + 20) + ((i : Nat) : Int)))]) (rest := [.int (zI ((i : Nat) : Int)), .ref (B + 0)]) (n := 2) (mc := 0) (ms := 0) hsx (c_cell (k := (((40 * ((0 + 1) + 1)) + 20) + ((i : Nat) : Int))) (by first | omega | with_reducible rfl) (by first | omega | with_reducible rfl)) gL_law_L_cell rfl rfl rfl (by decide +kernel) ⟨(Nat.le_of_ble_eq_true rfl), (Nat.le_of_ble_eq_true rfl)⟩ rfl (Nat.le_of_ble_eq_true rfl) ⟨(Nat.le_of_ble_eq_true rfl), (Nat.le_of_ble_eq_true rfl)⟩ dL_law_129 rfl (fun g_303 hp_304 => ?_)
                                          subst g_303
                                          refine w_calliS (As := [.ref (B + 0), .int (zI ((i : Nat) : Int)), .int (zI (clZ xs L (((40 * ((0 + 1) + 1)) + 20) + ((i : Nat) : Int))))]) (rest := []) (n := 3) (c_holds (k := i) (x := (clZ xs L (((40 * ((0 + 1) + 1)) + 20) + ((i : Nat) : Int)))) ho_114 (by omega) (by omega) (by first | omega | with_reducible rfl)) gL_law_L_holds rfl rfl rfl (by decide +kernel) ⟨(Nat.le_of_ble_eq_true rfl), (Nat.le_of_ble_eq_true rfl)⟩ rfl (Nat.le_of_ble_eq_true rfl) ⟨(Nat.le_of_ble_eq_true rfl), (Nat.le_of_ble_eq_true rfl)⟩ dL_law_132 rfl (fun g_305 hp_306 => ?_)
                                          obtain ⟨ho_307, hf_308⟩ := hp_306
                                          have hf_309 : vIA cy B g_305 141 64 F1_108 := vIA_fr hf_115 (fun q h1 h2 => hf_308 q (by omega))
                                          refine w_if_eq 147 dL_law_135 (by decide) (by first | omega | with_reducible rfl) (fun c_135 => ?_) (fun c_135 => ?_)
                                          · exfalso; omega
                                          · refine w_aload_n dL_law_138 rfl 1 rfl ?_
                                            refine w_iload dL_law_139 4 rfl ?_
                                            refine w_calliS (As := [.ref (B + 0), .int (zI ((i : Nat) : Int))]) (rest := []) (n := 2) (c_turns (k := i) ho_307 (by omega) (by omega) (by first | omega | with_reducible rfl)) gL_law_L_turns rfl rfl rfl (by decide +kernel) ⟨(Nat.le_of_ble_eq_true rfl), (Nat.le_of_ble_eq_true rfl)⟩ rfl (Nat.le_of_ble_eq_true rfl) ⟨(Nat.le_of_ble_eq_true rfl), (Nat.le_of_ble_eq_true rfl)⟩ dL_law_141 rfl (fun g_310 hp_311 => ?_)
                                            obtain ⟨P1_312, ho_313, hf_314⟩ := hp_311
                                            have hf_315 : vIA cy B g_310 141 64 F1_108 := vIA_fr hf_309 (fun q h1 h2 => hf_314 q (by omega))
                                            refine w_if_ne 149 dL_law_144 (by decide) (by first | omega | with_reducible rfl) (fun c_144 => ?_) (fun c_144 => ?_)
                                            · refine w_iinc 4 [(4, .int (zI (((i : Nat) : Int) + 1))), (0, .ref b), (1, .ref (B + 0)), (2, .ref (B + 141)), (3, .int (zI ((0 + 1) + 1)))] dL_law_149 rfl (by decide) rfl ?_
                                              refine w_goto 107 dL_law_152 (by decide) ?_
                                              refine w_sub [(0, .ref b), (1, .ref (B + 0)), (2, .ref (B + 141)), (3, .int (zI ((0 + 1) + 1))), (4, .int (zI (((i : Nat) : Int) + 1)))] [1, 2, 3, 4, 0] rfl ?_
                                              refine w_lv (lv' := [(0, .ref b), (1, .ref (B + 0)), (2, .ref (B + 141)), (3, .int (zI ((0 + 1) + 1))), (4, .int (zI (((i + 1) : Nat) : Int)))]) (lc_s (lc_s (lc_s (lc_s (lc_i (by first | omega | with_reducible rfl) rfl))))) ?_
                                              exact ih_107 (i + 1) P1_312 g_310 ⟨(by have h9 := ho_313; exact OW_up h9 (by omega)), hf_315, (by first | omega | with_reducible rfl)⟩ (by first | omega | with_reducible rfl)
                                            · exfalso; omega
                                      · exfalso; omega
                                    · exfalso; omega
                                · exfalso; omega
                          · refine w_aload_n dL_law_115 rfl 1 rfl ?_
                            refine w_iload dL_law_116 4 rfl ?_
                            refine w_aload_n dL_law_118 rfl 0 rfl ?_
                            refine w_bipush dL_law_119 (by decide) ?_
                            refine w_iload_n dL_law_121 rfl 3 rfl ?_
                            refine w_imul dL_law_122 ?_
                            refine w_bipush dL_law_123 (by decide) ?_
                            refine w_iadd dL_law_125 ?_
                            refine w_iload dL_law_126 4 rfl ?_
                            refine w_iadd dL_law_128 ?_
                            refine w_calliX (As := [.ref b, .int (zI (((40 * (0 + 1)) + 20) + ((i : Nat) : Int)))]) (rest := [.int (zI ((i : Nat) : Int)), .ref (B + 0)]) (n := 2) (mc := 0) (ms := 0) hsx (c_cell (k := (((40 * (0 + 1)) + 20) + ((i : Nat) : Int))) (by first | omega | with_reducible rfl) (by first | omega | with_reducible rfl)) gL_law_L_cell rfl rfl rfl (by decide +kernel) ⟨(Nat.le_of_ble_eq_true rfl), (Nat.le_of_ble_eq_true rfl)⟩ rfl (Nat.le_of_ble_eq_true rfl) ⟨(Nat.le_of_ble_eq_true rfl), (Nat.le_of_ble_eq_true rfl)⟩ dL_law_129 rfl (fun g_316 hp_317 => ?_)
                            subst g_316
                            refine w_calliS (As := [.ref (B + 0), .int (zI ((i : Nat) : Int)), .int (zI (clZ xs L (((40 * (0 + 1)) + 20) + ((i : Nat) : Int))))]) (rest := []) (n := 3) (c_holds (k := i) (x := (clZ xs L (((40 * (0 + 1)) + 20) + ((i : Nat) : Int)))) ho_81 (by omega) (by omega) (by first | omega | with_reducible rfl)) gL_law_L_holds rfl rfl rfl (by decide +kernel) ⟨(Nat.le_of_ble_eq_true rfl), (Nat.le_of_ble_eq_true rfl)⟩ rfl (Nat.le_of_ble_eq_true rfl) ⟨(Nat.le_of_ble_eq_true rfl), (Nat.le_of_ble_eq_true rfl)⟩ dL_law_132 rfl (fun g_318 hp_319 => ?_)
                            obtain ⟨ho_320, hf_321⟩ := hp_319
                            have hf_322 : vIA cy B g_318 141 64 F1_75 := vIA_fr hf_82 (fun q h1 h2 => hf_321 q (by omega))
                            refine w_if_eq 147 dL_law_135 (by decide) (by first | omega | with_reducible rfl) (fun c_135 => ?_) (fun c_135 => ?_)
                            · exfalso; omega
                            · refine w_aload_n dL_law_138 rfl 1 rfl ?_
                              refine w_iload dL_law_139 4 rfl ?_
                              refine w_calliS (As := [.ref (B + 0), .int (zI ((i : Nat) : Int))]) (rest := []) (n := 2) (c_turns (k := i) ho_320 (by omega) (by omega) (by first | omega | with_reducible rfl)) gL_law_L_turns rfl rfl rfl (by decide +kernel) ⟨(Nat.le_of_ble_eq_true rfl), (Nat.le_of_ble_eq_true rfl)⟩ rfl (Nat.le_of_ble_eq_true rfl) ⟨(Nat.le_of_ble_eq_true rfl), (Nat.le_of_ble_eq_true rfl)⟩ dL_law_141 rfl (fun g_323 hp_324 => ?_)
                              obtain ⟨P1_325, ho_326, hf_327⟩ := hp_324
                              have hf_328 : vIA cy B g_323 141 64 F1_75 := vIA_fr hf_322 (fun q h1 h2 => hf_327 q (by omega))
                              refine w_if_ne 149 dL_law_144 (by decide) (by first | omega | with_reducible rfl) (fun c_144 => ?_) (fun c_144 => ?_)
                              · refine w_iinc 4 [(4, .int (zI (((i : Nat) : Int) + 1))), (0, .ref b), (1, .ref (B + 0)), (2, .ref (B + 141)), (3, .int (zI (0 + 1)))] dL_law_149 rfl (by decide) rfl ?_
                                refine w_goto 107 dL_law_152 (by decide) ?_
                                refine w_sub [(0, .ref b), (1, .ref (B + 0)), (2, .ref (B + 141)), (3, .int (zI (0 + 1))), (4, .int (zI (((i : Nat) : Int) + 1)))] [1, 2, 3, 4, 0] rfl ?_
                                refine w_lv (lv' := [(0, .ref b), (1, .ref (B + 0)), (2, .ref (B + 141)), (3, .int (zI (0 + 1))), (4, .int (zI (((i + 1) : Nat) : Int)))]) (lc_s (lc_s (lc_s (lc_s (lc_i (by first | omega | with_reducible rfl) rfl))))) ?_
                                exact ih_107 (i + 1) P1_325 g_323 ⟨(by have h9 := ho_326; exact OW_up h9 (by omega)), hf_328, (by first | omega | with_reducible rfl)⟩ (by first | omega | with_reducible rfl)
                              · exfalso; omega
                        · exfalso; omega
                  · exfalso; omega
            · refine w_aload_n dL_law_115 rfl 1 rfl ?_
              refine w_iload dL_law_116 4 rfl ?_
              refine w_aload_n dL_law_118 rfl 0 rfl ?_
              refine w_bipush dL_law_119 (by decide) ?_
              refine w_iload_n dL_law_121 rfl 3 rfl ?_
              refine w_imul dL_law_122 ?_
              refine w_bipush dL_law_123 (by decide) ?_
              refine w_iadd dL_law_125 ?_
              refine w_iload dL_law_126 4 rfl ?_
              refine w_iadd dL_law_128 ?_
              refine w_calliX (As := [.ref b, .int (zI (((40 * 0) + 20) + ((i : Nat) : Int)))]) (rest := [.int (zI ((i : Nat) : Int)), .ref (B + 0)]) (n := 2) (mc := 0) (ms := 0) hsx (c_cell (k := (((40 * 0) + 20) + ((i : Nat) : Int))) (by first | omega | with_reducible rfl) (by first | omega | with_reducible rfl)) gL_law_L_cell rfl rfl rfl (by decide +kernel) ⟨(Nat.le_of_ble_eq_true rfl), (Nat.le_of_ble_eq_true rfl)⟩ rfl (Nat.le_of_ble_eq_true rfl) ⟨(Nat.le_of_ble_eq_true rfl), (Nat.le_of_ble_eq_true rfl)⟩ dL_law_129 rfl (fun g_329 hp_330 => ?_)
              subst g_329
              refine w_calliS (As := [.ref (B + 0), .int (zI ((i : Nat) : Int)), .int (zI (clZ xs L (((40 * 0) + 20) + ((i : Nat) : Int))))]) (rest := []) (n := 3) (c_holds (k := i) (x := (clZ xs L (((40 * 0) + 20) + ((i : Nat) : Int)))) ho_48 (by omega) (by omega) (by first | omega | with_reducible rfl)) gL_law_L_holds rfl rfl rfl (by decide +kernel) ⟨(Nat.le_of_ble_eq_true rfl), (Nat.le_of_ble_eq_true rfl)⟩ rfl (Nat.le_of_ble_eq_true rfl) ⟨(Nat.le_of_ble_eq_true rfl), (Nat.le_of_ble_eq_true rfl)⟩ dL_law_132 rfl (fun g_331 hp_332 => ?_)
              obtain ⟨ho_333, hf_334⟩ := hp_332
              have hf_335 : vIA cy B g_331 141 64 F1_42 := vIA_fr hf_49 (fun q h1 h2 => hf_334 q (by omega))
              refine w_if_eq 147 dL_law_135 (by decide) (by first | omega | with_reducible rfl) (fun c_135 => ?_) (fun c_135 => ?_)
              · exfalso; omega
              · refine w_aload_n dL_law_138 rfl 1 rfl ?_
                refine w_iload dL_law_139 4 rfl ?_
                refine w_calliS (As := [.ref (B + 0), .int (zI ((i : Nat) : Int))]) (rest := []) (n := 2) (c_turns (k := i) ho_333 (by omega) (by omega) (by first | omega | with_reducible rfl)) gL_law_L_turns rfl rfl rfl (by decide +kernel) ⟨(Nat.le_of_ble_eq_true rfl), (Nat.le_of_ble_eq_true rfl)⟩ rfl (Nat.le_of_ble_eq_true rfl) ⟨(Nat.le_of_ble_eq_true rfl), (Nat.le_of_ble_eq_true rfl)⟩ dL_law_141 rfl (fun g_336 hp_337 => ?_)
                obtain ⟨P1_338, ho_339, hf_340⟩ := hp_337
                have hf_341 : vIA cy B g_336 141 64 F1_42 := vIA_fr hf_335 (fun q h1 h2 => hf_340 q (by omega))
                refine w_if_ne 149 dL_law_144 (by decide) (by first | omega | with_reducible rfl) (fun c_144 => ?_) (fun c_144 => ?_)
                · refine w_iinc 4 [(4, .int (zI (((i : Nat) : Int) + 1))), (0, .ref b), (1, .ref (B + 0)), (2, .ref (B + 141)), (3, .int (zI 0))] dL_law_149 rfl (by decide) rfl ?_
                  refine w_goto 107 dL_law_152 (by decide) ?_
                  refine w_sub [(0, .ref b), (1, .ref (B + 0)), (2, .ref (B + 141)), (3, .int (zI 0)), (4, .int (zI (((i : Nat) : Int) + 1)))] [1, 2, 3, 4, 0] rfl ?_
                  refine w_lv (lv' := [(0, .ref b), (1, .ref (B + 0)), (2, .ref (B + 141)), (3, .int (zI 0)), (4, .int (zI (((i + 1) : Nat) : Int)))]) (lc_s (lc_s (lc_s (lc_s (lc_i (by first | omega | with_reducible rfl) rfl))))) ?_
                  exact ih_107 (i + 1) P1_338 g_336 ⟨(by have h9 := ho_339; exact OW_up h9 (by omega)), hf_341, (by first | omega | with_reducible rfl)⟩ (by first | omega | with_reducible rfl)
                · exfalso; omega
          · exfalso; omega
    · exfalso; omega
