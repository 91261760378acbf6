/-! ===== the law's own methods: strata told by a text, refused calls, changes undone ===== -/
theorem wid_len {W : List Int} {T X V : Int} (hV : V ≤ 9) : (W ++ tcol T X V).length ≤ W.length + 9 := by
  have h := @tcol_len T X V hV
  rw [List.length_append]
  omega
theorem col_app {W : List Int} {T X V : Int} : W ++ tcol T X V = (((W ++ [99]) ++ tno T 44) ++ tno X 44) ++ tno V 59 := by
  unfold tcol
  simp [List.append_assoc]
theorem lyd_snoc {S : St} {x : List Co} (h : ∀ k : Nat, k < S.length → 2 ≤ (S.getD k []).length) (hx : 2 ≤ x.length) : ∀ k : Nat, k < (S ++ [x]).length → 2 ≤ ((S ++ [x]).getD k []).length := fun k hk => by
  rw [List.length_append, List.length_singleton] at hk
  by_cases hq : k = S.length
  · subst hq
    rw [gD_e]
    exact hx
  · rw [gD_l (by omega)]
    exact h k (by omega)
theorem r_set {l : Launch} {D : va_G} {cy : Nat → ClassId} {B N : Nat} {g : Nat → va_E} {W : List Int} {S : St} {P : List St} {M : Int} {s j what x e : Int} (ho : OW cy B g 0 W S P M) (hN : 141 ≤ N) (hM : M < 2147480000) (h_s : -2147483648 ≤ s ∧ s < 2147483648) (h_j : -2147483648 ≤ j ∧ j < 2147483648) (h_what : -2147483648 ≤ what ∧ what < 2147483648) (h_x : -2147483648 ≤ x ∧ x < 2147483648) (hE : stSet S s j what x = (e, S)) (he : e < 0) : CTi l yX10_set wsX10_set (rmo 2 63) D cy B N g [.ref (B + 0), .int (zI s), .int (zI j), .int (zI what), .int (zI x)] e (fun g' => OW cy B g' 0 W S P (M + 20) ∧ (∀ q, 141 ≤ q → g' q = g q)) := by
  have h := a_set ho hN hM h_s h_j h_what h_x (l := l) (D := D)
  rw [hE] at h
  refine CTi_mono h rfl (fun g' hp => ?_)
  have hp' : OW cy B g' 0 W S (past e S P) (M + 20) ∧ (∀ q, 141 ≤ q → g' q = g q) := hp
  rw [past_no he] at hp'
  exact hp'

theorem r_move {l : Launch} {D : va_G} {cy : Nat → ClassId} {B N : Nat} {g : Nat → va_E} {W : List Int} {S : St} {P : List St} {M : Int} {s a b e : Int} (ho : OW cy B g 0 W S P M) (hN : 141 ≤ N) (hM : M < 2147480000) (h_s : -2147483648 ≤ s ∧ s < 2147483648) (h_a : -2147483648 ≤ a ∧ a < 2147483648) (h_b : -2147483648 ≤ b ∧ b < 2147483648) (hE : stMove S s a b = (e, S)) (he : e < 0) : CTi l yX10_move wsX10_move (rmo 2 63) D cy B N g [.ref (B + 0), .int (zI s), .int (zI a), .int (zI b)] e (fun g' => OW cy B g' 0 W S P (M + 20) ∧ (∀ q, 141 ≤ q → g' q = g q)) := by
  have h := a_move ho hN hM h_s h_a h_b (l := l) (D := D)
  rw [hE] at h
  refine CTi_mono h rfl (fun g' hp => ?_)
  have hp' : OW cy B g' 0 W S (past e S P) (M + 20) ∧ (∀ q, 141 ≤ q → g' q = g q) := hp
  rw [past_no he] at hp'
  exact hp'

theorem r_turn {l : Launch} {D : va_G} {cy : Nat → ClassId} {B N : Nat} {g : Nat → va_E} {W : List Int} {S : St} {P : List St} {M : Int} {s e : Int} (ho : OW cy B g 0 W S P M) (hN : 141 ≤ N) (hM : M < 2147480000) (h_s : -2147483648 ≤ s ∧ s < 2147483648) (hE : stTurn S s = (e, S)) (he : e < 0) : CTi l yX10_turn wsX10_turn (rmo 2 63) D cy B N g [.ref (B + 0), .int (zI s)] e (fun g' => OW cy B g' 0 W S P (M + 20) ∧ (∀ q, 141 ≤ q → g' q = g q)) := by
  have h := a_turn ho hN hM h_s (l := l) (D := D)
  rw [hE] at h
  refine CTi_mono h rfl (fun g' hp => ?_)
  have hp' : OW cy B g' 0 W S (past e S P) (M + 20) ∧ (∀ q, 141 ≤ q → g' q = g q) := hp
  rw [past_no he] at hp'
  exact hp'

set_option maxHeartbeats 16000000 in
set_option maxRecDepth 100000 in
theorem c_lays {l : Launch} {D : va_G} {cy : Nat → ClassId} {B N : Nat} {g : Nat → va_E} {b L : Nat} {xs : Nat → Int32} {W : List Int} {S : St} {P : List St} {M : Int} {F : Int → Int} {fb : Nat} {from1 strata columns all score : Int} (ho : OW cy B g 0 W S P M) (hf : vIA cy B g fb 64 F) (hN : 141 ≤ N) (hM : M < 2147470000) (hL : L ≤ 260) (hfb : 141 ≤ fb ∧ fb < N) (hfm : 0 ≤ from1 ∧ from1 ≤ 1000) (hst : 1 ≤ strata ∧ strata ≤ 3) (hco : 2 + 1 ≤ columns ∧ columns ≤ 5) (hal : 1 ≤ all ∧ all ≤ 12) (hsc : 0 ≤ score ∧ score ≤ 9) : CTiX l yL_lays wsL_lays (rmo 7 160) D cy B N g b L xs [.ref (B + 0), .ref b, .int (zI from1), .int (zI strata), .int (zI columns), .int (zI all), .int (zI score), .ref (B + fb)] 1 0 0 (fun g' => ∃ W1 : List Int, ∃ S1 : St, ∃ F1 : Int → Int, OW cy B g' 0 W1 S1 ([]) (M + 20) ∧ vIA cy B g' fb 64 F1 ∧ (F1 0 = ((S1.length : Nat) : Int)) ∧ (∀ q, 141 ≤ q ∧ q ≠ fb → g' q = g q)) := by
  refine WW_ofX (cc := cL_lays) (maxL := 12) (ret := (some .boolean)) (own := RL) (by decide) rfl rfl (Nat.le_of_ble_eq_true rfl) rfl ?_
  intro pp ee ss mm bl me co hmn hsx
  have hfr_0 : ∀ q, 141 ≤ q ∧ q ≠ fb → g q = g q := fun _ _ => rfl
  refine w_iconst dL_lays_0 ?_
  refine w_istore [(8, .int (zI 0)), (0, .ref (B + 0)), (1, .ref b), (2, .int (zI from1)), (3, .int (zI strata)), (4, .int (zI columns)), (5, .int (zI all)), (6, .int (zI score)), (7, .ref (B + fb))] dL_lays_1 (by decide) rfl ?_
  refine w_sub [(0, .ref (B + 0)), (1, .ref b), (2, .int (zI from1)), (3, .int (zI strata)), (4, .int (zI columns)), (5, .int (zI all)), (6, .int (zI score)), (7, .ref (B + fb)), (8, .int (zI 0))] [1, 2, 3, 4, 5, 6, 7, 8, 0] rfl ?_
  refine w_lv (lv' := [(0, .ref (B + 0)), (1, .ref b), (2, .int (zI from1)), (3, .int (zI strata)), (4, .int (zI columns)), (5, .int (zI all)), (6, .int (zI score)), (7, .ref (B + fb)), (8, .int (zI ((0 : Nat) : Int)))]) (lc_s (lc_s (lc_s (lc_s (lc_s (lc_s (lc_s (lc_s (lc_i (by first | omega | with_reducible rfl) rfl))))))))) ?_
  refine w_loop3 (fun (k : Nat) (Fk : Int → Int) (gl_1 : (Nat → va_E)) => OW cy B gl_1 0 W S P M ∧ vIA cy B gl_1 fb 64 Fk ∧ (∀ q, 141 ≤ q ∧ q ≠ fb → gl_1 q = g q) ∧ k ≤ 49) (fun (k : Nat) (Fk : Int → Int) (gl_1 : (Nat → va_E)) => 49 - k) (fun (k : Nat) (Fk : Int → Int) (gl_1 : (Nat → va_E)) => gl_1) (fun (k : Nat) (Fk : Int → Int) (gl_1 : (Nat → va_E)) => [(0, .ref (B + 0)), (1, .ref b), (2, .int (zI from1)), (3, .int (zI strata)), (4, .int (zI columns)), (5, .int (zI all)), (6, .int (zI score)), (7, .ref (B + fb)), (8, .int (zI ((k : Nat) : Int)))]) ?_ 0 F g ⟨ho, hf, hfr_0, (by first | omega | with_reducible rfl)⟩
  rintro k Fk gl_1 ⟨ho_2, hf_3, hfr_4, hk⟩ ih_3
  refine w_iload dL_lays_3 8 rfl ?_
  refine w_bipush dL_lays_5 (by decide) ?_
  refine w_icmp_ge 22 dL_lays_7 (by decide) (by first | omega | with_reducible rfl) (by first | omega | with_reducible rfl) (fun c_7 => ?_) (fun c_7 => ?_)
  · refine w_aload_n dL_lays_22 rfl 0 rfl ?_
    obtain ⟨fx_7, hfx_7⟩ := OW_0 ho_2
    refine w_calli (As := []) (rest := []) (n := 0) (a_wipe ho_2 (by omega) (by omega)) gL_lays_X10_wipe rfl rfl rfl (by decide +kernel) ⟨(Nat.le_of_ble_eq_true rfl), (Nat.le_of_ble_eq_true rfl)⟩ rfl (by omega) hfx_7 rfl (Nat.le_of_ble_eq_true rfl) ⟨Nat.zero_le _, Nat.zero_le _⟩ dL_lays_23 rfl (fun g_5 hp_6 => ?_)
    obtain ⟨ho_8, hf_9⟩ := hp_6
    have hf_10 : vIA cy B g_5 fb 64 Fk := vIA_fr hf_3 (fun q h1 h2 => hf_9 q (by omega))
    have hfr_11 : ∀ q, 141 ≤ q ∧ q ≠ fb → g_5 q = g q := fun q hq => (hf_9 q (by omega)).trans (hfr_4 q hq)
    refine w_pop dL_lays_26 rfl ?_
    refine w_aload dL_lays_27 7 rfl ?_
    refine w_iconst dL_lays_29 ?_
    refine w_iconst dL_lays_30 ?_
    refine w_aload_n dL_lays_31 rfl 1 rfl ?_
    refine w_iload_n dL_lays_32 rfl 2 rfl ?_
    refine w_calliX (As := [.ref b, .int (zI from1)]) (rest := [.int (zI 1), .int (zI 0), .ref (B + fb)]) (n := 2) (mc := 0) (ms := 0) hsx (c_cell (k := from1) (by first | omega | with_reducible rfl) (by first | omega | with_reducible rfl)) gL_lays_L_cell rfl rfl rfl (by decide +kernel) ⟨(Nat.le_of_ble_eq_true rfl), (Nat.le_of_ble_eq_true rfl)⟩ rfl (Nat.le_of_ble_eq_true rfl) ⟨(Nat.le_of_ble_eq_true rfl), (Nat.le_of_ble_eq_true rfl)⟩ dL_lays_33 rfl (fun g_12 hp_13 => ?_)
    subst g_12
    refine w_iload_n dL_lays_36 rfl 3 rfl ?_
    refine w_calliS (As := [.int (zI (clZ xs L from1)), .int (zI strata)]) (rest := [.int (zI 1), .int (zI 0), .ref (B + fb)]) (n := 2) (c_part (v := (clZ xs L from1)) (n := strata) (by first | omega | with_reducible rfl)) gL_lays_L_part rfl rfl rfl (by decide +kernel) ⟨(Nat.le_of_ble_eq_true rfl), (Nat.le_of_ble_eq_true rfl)⟩ rfl (Nat.le_of_ble_eq_true rfl) ⟨Nat.zero_le _, Nat.zero_le _⟩ dL_lays_37 rfl (fun g_14 hp_15 => ?_)
    subst g_14
    obtain ⟨f0, hf0, hf0r⟩ : ∃ f0 : Int, f0 = 1 + ptZ (clZ xs L from1) strata ∧ 1 ≤ f0 ∧ f0 ≤ 3 := ⟨_, rfl, by have h7 := ptZ_rg (clZ xs L from1) (n := strata) (by omega); omega⟩
    refine w_iadd dL_lays_40 ?_
    refine w_as (st' := [.int (zI f0), .int (zI 0), .ref (B + fb)]) (sc_i hf0.symm rfl) ?_
    refine w_iast fb (by first | omega | with_reducible rfl) hf_10 (by first | omega | with_reducible rfl) dL_lays_41 (fun g_16 he_17 hn_18 => ?_)
    have ho_19 : OW cy B g_16 0 ([]) S P M := OW_fr ho_8 (fun q h1 h2 => hn_18 q (by omega))
    have hf_20 : vIA cy B g_16 fb 64 (uZ Fk 0 f0) := he_17
    have hfr_21 : ∀ q, 141 ≤ q ∧ q ≠ fb → g_16 q = g q := fun q hq => (hn_18 q (by omega)).trans (hfr_11 q hq)
    refine w_iconst dL_lays_42 ?_
    refine w_istore [(8, .int (zI 0)), (0, .ref (B + 0)), (1, .ref b), (2, .int (zI from1)), (3, .int (zI strata)), (4, .int (zI columns)), (5, .int (zI all)), (6, .int (zI score)), (7, .ref (B + fb))] dL_lays_43 (by decide) rfl ?_
    refine w_sub [(0, .ref (B + 0)), (1, .ref b), (2, .int (zI from1)), (3, .int (zI strata)), (4, .int (zI columns)), (5, .int (zI all)), (6, .int (zI score)), (7, .ref (B + fb)), (8, .int (zI 0))] [1, 2, 3, 4, 5, 6, 7, 8, 0] rfl ?_
    refine w_lv (lv' := [(0, .ref (B + 0)), (1, .ref b), (2, .int (zI from1)), (3, .int (zI strata)), (4, .int (zI columns)), (5, .int (zI all)), (6, .int (zI score)), (7, .ref (B + fb)), (8, .int (zI ((0 : Nat) : Int)))]) (lc_s (lc_s (lc_s (lc_s (lc_s (lc_s (lc_s (lc_s (lc_i (by first | omega | with_reducible rfl) rfl))))))))) ?_
    refine w_loop5 (fun (i : Nat) (Wt : List Int) (Si : St) (Fi : Int → Int) (gl_22 : (Nat → va_E)) => OW cy B gl_22 0 Wt S P M ∧ vIA cy B gl_22 fb 64 Fi ∧ (∀ q, 141 ≤ q ∧ q ≠ fb → gl_22 q = g q) ∧ PS Wt Si ∧ Si.length = i ∧ Wt.length ≤ 47 * i ∧ Fi 0 = f0 ∧ ((i : Nat) : Int) ≤ f0 ∧ (∀ k : Nat, k < Si.length → 2 ≤ (Si.getD k []).length)) (fun (i : Nat) (Wt : List Int) (Si : St) (Fi : Int → Int) (gl_22 : (Nat → va_E)) => 3 - i) (fun (i : Nat) (Wt : List Int) (Si : St) (Fi : Int → Int) (gl_22 : (Nat → va_E)) => gl_22) (fun (i : Nat) (Wt : List Int) (Si : St) (Fi : Int → Int) (gl_22 : (Nat → va_E)) => [(0, .ref (B + 0)), (1, .ref b), (2, .int (zI from1)), (3, .int (zI strata)), (4, .int (zI columns)), (5, .int (zI all)), (6, .int (zI score)), (7, .ref (B + fb)), (8, .int (zI ((i : Nat) : Int)))]) ?_ 0 ([]) ([]) (uZ Fk 0 f0) g_16 ⟨ho_19, hf_20, hfr_21, PS_nil, rfl, (Nat.le_refl _), (uZ_same _ _ _), (by omega), (fun k hk => absurd hk (Nat.not_lt_zero k))⟩
    rintro i Wt Si Fi gl_22 ⟨ho_23, hf_24, hfr_25, hPS, hSl, hWl, hF0, hif, hly⟩ ih_45
    refine w_iload dL_lays_45 8 rfl ?_
    refine w_aload dL_lays_47 7 rfl ?_
    refine w_iconst dL_lays_49 ?_
    refine w_iald fb (by first | omega | with_reducible rfl) hf_24 (by omega) dL_lays_50 ?_
    refine w_as (st' := [.int (zI f0), .int (zI ((i : Nat) : Int))]) (sc_i hF0 rfl) ?_
    refine w_icmp_ge 250 dL_lays_51 (by decide) (by omega) (by omega) (fun c_51 => ?_) (fun c_51 => ?_)
    · have hil : ((i : Nat) : Int) = f0 := by omega
      have hPW := PS_end hPS (by omega)
      refine w_aload_n dL_lays_250 rfl 0 rfl ?_
      obtain ⟨fx_28, hfx_28⟩ := OW_0 ho_23
      refine w_calli (As := []) (rest := []) (n := 0) (a_fault ho_23 (by omega) (by omega)) gL_lays_X10_fault rfl rfl rfl (by decide +kernel) ⟨(Nat.le_of_ble_eq_true rfl), (Nat.le_of_ble_eq_true rfl)⟩ rfl (by omega) hfx_28 rfl (Nat.le_of_ble_eq_true rfl) ⟨Nat.zero_le _, Nat.zero_le _⟩ dL_lays_251 rfl (fun g_26 hp_27 => ?_)
      obtain ⟨ho_29, hf_30⟩ := hp_27
      have hf_31 : vIA cy B g_26 fb 64 Fi := vIA_fr hf_24 (fun q h1 h2 => hf_30 q (by omega))
      have hfr_32 : ∀ q, 141 ≤ q ∧ q ≠ fb → g_26 q = g q := fun q hq => (hf_30 q (by omega)).trans (hfr_25 q hq)
      refine w_as (st' := [.int (zI (-4))]) (sc_i (by unfold eFau; rw [hPW]; rfl) rfl) ?_
      refine w_bipush dL_lays_254 (by decide) ?_
      refine w_icmp_ne 294 dL_lays_256 (by decide) (by first | omega | with_reducible rfl) (by first | omega | with_reducible rfl) (fun c_256 => ?_) (fun c_256 => ?_)
      · exfalso; omega
      · refine w_aload_n dL_lays_259 rfl 0 rfl ?_
        obtain ⟨fx_35, hfx_35⟩ := OW_0 ho_29
        refine w_calli (As := []) (rest := []) (n := 0) (a_lay ho_29 (by omega) (by omega) (by rw [hPW]) (by rw [hPW]; exact ⟨hly, by show 0 < Si.length; omega⟩)) gL_lays_X10_lay rfl rfl rfl (by decide +kernel) ⟨(Nat.le_of_ble_eq_true rfl), (Nat.le_of_ble_eq_true rfl)⟩ rfl (by omega) hfx_35 rfl (Nat.le_of_ble_eq_true rfl) ⟨Nat.zero_le _, Nat.zero_le _⟩ dL_lays_260 rfl (fun g_33 hp_34 => ?_)
        obtain ⟨ho_36, hf_37⟩ := hp_34
        have hf_38 : vIA cy B g_33 fb 64 Fi := vIA_fr hf_31 (fun q h1 h2 => hf_37 q (by omega))
        have hfr_39 : ∀ q, 141 ≤ q ∧ q ≠ fb → g_33 q = g q := fun q hq => (hf_37 q (by omega)).trans (hfr_32 q hq)
        have ho_40 : OW cy B g_33 0 Wt Si ([]) (M + 20) := by have h9 := ho_36; rw [hPW] at h9; exact h9
        refine w_as (st' := [.int (zI ((i : Nat) : Int))]) (sc_i (by rw [hPW]; show ((Si.length : Nat) : Int) = _; rw [hSl]) rfl) ?_
        refine w_aload dL_lays_263 7 rfl ?_
        refine w_iconst dL_lays_265 ?_
        refine w_iald fb (by first | omega | with_reducible rfl) hf_38 (by omega) dL_lays_266 ?_
        refine w_as (st' := [.int (zI f0), .int (zI ((i : Nat) : Int))]) (sc_i hF0 rfl) ?_
        refine w_icmp_ne 294 dL_lays_267 (by decide) (by omega) (by omega) (fun c_267 => ?_) (fun c_267 => ?_)
        · exfalso; omega
        · refine w_aload_n dL_lays_270 rfl 0 rfl ?_
          refine w_iconst dL_lays_271 ?_
          obtain ⟨fx_43, hfx_43⟩ := OW_0 ho_40
          refine w_calli (As := [.int (zI 0)]) (rest := []) (n := 1) (a_count (what := 0) ho_40 (by omega) (by omega) ⟨by omega, by omega⟩) gL_lays_X10_count rfl rfl rfl (by decide +kernel) ⟨(Nat.le_of_ble_eq_true rfl), (Nat.le_of_ble_eq_true rfl)⟩ rfl (by omega) hfx_43 rfl (Nat.le_of_ble_eq_true rfl) ⟨Nat.zero_le _, Nat.zero_le _⟩ dL_lays_272 rfl (fun g_41 hp_42 => ?_)
          obtain ⟨ho_44, hf_45⟩ := hp_42
          have hf_46 : vIA cy B g_41 fb 64 Fi := vIA_fr hf_38 (fun q h1 h2 => hf_45 q (by omega))
          have hfr_47 : ∀ q, 141 ≤ q ∧ q ≠ fb → g_41 q = g q := fun q hq => (hf_45 q (by omega)).trans (hfr_39 q hq)
          refine w_as (st' := [.int (zI ((i : Nat) : Int))]) (sc_i (by rw [eCnt_00, hSl]) rfl) ?_
          refine w_aload dL_lays_275 7 rfl ?_
          refine w_iconst dL_lays_277 ?_
          refine w_iald fb (by first | omega | with_reducible rfl) hf_46 (by omega) dL_lays_278 ?_
          refine w_as (st' := [.int (zI f0), .int (zI ((i : Nat) : Int))]) (sc_i hF0 rfl) ?_
          refine w_icmp_ne 294 dL_lays_279 (by decide) (by omega) (by omega) (fun c_279 => ?_) (fun c_279 => ?_)
          · exfalso; omega
          · refine w_aload_n dL_lays_282 rfl 0 rfl ?_
            refine w_iconst dL_lays_283 ?_
            obtain ⟨fx_50, hfx_50⟩ := OW_0 ho_44
            refine w_calli (As := [.int (zI 5)]) (rest := []) (n := 1) (a_count (what := 5) ho_44 (by omega) (by omega) ⟨by omega, by omega⟩) gL_lays_X10_count rfl rfl rfl (by decide +kernel) ⟨(Nat.le_of_ble_eq_true rfl), (Nat.le_of_ble_eq_true rfl)⟩ rfl (by omega) hfx_50 rfl (Nat.le_of_ble_eq_true rfl) ⟨Nat.zero_le _, Nat.zero_le _⟩ dL_lays_284 rfl (fun g_48 hp_49 => ?_)
            obtain ⟨ho_51, hf_52⟩ := hp_49
            have hf_53 : vIA cy B g_48 fb 64 Fi := vIA_fr hf_46 (fun q h1 h2 => hf_52 q (by omega))
            have hfr_54 : ∀ q, 141 ≤ q ∧ q ≠ fb → g_48 q = g q := fun q hq => (hf_52 q (by omega)).trans (hfr_47 q hq)
            refine w_as (st' := [.int (zI 0)]) (sc_i rfl rfl) ?_
            refine w_if_ne 294 dL_lays_287 (by decide) (by first | omega | with_reducible rfl) (fun c_287 => ?_) (fun c_287 => ?_)
            · exfalso; omega
            · refine w_iconst dL_lays_290 ?_
              refine w_goto 295 dL_lays_291 (by decide) ?_
              exact w_zret dL_lays_295 rfl rfl (by rfl) ⟨Wt, Si, Fi, ho_51, hf_53, (by rw [hF0, hSl]; omega), hfr_54⟩
    · refine w_aload_n dL_lays_54 rfl 0 rfl ?_
      refine w_bipush dL_lays_55 (by decide) ?_
      obtain ⟨fx_57, hfx_57⟩ := OW_0 ho_23
      refine w_calli (As := [.int (zI 115)]) (rest := []) (n := 1) (a_write (x := 115) ho_23 (by omega) (by omega) ⟨by omega, by omega⟩ (by first | omega | with_reducible rfl) (by first | omega | (simp only [List.length_append, List.length_cons, List.length_nil]; omega))) gL_lays_X10_write rfl rfl rfl (by decide +kernel) ⟨(Nat.le_of_ble_eq_true rfl), (Nat.le_of_ble_eq_true rfl)⟩ rfl (by omega) hfx_57 rfl (Nat.le_of_ble_eq_true rfl) ⟨Nat.zero_le _, Nat.zero_le _⟩ dL_lays_57 rfl (fun g_55 hp_56 => ?_)
      obtain ⟨ho_58, hf_59⟩ := hp_56
      have hf_60 : vIA cy B g_55 fb 64 Fi := vIA_fr hf_24 (fun q h1 h2 => hf_59 q (by omega))
      have hfr_61 : ∀ q, 141 ≤ q ∧ q ≠ fb → g_55 q = g q := fun q hq => (hf_59 q (by omega)).trans (hfr_25 q hq)
      refine w_pop dL_lays_60 rfl ?_
      refine w_aload_n dL_lays_61 rfl 0 rfl ?_
      refine w_bipush dL_lays_62 (by decide) ?_
      obtain ⟨fx_64, hfx_64⟩ := OW_0 ho_58
      refine w_calli (As := [.int (zI 59)]) (rest := []) (n := 1) (a_write (x := 59) ho_58 (by omega) (by omega) ⟨by omega, by omega⟩ (by first | omega | with_reducible rfl) (by first | omega | (simp only [List.length_append, List.length_cons, List.length_nil]; omega))) gL_lays_X10_write rfl rfl rfl (by decide +kernel) ⟨(Nat.le_of_ble_eq_true rfl), (Nat.le_of_ble_eq_true rfl)⟩ rfl (by omega) hfx_64 rfl (Nat.le_of_ble_eq_true rfl) ⟨Nat.zero_le _, Nat.zero_le _⟩ dL_lays_64 rfl (fun g_62 hp_63 => ?_)
      obtain ⟨ho_65, hf_66⟩ := hp_63
      have hf_67 : vIA cy B g_62 fb 64 Fi := vIA_fr hf_60 (fun q h1 h2 => hf_66 q (by omega))
      have hfr_68 : ∀ q, 141 ≤ q ∧ q ≠ fb → g_62 q = g q := fun q hq => (hf_66 q (by omega)).trans (hfr_61 q hq)
      refine w_pop dL_lays_67 rfl ?_
      refine w_aload dL_lays_68 7 rfl ?_
      refine w_iconst dL_lays_70 ?_
      refine w_iload dL_lays_71 8 rfl ?_
      refine w_iadd dL_lays_73 ?_
      refine w_iconst dL_lays_74 ?_
      refine w_aload_n dL_lays_75 rfl 1 rfl ?_
      refine w_iload_n dL_lays_76 rfl 2 rfl ?_
      refine w_iconst dL_lays_77 ?_
      refine w_iadd dL_lays_78 ?_
      refine w_iload dL_lays_79 8 rfl ?_
      refine w_iadd dL_lays_81 ?_
      refine w_calliX (As := [.ref b, .int (zI ((from1 + 1) + ((i : Nat) : Int)))]) (rest := [.int (zI 2), .int (zI (1 + ((i : Nat) : Int))), .ref (B + fb)]) (n := 2) (mc := 0) (ms := 0) hsx (c_cell (k := ((from1 + 1) + ((i : Nat) : Int))) (by first | omega | with_reducible rfl) (by first | omega | with_reducible rfl)) gL_lays_L_cell rfl rfl rfl (by decide +kernel) ⟨(Nat.le_of_ble_eq_true rfl), (Nat.le_of_ble_eq_true rfl)⟩ rfl (Nat.le_of_ble_eq_true rfl) ⟨(Nat.le_of_ble_eq_true rfl), (Nat.le_of_ble_eq_true rfl)⟩ dL_lays_82 rfl (fun g_69 hp_70 => ?_)
      subst g_69
      refine w_iload dL_lays_85 4 rfl ?_
      refine w_iconst dL_lays_87 ?_
      refine w_isub dL_lays_88 ?_
      refine w_calliS (As := [.int (zI (clZ xs L ((from1 + 1) + ((i : Nat) : Int)))), .int (zI (columns - 1))]) (rest := [.int (zI 2), .int (zI (1 + ((i : Nat) : Int))), .ref (B + fb)]) (n := 2) (c_part (v := (clZ xs L ((from1 + 1) + ((i : Nat) : Int)))) (n := (columns - 1)) (by first | omega | with_reducible rfl)) gL_lays_L_part rfl rfl rfl (by decide +kernel) ⟨(Nat.le_of_ble_eq_true rfl), (Nat.le_of_ble_eq_true rfl)⟩ rfl (Nat.le_of_ble_eq_true rfl) ⟨Nat.zero_le _, Nat.zero_le _⟩ dL_lays_89 rfl (fun g_71 hp_72 => ?_)
      subst g_71
      obtain ⟨cn, hcn, hcnr⟩ : ∃ cn : Int, cn = 2 + ptZ (clZ xs L ((from1 + 1) + ((i : Nat) : Int))) (columns - 1) ∧ 2 ≤ cn ∧ cn ≤ 5 := ⟨_, rfl, by have h7 := ptZ_rg (clZ xs L ((from1 + 1) + ((i : Nat) : Int))) (n := columns - 1) (by omega); omega⟩
      refine w_iadd dL_lays_92 ?_
      refine w_as (st' := [.int (zI cn), .int (zI (1 + ((i : Nat) : Int))), .ref (B + fb)]) (sc_i hcn.symm rfl) ?_
      refine w_iast fb (by first | omega | with_reducible rfl) hf_67 (by omega) dL_lays_93 (fun g_73 he_74 hn_75 => ?_)
      have ho_76 : OW cy B g_73 0 ((Wt ++ [115]) ++ [59]) S P M := OW_fr ho_65 (fun q h1 h2 => hn_75 q (by omega))
      have hf_77 : vIA cy B g_73 fb 64 (uZ Fi (1 + ((i : Nat) : Int)) cn) := he_74
      have hfr_78 : ∀ q, 141 ≤ q ∧ q ≠ fb → g_73 q = g q := fun q hq => (hn_75 q (by omega)).trans (hfr_68 q hq)
      refine w_iconst dL_lays_94 ?_
      refine w_istore [(9, .int (zI 0)), (0, .ref (B + 0)), (1, .ref b), (2, .int (zI from1)), (3, .int (zI strata)), (4, .int (zI columns)), (5, .int (zI all)), (6, .int (zI score)), (7, .ref (B + fb)), (8, .int (zI ((i : Nat) : Int)))] dL_lays_95 (by decide) rfl ?_
      refine w_sub [(0, .ref (B + 0)), (1, .ref b), (2, .int (zI from1)), (3, .int (zI strata)), (4, .int (zI columns)), (5, .int (zI all)), (6, .int (zI score)), (7, .ref (B + fb)), (8, .int (zI ((i : Nat) : Int))), (9, .int (zI 0))] [1, 2, 3, 4, 5, 6, 7, 8, 9, 0] rfl ?_
      refine w_lv (lv' := [(0, .ref (B + 0)), (1, .ref b), (2, .int (zI from1)), (3, .int (zI strata)), (4, .int (zI columns)), (5, .int (zI all)), (6, .int (zI score)), (7, .ref (B + fb)), (8, .int (zI ((i : Nat) : Int))), (9, .int (zI ((0 : Nat) : Int)))]) (lc_s (lc_s (lc_s (lc_s (lc_s (lc_s (lc_s (lc_s (lc_s (lc_i (by first | omega | with_reducible rfl) rfl)))))))))) ?_
      refine w_loop5 (fun (j : Nat) (W2 : List Int) (x : List Co) (F2 : Int → Int) (gl_79 : (Nat → va_E)) => OW cy B gl_79 0 W2 S P M ∧ vIA cy B gl_79 fb 64 F2 ∧ (∀ q, 141 ≤ q ∧ q ≠ fb → gl_79 q = g q) ∧ PS W2 (Si ++ [x]) ∧ x.length = j ∧ W2.length ≤ 47 * i + 2 + 9 * j ∧ F2 0 = f0 ∧ F2 (1 + ((i : Nat) : Int)) = cn ∧ ((j : Nat) : Int) ≤ cn) (fun (j : Nat) (W2 : List Int) (x : List Co) (F2 : Int → Int) (gl_79 : (Nat → va_E)) => 5 - j) (fun (j : Nat) (W2 : List Int) (x : List Co) (F2 : Int → Int) (gl_79 : (Nat → va_E)) => gl_79) (fun (j : Nat) (W2 : List Int) (x : List Co) (F2 : Int → Int) (gl_79 : (Nat → va_E)) => [(0, .ref (B + 0)), (1, .ref b), (2, .int (zI from1)), (3, .int (zI strata)), (4, .int (zI columns)), (5, .int (zI all)), (6, .int (zI score)), (7, .ref (B + fb)), (8, .int (zI ((i : Nat) : Int))), (9, .int (zI ((j : Nat) : Int)))]) ?_ 0 ((Wt ++ [115]) ++ [59]) ([]) (uZ Fi (1 + ((i : Nat) : Int)) cn) g_73 ⟨ho_76, hf_77, hfr_78, (by have h7 := PS_s hPS (by omega); rw [List.append_assoc]; exact h7), rfl, (by simp only [List.length_append, List.length_cons, List.length_nil]; omega), (by rw [uZ_ne (by omega)]; exact hF0), (uZ_same _ _ _), (by omega)⟩
      rintro j W2 x F2 gl_79 ⟨ho_80, hf_81, hfr_82, hPS2, hxl, hWl2, hF02, hF1, hjc⟩ ih_97
      refine w_iload dL_lays_97 9 rfl ?_
      refine w_aload dL_lays_99 7 rfl ?_
      refine w_iconst dL_lays_101 ?_
      refine w_iload dL_lays_102 8 rfl ?_
      refine w_iadd dL_lays_104 ?_
      refine w_iald fb (by first | omega | with_reducible rfl) hf_81 (by omega) dL_lays_105 ?_
      refine w_as (st' := [.int (zI cn), .int (zI ((j : Nat) : Int))]) (sc_i hF1 rfl) ?_
      refine w_icmp_ge 244 dL_lays_106 (by decide) (by omega) (by omega) (fun c_106 => ?_) (fun c_106 => ?_)
      · refine w_iinc 8 [(8, .int (zI (((i : Nat) : Int) + 1))), (0, .ref (B + 0)), (1, .ref b), (2, .int (zI from1)), (3, .int (zI strata)), (4, .int (zI columns)), (5, .int (zI all)), (6, .int (zI score)), (7, .ref (B + fb)), (9, .int (zI ((j : Nat) : Int)))] dL_lays_244 rfl (by decide) rfl ?_
        refine w_goto 45 dL_lays_247 (by decide) ?_
        refine w_sub [(0, .ref (B + 0)), (1, .ref b), (2, .int (zI from1)), (3, .int (zI strata)), (4, .int (zI columns)), (5, .int (zI all)), (6, .int (zI score)), (7, .ref (B + fb)), (8, .int (zI (((i : Nat) : Int) + 1)))] [1, 2, 3, 4, 5, 6, 7, 8, 0] rfl ?_
        refine w_lv (lv' := [(0, .ref (B + 0)), (1, .ref b), (2, .int (zI from1)), (3, .int (zI strata)), (4, .int (zI columns)), (5, .int (zI all)), (6, .int (zI score)), (7, .ref (B + fb)), (8, .int (zI (((i + 1) : Nat) : Int)))]) (lc_s (lc_s (lc_s (lc_s (lc_s (lc_s (lc_s (lc_s (lc_i (by first | omega | with_reducible rfl) rfl))))))))) ?_
        exact ih_45 (i + 1) W2 (Si ++ [x]) F2 gl_79 ⟨ho_80, hf_81, hfr_82, hPS2, (by rw [List.length_append, List.length_singleton]; omega), (by omega), hF02, (by omega), (lyd_snoc hly (by omega))⟩ (by first | omega | with_reducible rfl)
      · refine w_aload_n dL_lays_109 rfl 1 rfl ?_
        refine w_iload_n dL_lays_110 rfl 2 rfl ?_
        refine w_iconst dL_lays_111 ?_
        refine w_iadd dL_lays_112 ?_
        refine w_iconst dL_lays_113 ?_
        refine w_iload dL_lays_114 8 rfl ?_
        refine w_imul dL_lays_116 ?_
        refine w_iadd dL_lays_117 ?_
        refine w_iload dL_lays_118 9 rfl ?_
        refine w_iadd dL_lays_120 ?_
        refine w_calliX (As := [.ref b, .int (zI (((from1 + 4) + (5 * ((i : Nat) : Int))) + ((j : Nat) : Int)))]) (rest := []) (n := 2) (mc := 0) (ms := 0) hsx (c_cell (k := (((from1 + 4) + (5 * ((i : Nat) : Int))) + ((j : Nat) : Int))) (by first | omega | with_reducible rfl) (by first | omega | with_reducible rfl)) gL_lays_L_cell rfl rfl rfl (by decide +kernel) ⟨(Nat.le_of_ble_eq_true rfl), (Nat.le_of_ble_eq_true rfl)⟩ rfl (Nat.le_of_ble_eq_true rfl) ⟨(Nat.le_of_ble_eq_true rfl), (Nat.le_of_ble_eq_true rfl)⟩ dL_lays_121 rfl (fun g_83 hp_84 => ?_)
        subst g_83
        obtain ⟨v9, hv9⟩ : ∃ v9 : Int, v9 = clZ xs L (((from1 + 4) + (5 * ((i : Nat) : Int))) + ((j : Nat) : Int)) := ⟨_, rfl⟩
        refine w_as (st' := [.int (zI v9)]) (sc_i hv9.symm rfl) ?_
        refine w_istore [(10, .int (zI v9)), (0, .ref (B + 0)), (1, .ref b), (2, .int (zI from1)), (3, .int (zI strata)), (4, .int (zI columns)), (5, .int (zI all)), (6, .int (zI score)), (7, .ref (B + fb)), (8, .int (zI ((i : Nat) : Int))), (9, .int (zI ((j : Nat) : Int)))] dL_lays_124 (by decide) rfl ?_
        refine w_iconst dL_lays_126 ?_
        refine w_bipush dL_lays_127 (by decide) ?_
        refine w_iload dL_lays_129 9 rfl ?_
        refine w_imul dL_lays_131 ?_
        refine w_iadd dL_lays_132 ?_
        refine w_iconst dL_lays_133 ?_
        refine w_iload dL_lays_134 10 rfl ?_
        refine w_imul dL_lays_136 ?_
        refine w_iadd dL_lays_137 ?_
        refine w_istore [(11, .int (zI ((4 + (15 * ((i : Nat) : Int))) + (3 * ((j : Nat) : Int))))), (10, .int (zI v9)), (0, .ref (B + 0)), (1, .ref b), (2, .int (zI from1)), (3, .int (zI strata)), (4, .int (zI columns)), (5, .int (zI all)), (6, .int (zI score)), (7, .ref (B + fb)), (8, .int (zI ((i : Nat) : Int))), (9, .int (zI ((j : Nat) : Int)))] dL_lays_138 (by decide) rfl ?_
        refine w_aload dL_lays_140 9 rfl ?_
        refine w_iload dL_lays_142 0 rfl ?_
        refine w_iconst dL_lays_144 ?_
        refine w_iload dL_lays_145 1 rfl ?_
        refine w_iload dL_lays_147 7 rfl ?_
        refine w_calliS (As := [.int (zI v9), .int (zI all)]) (rest := [.int (zI 1), .int (zI ((4 + (15 * ((i : Nat) : Int))) + (3 * ((j : Nat) : Int)))), .ref (B + fb)]) (n := 2) (c_part (v := v9) (n := all) (by first | omega | with_reducible rfl)) gL_lays_L_part rfl rfl rfl (by decide +kernel) ⟨(Nat.le_of_ble_eq_true rfl), (Nat.le_of_ble_eq_true rfl)⟩ rfl (Nat.le_of_ble_eq_true rfl) ⟨Nat.zero_le _, Nat.zero_le _⟩ dL_lays_149 rfl (fun g_85 hp_86 => ?_)
        subst g_85
        obtain ⟨T, hT, hTr⟩ : ∃ T : Int, T = 1 + ptZ v9 all ∧ 1 ≤ T ∧ T ≤ 12 := ⟨_, rfl, by have h7 := ptZ_rg v9 (n := all) (by omega); omega⟩
        refine w_iadd dL_lays_152 ?_
        refine w_as (st' := [.int (zI T), .int (zI ((4 + (15 * ((i : Nat) : Int))) + (3 * ((j : Nat) : Int)))), .ref (B + fb)]) (sc_i hT.symm rfl) ?_
        refine w_iast fb (by first | omega | with_reducible rfl) hf_81 (by omega) dL_lays_153 (fun g_87 he_88 hn_89 => ?_)
        have ho_90 : OW cy B g_87 0 W2 S P M := OW_fr ho_80 (fun q h1 h2 => hn_89 q (by omega))
        have hf_91 : vIA cy B g_87 fb 64 (uZ F2 ((4 + (15 * ((i : Nat) : Int))) + (3 * ((j : Nat) : Int))) T) := he_88
        have hfr_92 : ∀ q, 141 ≤ q ∧ q ≠ fb → g_87 q = g q := fun q hq => (hn_89 q (by omega)).trans (hfr_82 q hq)
        refine w_aload dL_lays_154 9 rfl ?_
        refine w_iload dL_lays_156 0 rfl ?_
        refine w_iconst dL_lays_158 ?_
        refine w_iadd dL_lays_159 ?_
        refine w_iload dL_lays_160 1 rfl ?_
        refine w_iconst dL_lays_162 ?_
        refine w_ishr dL_lays_163 ?_
        refine w_aload dL_lays_164 9 rfl ?_
        refine w_iload dL_lays_166 0 rfl ?_
        refine w_iald fb (by first | omega | with_reducible rfl) hf_91 (by omega) dL_lays_168 ?_
        refine w_as (st' := [.int (zI T), .int (zI (shZ v9 4)), .int (zI (((4 + (15 * ((i : Nat) : Int))) + (3 * ((j : Nat) : Int))) + 1)), .ref (B + fb)]) (sc_i (uZ_same _ _ _) rfl) ?_
        refine w_iconst dL_lays_169 ?_
        refine w_iadd dL_lays_170 ?_
        refine w_calliS (As := [.int (zI (shZ v9 4)), .int (zI (T + 1))]) (rest := [.int (zI (((4 + (15 * ((i : Nat) : Int))) + (3 * ((j : Nat) : Int))) + 1)), .ref (B + fb)]) (n := 2) (c_part (v := (shZ v9 4)) (n := (T + 1)) (by first | omega | with_reducible rfl)) gL_lays_L_part rfl rfl rfl (by decide +kernel) ⟨(Nat.le_of_ble_eq_true rfl), (Nat.le_of_ble_eq_true rfl)⟩ rfl (Nat.le_of_ble_eq_true rfl) ⟨Nat.zero_le _, Nat.zero_le _⟩ dL_lays_171 rfl (fun g_93 hp_94 => ?_)
        subst g_93
        obtain ⟨X, hX, hXr⟩ : ∃ X : Int, X = ptZ (shZ v9 4) (T + 1) ∧ 0 ≤ X ∧ X ≤ T := ⟨_, rfl, by have h7 := ptZ_rg (shZ v9 4) (n := T + 1) (by omega); omega⟩
        refine w_as (st' := [.int (zI X), .int (zI (((4 + (15 * ((i : Nat) : Int))) + (3 * ((j : Nat) : Int))) + 1)), .ref (B + fb)]) (sc_i hX.symm rfl) ?_
        refine w_iast fb (by first | omega | with_reducible rfl) hf_91 (by omega) dL_lays_174 (fun g_95 he_96 hn_97 => ?_)
        have ho_98 : OW cy B g_95 0 W2 S P M := OW_fr ho_90 (fun q h1 h2 => hn_97 q (by omega))
        have hf_99 : vIA cy B g_95 fb 64 (uZ (uZ F2 ((4 + (15 * ((i : Nat) : Int))) + (3 * ((j : Nat) : Int))) T) (((4 + (15 * ((i : Nat) : Int))) + (3 * ((j : Nat) : Int))) + 1) X) := he_96
        have hfr_100 : ∀ q, 141 ≤ q ∧ q ≠ fb → g_95 q = g q := fun q hq => (hn_97 q (by omega)).trans (hfr_92 q hq)
        refine w_aload dL_lays_175 9 rfl ?_
        refine w_iload dL_lays_177 0 rfl ?_
        refine w_iconst dL_lays_179 ?_
        refine w_iadd dL_lays_180 ?_
        refine w_iload dL_lays_181 1 rfl ?_
        refine w_bipush dL_lays_183 (by decide) ?_
        refine w_ishr dL_lays_185 ?_
        refine w_iload dL_lays_186 8 rfl ?_
        refine w_iconst dL_lays_188 ?_
        refine w_iadd dL_lays_189 ?_
        refine w_calliS (As := [.int (zI (shZ v9 8)), .int (zI (score + 1))]) (rest := [.int (zI (((4 + (15 * ((i : Nat) : Int))) + (3 * ((j : Nat) : Int))) + 2)), .ref (B + fb)]) (n := 2) (c_part (v := (shZ v9 8)) (n := (score + 1)) (by first | omega | with_reducible rfl)) gL_lays_L_part rfl rfl rfl (by decide +kernel) ⟨(Nat.le_of_ble_eq_true rfl), (Nat.le_of_ble_eq_true rfl)⟩ rfl (Nat.le_of_ble_eq_true rfl) ⟨Nat.zero_le _, Nat.zero_le _⟩ dL_lays_190 rfl (fun g_101 hp_102 => ?_)
        subst g_101
        obtain ⟨V, hV, hVr⟩ : ∃ V : Int, V = ptZ (shZ v9 8) (score + 1) ∧ 0 ≤ V ∧ V ≤ 9 := ⟨_, rfl, by have h7 := ptZ_rg (shZ v9 8) (n := score + 1) (by omega); omega⟩
        have hTXV : cok1 T X V := ⟨hTr, hXr, hVr⟩
        refine w_as (st' := [.int (zI V), .int (zI (((4 + (15 * ((i : Nat) : Int))) + (3 * ((j : Nat) : Int))) + 2)), .ref (B + fb)]) (sc_i hV.symm rfl) ?_
        refine w_iast fb (by first | omega | with_reducible rfl) hf_99 (by omega) dL_lays_193 (fun g_103 he_104 hn_105 => ?_)
        have ho_106 : OW cy B g_103 0 W2 S P M := OW_fr ho_98 (fun q h1 h2 => hn_105 q (by omega))
        have hf_107 : vIA cy B g_103 fb 64 (uZ (uZ (uZ F2 ((4 + (15 * ((i : Nat) : Int))) + (3 * ((j : Nat) : Int))) T) (((4 + (15 * ((i : Nat) : Int))) + (3 * ((j : Nat) : Int))) + 1) X) (((4 + (15 * ((i : Nat) : Int))) + (3 * ((j : Nat) : Int))) + 2) V) := he_104
        have hfr_108 : ∀ q, 141 ≤ q ∧ q ≠ fb → g_103 q = g q := fun q hq => (hn_105 q (by omega)).trans (hfr_100 q hq)
        refine w_aload_n dL_lays_194 rfl 2 rfl ?_
        refine w_bipush dL_lays_195 (by decide) ?_
        obtain ⟨fx_111, hfx_111⟩ := OW_0 ho_106
        refine w_calli (As := [.int (zI 99)]) (rest := []) (n := 1) (a_write (x := 99) ho_106 (by omega) (by omega) ⟨by omega, by omega⟩ (by first | omega | with_reducible rfl) (by first | omega | (simp only [List.length_append, List.length_cons, List.length_nil]; omega))) gL_lays_X10_write rfl rfl rfl (by decide +kernel) ⟨(Nat.le_of_ble_eq_true rfl), (Nat.le_of_ble_eq_true rfl)⟩ rfl (by omega) hfx_111 rfl (Nat.le_of_ble_eq_true rfl) ⟨Nat.zero_le _, Nat.zero_le _⟩ dL_lays_197 rfl (fun g_109 hp_110 => ?_)
        obtain ⟨ho_112, hf_113⟩ := hp_110
        have hf_114 : vIA cy B g_109 fb 64 (uZ (uZ (uZ F2 ((4 + (15 * ((i : Nat) : Int))) + (3 * ((j : Nat) : Int))) T) (((4 + (15 * ((i : Nat) : Int))) + (3 * ((j : Nat) : Int))) + 1) X) (((4 + (15 * ((i : Nat) : Int))) + (3 * ((j : Nat) : Int))) + 2) V) := vIA_fr hf_107 (fun q h1 h2 => hf_113 q (by omega))
        have hfr_115 : ∀ q, 141 ≤ q ∧ q ≠ fb → g_109 q = g q := fun q hq => (hf_113 q (by omega)).trans (hfr_108 q hq)
        refine w_pop dL_lays_200 rfl ?_
        refine w_aload_n dL_lays_201 rfl 2 rfl ?_
        refine w_aload dL_lays_202 9 rfl ?_
        refine w_iload dL_lays_204 0 rfl ?_
        refine w_iald fb (by first | omega | with_reducible rfl) hf_114 (by omega) dL_lays_206 ?_
        refine w_as (st' := [.int (zI T), .ref (B + 0)]) (sc_i (by rw [uZ_ne (by omega), uZ_ne (by omega), uZ_same]) rfl) ?_
        refine w_bipush dL_lays_207 (by decide) ?_
        refine w_callvS (As := [.ref (B + 0), .int (zI T), .int (zI 44)]) (rest := []) (n := 3) (c_number (v := T) (sign := 44) ho_112 (by omega) (by omega) (by first | omega | with_reducible rfl) (by first | omega | with_reducible rfl) (by (have h7 := @tno_len T 44); (have h8 := @tno_len X 44); simp only [List.length_append, List.length_cons, List.length_nil]; omega)) gL_lays_L_number rfl rfl rfl (by decide +kernel) ⟨(Nat.le_of_ble_eq_true rfl), (Nat.le_of_ble_eq_true rfl)⟩ rfl (Nat.le_of_ble_eq_true rfl) ⟨Nat.zero_le _, Nat.zero_le _⟩ dL_lays_209 rfl (fun g_116 hp_117 => ?_)
        obtain ⟨ho_118, hf_119⟩ := hp_117
        have hf_120 : vIA cy B g_116 fb 64 (uZ (uZ (uZ F2 ((4 + (15 * ((i : Nat) : Int))) + (3 * ((j : Nat) : Int))) T) (((4 + (15 * ((i : Nat) : Int))) + (3 * ((j : Nat) : Int))) + 1) X) (((4 + (15 * ((i : Nat) : Int))) + (3 * ((j : Nat) : Int))) + 2) V) := vIA_fr hf_114 (fun q h1 h2 => hf_119 q (by omega))
        have hfr_121 : ∀ q, 141 ≤ q ∧ q ≠ fb → g_116 q = g q := fun q hq => (hf_119 q (by omega)).trans (hfr_115 q hq)
        refine w_aload_n dL_lays_212 rfl 2 rfl ?_
        refine w_aload dL_lays_213 9 rfl ?_
        refine w_iload dL_lays_215 0 rfl ?_
        refine w_iconst dL_lays_217 ?_
        refine w_iadd dL_lays_218 ?_
        refine w_iald fb (by first | omega | with_reducible rfl) hf_120 (by omega) dL_lays_219 ?_
        refine w_as (st' := [.int (zI X), .ref (B + 0)]) (sc_i (by rw [uZ_ne (by omega), uZ_same]) rfl) ?_
        refine w_bipush dL_lays_220 (by decide) ?_
        refine w_callvS (As := [.ref (B + 0), .int (zI X), .int (zI 44)]) (rest := []) (n := 3) (c_number (v := X) (sign := 44) ho_118 (by omega) (by omega) (by first | omega | with_reducible rfl) (by first | omega | with_reducible rfl) (by (have h7 := @tno_len T 44); (have h8 := @tno_len X 44); simp only [List.length_append, List.length_cons, List.length_nil]; omega)) gL_lays_L_number rfl rfl rfl (by decide +kernel) ⟨(Nat.le_of_ble_eq_true rfl), (Nat.le_of_ble_eq_true rfl)⟩ rfl (Nat.le_of_ble_eq_true rfl) ⟨Nat.zero_le _, Nat.zero_le _⟩ dL_lays_222 rfl (fun g_122 hp_123 => ?_)
        obtain ⟨ho_124, hf_125⟩ := hp_123
        have hf_126 : vIA cy B g_122 fb 64 (uZ (uZ (uZ F2 ((4 + (15 * ((i : Nat) : Int))) + (3 * ((j : Nat) : Int))) T) (((4 + (15 * ((i : Nat) : Int))) + (3 * ((j : Nat) : Int))) + 1) X) (((4 + (15 * ((i : Nat) : Int))) + (3 * ((j : Nat) : Int))) + 2) V) := vIA_fr hf_120 (fun q h1 h2 => hf_125 q (by omega))
        have hfr_127 : ∀ q, 141 ≤ q ∧ q ≠ fb → g_122 q = g q := fun q hq => (hf_125 q (by omega)).trans (hfr_121 q hq)
        refine w_aload_n dL_lays_225 rfl 2 rfl ?_
        refine w_aload dL_lays_226 9 rfl ?_
        refine w_iload dL_lays_228 0 rfl ?_
        refine w_iconst dL_lays_230 ?_
        refine w_iadd dL_lays_231 ?_
        refine w_iald fb (by first | omega | with_reducible rfl) hf_126 (by omega) dL_lays_232 ?_
        refine w_as (st' := [.int (zI V), .ref (B + 0)]) (sc_i (uZ_same _ _ _) rfl) ?_
        refine w_bipush dL_lays_233 (by decide) ?_
        refine w_callvS (As := [.ref (B + 0), .int (zI V), .int (zI 59)]) (rest := []) (n := 3) (c_number (v := V) (sign := 59) ho_124 (by omega) (by omega) (by first | omega | with_reducible rfl) (by first | omega | with_reducible rfl) (by (have h7 := @tno_len T 44); (have h8 := @tno_len X 44); simp only [List.length_append, List.length_cons, List.length_nil]; omega)) gL_lays_L_number rfl rfl rfl (by decide +kernel) ⟨(Nat.le_of_ble_eq_true rfl), (Nat.le_of_ble_eq_true rfl)⟩ rfl (Nat.le_of_ble_eq_true rfl) ⟨Nat.zero_le _, Nat.zero_le _⟩ dL_lays_235 rfl (fun g_128 hp_129 => ?_)
        obtain ⟨ho_130, hf_131⟩ := hp_129
        have hf_132 : vIA cy B g_128 fb 64 (uZ (uZ (uZ F2 ((4 + (15 * ((i : Nat) : Int))) + (3 * ((j : Nat) : Int))) T) (((4 + (15 * ((i : Nat) : Int))) + (3 * ((j : Nat) : Int))) + 1) X) (((4 + (15 * ((i : Nat) : Int))) + (3 * ((j : Nat) : Int))) + 2) V) := vIA_fr hf_126 (fun q h1 h2 => hf_131 q (by omega))
        have hfr_133 : ∀ q, 141 ≤ q ∧ q ≠ fb → g_128 q = g q := fun q hq => (hf_131 q (by omega)).trans (hfr_127 q hq)
        refine w_iinc 11 [(9, .int (zI (((j : Nat) : Int) + 1))), (11, .int (zI ((4 + (15 * ((i : Nat) : Int))) + (3 * ((j : Nat) : Int))))), (10, .int (zI v9)), (0, .ref (B + 0)), (1, .ref b), (2, .int (zI from1)), (3, .int (zI strata)), (4, .int (zI columns)), (5, .int (zI all)), (6, .int (zI score)), (7, .ref (B + fb)), (8, .int (zI ((i : Nat) : Int)))] dL_lays_238 rfl (by decide) rfl ?_
        refine w_goto 97 dL_lays_241 (by decide) ?_
        refine w_sub [(0, .ref (B + 0)), (1, .ref b), (2, .int (zI from1)), (3, .int (zI strata)), (4, .int (zI columns)), (5, .int (zI all)), (6, .int (zI score)), (7, .ref (B + fb)), (8, .int (zI ((i : Nat) : Int))), (9, .int (zI (((j : Nat) : Int) + 1)))] [3, 4, 5, 6, 7, 8, 9, 10, 11, 0] rfl ?_
        refine w_lv (lv' := [(0, .ref (B + 0)), (1, .ref b), (2, .int (zI from1)), (3, .int (zI strata)), (4, .int (zI columns)), (5, .int (zI all)), (6, .int (zI score)), (7, .ref (B + fb)), (8, .int (zI ((i : Nat) : Int))), (9, .int (zI (((j + 1) : Nat) : Int)))]) (lc_s (lc_s (lc_s (lc_s (lc_s (lc_s (lc_s (lc_s (lc_s (lc_i (by first | omega | with_reducible rfl) rfl)))))))))) ?_
        exact ih_97 (j + 1) (W2 ++ tcol T X V) (x ++ [(T, X, V)]) (uZ (uZ (uZ F2 ((4 + (15 * ((i : Nat) : Int))) + (3 * ((j : Nat) : Int))) T) (((4 + (15 * ((i : Nat) : Int))) + (3 * ((j : Nat) : Int))) + 1) X) (((4 + (15 * ((i : Nat) : Int))) + (3 * ((j : Nat) : Int))) + 2) V) g_128 ⟨(by have h9 := ho_130; (rw [col_app]; exact h9)), hf_132, hfr_133, (PS_c hPS2 (by omega) hTXV), (by rw [List.length_append, List.length_singleton]; omega), (by have h7 := @wid_len W2 T X V (by omega); omega), (by rw [uZ_ne (by omega), uZ_ne (by omega), uZ_ne (by omega)]; exact hF02), (by rw [uZ_ne (by omega), uZ_ne (by omega), uZ_ne (by omega)]; exact hF1), (by omega)⟩ (by first | omega | with_reducible rfl)
  · refine w_aload dL_lays_10 7 rfl ?_
    refine w_iload dL_lays_12 8 rfl ?_
    refine w_iconst dL_lays_14 ?_
    refine w_iast fb (by first | omega | with_reducible rfl) hf_3 (by first | omega | with_reducible rfl) dL_lays_15 (fun g_134 he_135 hn_136 => ?_)
    have ho_137 : OW cy B g_134 0 W S P M := OW_fr ho_2 (fun q h1 h2 => hn_136 q (by omega))
    have hf_138 : vIA cy B g_134 fb 64 (uZ Fk ((k : Nat) : Int) 0) := he_135
    have hfr_139 : ∀ q, 141 ≤ q ∧ q ≠ fb → g_134 q = g q := fun q hq => (hn_136 q (by omega)).trans (hfr_4 q hq)
    refine w_iinc 8 [(8, .int (zI (((k : Nat) : Int) + 1))), (0, .ref (B + 0)), (1, .ref b), (2, .int (zI from1)), (3, .int (zI strata)), (4, .int (zI columns)), (5, .int (zI all)), (6, .int (zI score)), (7, .ref (B + fb))] dL_lays_16 rfl (by decide) rfl ?_
    refine w_goto 3 dL_lays_19 (by decide) ?_
    refine w_sub [(0, .ref (B + 0)), (1, .ref b), (2, .int (zI from1)), (3, .int (zI strata)), (4, .int (zI columns)), (5, .int (zI all)), (6, .int (zI score)), (7, .ref (B + fb)), (8, .int (zI (((k : Nat) : Int) + 1)))] [1, 2, 3, 4, 5, 6, 7, 8, 0] rfl ?_
    refine w_lv (lv' := [(0, .ref (B + 0)), (1, .ref b), (2, .int (zI from1)), (3, .int (zI strata)), (4, .int (zI columns)), (5, .int (zI all)), (6, .int (zI score)), (7, .ref (B + fb)), (8, .int (zI (((k + 1) : Nat) : Int)))]) (lc_s (lc_s (lc_s (lc_s (lc_s (lc_s (lc_s (lc_s (lc_i (by first | omega | with_reducible rfl) rfl))))))))) ?_
    exact ih_3 (k + 1) (uZ Fk ((k : Nat) : Int) 0) g_134 ⟨ho_137, hf_138, hfr_139, (by first | omega | with_reducible rfl)⟩ (by first | omega | with_reducible rfl)

