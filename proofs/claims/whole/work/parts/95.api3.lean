/-! ===== every call, ended: fault, lay, set, move, turn, undo ===== -/
theorem WFS_ps {n : Nat} {L : Int → Int} (h : lyd (psF n L 200 0 []).2) : WFS (psF n L 200 0 []).2 := by
  have h1 := psF_S (n := n) (L := L) (f := 200) (p := 0) (S := []) (by omega) (by decide)
  refine ⟨⟨h.2, h1.1⟩, fun k hk => ⟨psF_cok (n := n) (L := L) (f := 200) (p := 0) (S := []) (fun x hx => absurd hx (List.not_mem_nil)) _ ?_, h.1 k hk⟩⟩
  rw [List.getD_eq_getElem?_getD, List.getElem?_eq_getElem hk]
  exact List.getElem_mem hk
theorem hL_C {n : Nat} {L : Int → Int} {S : St} {P : List St} (h : WFg n L S P) : ∀ i : Int, 0 ≤ i → i < n → 0 ≤ L i ∧ L i < 65536 := fun i h1 h2 => by
  have := h.1.2 i h1 h2
  omega
theorem hL_M {n : Nat} {L Lm : Int → Int} {S : St} {P : List St} (h : WFg n L S P) (hLm : ∀ i : Int, 0 ≤ i → i < n → Lm i = L i) : ∀ i : Int, 0 ≤ i → i < n → 0 < Lm i ∧ Lm i < 65536 := fun i h1 h2 => by
  have := h.1.2 i h1 h2
  rw [hLm i h1 h2]
  omega
theorem WFg_pop {n : Nat} {L : Int → Int} {S T : St} {P : List St} (h : WFg n L S (T :: P)) : WFg n L T P := by
  have hl : (T :: P).length = P.length + 1 := rfl
  have h6 := h.2.2.1
  refine ⟨h.1, h.2.2.2 0 (by omega), by omega, fun i hi => ?_⟩
  have h9 := h.2.2.2 (i + 1) (by omega)
  rw [consD] at h9
  exact h9
theorem cok_mv {c : List Co} {a b : Int} (hc : cok c) (ha : 0 ≤ a ∧ a < c.length) (hb : 0 ≤ b ∧ b < c.length) (hab : ¬ a = b) (hz : ¬ coX c a = 0 ∧ ¬ coX c b = coT c b) : cok (upX (upX c a (coX c a - 1)) b (coX c b + 1)) := by
  have h1 := hc.2 a ha.1 ha.2
  have h2 := hc.2 b hb.1 hb.2
  refine cok_setX (cok_setX hc ha (by omega)) (by rw [upX_len]; exact hb) ?_
  rw [(upX_at ha b hb.1).1]
  omega
set_option maxHeartbeats 4000000 in
theorem api_fault {l : Launch} {D : va_G} {cy : Nat → ClassId} {B n : Nat} {L : Int → Int} {S : St} {P : List St} (hwf : WFg n L S P)  : APIi l D cy B yX10_fault wsX10_fault (rmo 5 118) yX11_fault wsX11_fault (rmo 6 134) [] n L S P := by
  refine ⟨(if (psF n L 200 0 []).1 < 0 then -4 else (psF n L 200 0 []).1), n, L, S, P, hwf, fun N g M hN hM h => ?_, fun N g hN h => ?_⟩
  · obtain ⟨Cn, sr, pl, dn, dv, dT, dX, dV, dW, nx, wh, Rw, jW0, jA0, jg, cs, Ms, fs, hv, hCn, hnx, hPC, hcs, hMs⟩ := h
    obtain ⟨ht0, hsa, htx, hr, hd, hst, hp, hj, hss⟩ := id hv
    have hp9 := hp
    refine CTi_mono (c_X10_fault ht0 htx hr hd hst (by omega) hwf.1.1 (hL_C hwf)) (rfl) (fun g' hp => ?_)
    obtain ⟨sr1, pl1, dn1, dv1, dT1, dX1, dV1, dW1, hr1, hd1, hf⟩ := hp
    exact ⟨⟨_, _, _, _, _, _, _, _, _, _, _, _, _, _, _, _, _, _, ⟨vTop_fr ht0 (fun q h1 h2 => hf q (by omega)), vSA_fr hsa (fun q h1 h2 => hf q (by omega)), vText_fr htx (fun q h1 h2 => hf q (by omega)), hr1, hd1, vSets_fr hst (fun q h1 h2 => hf q (by omega)), vPast_fr hp9 (fun q h1 h2 => hf q (by omega)), vJoint_fr hj (fun q h1 h2 => hf q (by omega)), vSWs_fr hss (fun q h1 h2 => hf q (by omega))⟩, hCn, hnx, hPC, hcs, fun i => by have := hMs i; omega⟩, fun q h => hf q (by omega)⟩
  · obtain ⟨cg, le, sp, va, o0, tn, aw, mw, fw, ls, gs, sn, sw, kr, Nw, Rd, Ps, Lm, Sv, Tb, Lk, Bs, Jo, Wi, Ah, Be, Lo, Sh, Ro, Tr, Su, Sz, ⟨hm, hnow, hrd, hpa, htx, hse, htb, hlk, hbs, hjo, hwi, hah, hbe, hlo, hsh, hro, htr, hsu, hso⟩, ⟨rfl, rfl, hrg⟩, hER, hPR, hLm, hSv⟩ := h
    refine CTi_mono (c_X11_fault hm htx hrd hN hwf.1.1 (hL_M hwf hLm)) (by rw [psF_c (inA_of hLm)]) (fun g' hp => ?_)
    obtain ⟨sp1, va1, Rd1, hm9, hrd9, hf⟩ := hp
    exact ⟨⟨_, _, _, _, _, _, _, _, _, _, _, _, _, _, _, _, _, _, _, _, _, _, _, _, _, _, _, _, _, _, _, _, ⟨hm9, vIA_fr hnow (fun q h1 h2 => hf q (by omega)), hrd9, vIA_fr hpa (fun q h1 h2 => hf q (by omega)), vIA_fr htx (fun q h1 h2 => hf q (by omega)), vLA_fr hse (fun q h1 h2 => hf q (by omega)), vIA_fr htb (fun q h1 h2 => hf q (by omega)), vIA_fr hlk (fun q h1 h2 => hf q (by omega)), vLA_fr hbs (fun q h1 h2 => hf q (by omega)), vLA_fr hjo (fun q h1 h2 => hf q (by omega)), vLA_fr hwi (fun q h1 h2 => hf q (by omega)), vLA_fr hah (fun q h1 h2 => hf q (by omega)), vLA_fr hbe (fun q h1 h2 => hf q (by omega)), vLA_fr hlo (fun q h1 h2 => hf q (by omega)), vLA_fr hsh (fun q h1 h2 => hf q (by omega)), vIA_fr hro (fun q h1 h2 => hf q (by omega)), vIA_fr htr (fun q h1 h2 => hf q (by omega)), vIA_fr hsu (fun q h1 h2 => hf q (by omega)), vLA_fr hso (fun q h1 h2 => hf q (by omega))⟩, ⟨rfl, rfl, hrg⟩, hER, hPR, hLm, hSv⟩, fun q h1 => hf q (by omega)⟩
set_option maxHeartbeats 4000000 in
theorem api_lay {l : Launch} {D : va_G} {cy : Nat → ClassId} {B n : Nat} {L : Int → Int} {S : St} {P : List St} (hwf : WFg n L S P)  : APIi l D cy B yX10_lay wsX10_lay (rmo 6 140) yX11_lay wsX11_lay (rmo 6 134) [] n L S P := by
  by_cases hf1 : (psF n L 200 0 []).1 = -1
  · by_cases hly : lyd (psF n L 200 0 []).2
    · refine ⟨(((psF n L 200 0 []).2.length : Nat) : Int), n, L, (psF n L 200 0 []).2, [], ⟨hwf.1, WFS_ps hly, by decide, fun i hi => absurd hi (Nat.not_lt_zero i)⟩, fun N g M hN hM h => ?_, fun N g hN h => ?_⟩
      · obtain ⟨Cn, sr, pl, dn, dv, dT, dX, dV, dW, nx, wh, Rw, jW0, jA0, jg, cs, Ms, fs, hv, hCn, hnx, hPC, hcs, hMs⟩ := h
        obtain ⟨ht0, hsa, htx, hr, hd, hst, hp, hj, hss⟩ := id hv
        have hp9 := hp
        refine CTi_mono (y_X10_lay (MM := M) ht0 hsa htx hr hd hst hp hss (by omega) hwf.2.1.1.2 hwf.1.1 (hL_C hwf) hCn hMs hf1 hly) (rfl) (fun g' hp => ?_)
        obtain ⟨sr1, pl1, dn1, dv1, dT1, dX1, dV1, dW1, cs1, Ms1, fs1, ht1, hr1, hd1, hp1, hss1, hcs1, hM1, hf⟩ := hp
        exact ⟨⟨_, _, _, _, _, _, _, _, _, _, _, _, _, _, _, _, _, _, ⟨ht1, vSA_fr hsa (fun q h1 h2 => hf q (by omega)), vText_fr htx (fun q h1 h2 => hf q (by omega)), hr1, hd1, vSets_fr hst (fun q h1 h2 => hf q (by omega)), hp1, vJoint_fr hj (fun q h1 h2 => hf q (by omega)), hss1⟩, hCn, hnx, PC_nil, hcs1, fun i => by have := hM1 i; omega⟩, fun q h => hf q (by omega)⟩
      · obtain ⟨cg, le, sp, va, o0, tn, aw, mw, fw, ls, gs, sn, sw, kr, Nw, Rd, Ps, Lm, Sv, Tb, Lk, Bs, Jo, Wi, Ah, Be, Lo, Sh, Ro, Tr, Su, Sz, ⟨hm, hnow, hrd, hpa, htx, hse, htb, hlk, hbs, hjo, hwi, hah, hbe, hlo, hsh, hro, htr, hsu, hso⟩, ⟨rfl, rfl, hrg⟩, hER, hPR, hLm, hSv⟩ := h
        refine CTi_mono (m_y_X11_lay hm hnow htx hrd hN hwf.1.1 (hL_M hwf hLm) (by rw [psF_c (inA_of hLm)]; exact hf1) (by rw [psF_c (inA_of hLm)]; exact hly)) (by rw [psF_c (inA_of hLm)]) (fun g' hp => ?_)
        obtain ⟨sp1, va1, Nw1, Rd1, hm9, hnow9, hrd9, hE9, hf⟩ := hp
        exact ⟨⟨_, _, _, _, _, _, _, _, _, _, _, _, _, _, _, _, _, _, _, _, _, _, _, _, _, _, _, _, _, _, _, _, ⟨hm9, hnow9, hrd9, vIA_fr hpa (fun q h1 h2 => hf q (by omega)), vIA_fr htx (fun q h1 h2 => hf q (by omega)), vLA_fr hse (fun q h1 h2 => hf q (by omega)), vIA_fr htb (fun q h1 h2 => hf q (by omega)), vIA_fr hlk (fun q h1 h2 => hf q (by omega)), vLA_fr hbs (fun q h1 h2 => hf q (by omega)), vLA_fr hjo (fun q h1 h2 => hf q (by omega)), vLA_fr hwi (fun q h1 h2 => hf q (by omega)), vLA_fr hah (fun q h1 h2 => hf q (by omega)), vLA_fr hbe (fun q h1 h2 => hf q (by omega)), vLA_fr hlo (fun q h1 h2 => hf q (by omega)), vLA_fr hsh (fun q h1 h2 => hf q (by omega)), vIA_fr hro (fun q h1 h2 => hf q (by omega)), vIA_fr htr (fun q h1 h2 => hf q (by omega)), vIA_fr hsu (fun q h1 h2 => hf q (by omega)), vLA_fr hso (fun q h1 h2 => hf q (by omega))⟩, ⟨rfl, rfl, hrg⟩, (by have h9 := hE9; rw [psF_c (inA_of hLm)] at h9; exact h9), ⟨by decide, fun i hi => absurd hi (Nat.not_lt_zero i)⟩, hLm, hSv⟩, fun q h1 => hf q (by omega)⟩
    · refine ⟨(-2), n, L, S, P, hwf, fun N g M hN hM h => ?_, fun N g hN h => ?_⟩
      · obtain ⟨Cn, sr, pl, dn, dv, dT, dX, dV, dW, nx, wh, Rw, jW0, jA0, jg, cs, Ms, fs, hv, hCn, hnx, hPC, hcs, hMs⟩ := h
        obtain ⟨ht0, hsa, htx, hr, hd, hst, hp, hj, hss⟩ := id hv
        have hp9 := hp
        refine CTi_mono (n_X10_lay (MM := M) ht0 hsa htx hr hd hst hp hss (by omega) hwf.2.1.1.2 hwf.1.1 (hL_C hwf) hCn hMs (fun h9 => hly h9.2)) (rfl) (fun g' hp => ?_)
        obtain ⟨sr1, pl1, dn1, dv1, dT1, dX1, dV1, dW1, hr1, hd1, hf⟩ := hp
        exact ⟨⟨_, _, _, _, _, _, _, _, _, _, _, _, _, _, _, _, _, _, ⟨vTop_fr ht0 (fun q h1 h2 => hf q (by omega)), vSA_fr hsa (fun q h1 h2 => hf q (by omega)), vText_fr htx (fun q h1 h2 => hf q (by omega)), hr1, hd1, vSets_fr hst (fun q h1 h2 => hf q (by omega)), vPast_fr hp9 (fun q h1 h2 => hf q (by omega)), vJoint_fr hj (fun q h1 h2 => hf q (by omega)), vSWs_fr hss (fun q h1 h2 => hf q (by omega))⟩, hCn, hnx, hPC, hcs, fun i => by have := hMs i; omega⟩, fun q h => hf q (by omega)⟩
      · obtain ⟨cg, le, sp, va, o0, tn, aw, mw, fw, ls, gs, sn, sw, kr, Nw, Rd, Ps, Lm, Sv, Tb, Lk, Bs, Jo, Wi, Ah, Be, Lo, Sh, Ro, Tr, Su, Sz, ⟨hm, hnow, hrd, hpa, htx, hse, htb, hlk, hbs, hjo, hwi, hah, hbe, hlo, hsh, hro, htr, hsu, hso⟩, ⟨rfl, rfl, hrg⟩, hER, hPR, hLm, hSv⟩ := h
        refine CTi_mono (m_n2_X11_lay hm hnow htx hrd hN hwf.1.1 (hL_M hwf hLm) (by rw [psF_c (inA_of hLm)]; exact hf1) (by rw [psF_c (inA_of hLm)]; exact hly)) (rfl) (fun g' hp => ?_)
        obtain ⟨sp1, va1, Rd1, hm9, hrd9, hf⟩ := hp
        exact ⟨⟨_, _, _, _, _, _, _, _, _, _, _, _, _, _, _, _, _, _, _, _, _, _, _, _, _, _, _, _, _, _, _, _, ⟨hm9, vIA_fr hnow (fun q h1 h2 => hf q (by omega)), hrd9, vIA_fr hpa (fun q h1 h2 => hf q (by omega)), vIA_fr htx (fun q h1 h2 => hf q (by omega)), vLA_fr hse (fun q h1 h2 => hf q (by omega)), vIA_fr htb (fun q h1 h2 => hf q (by omega)), vIA_fr hlk (fun q h1 h2 => hf q (by omega)), vLA_fr hbs (fun q h1 h2 => hf q (by omega)), vLA_fr hjo (fun q h1 h2 => hf q (by omega)), vLA_fr hwi (fun q h1 h2 => hf q (by omega)), vLA_fr hah (fun q h1 h2 => hf q (by omega)), vLA_fr hbe (fun q h1 h2 => hf q (by omega)), vLA_fr hlo (fun q h1 h2 => hf q (by omega)), vLA_fr hsh (fun q h1 h2 => hf q (by omega)), vIA_fr hro (fun q h1 h2 => hf q (by omega)), vIA_fr htr (fun q h1 h2 => hf q (by omega)), vIA_fr hsu (fun q h1 h2 => hf q (by omega)), vLA_fr hso (fun q h1 h2 => hf q (by omega))⟩, ⟨rfl, rfl, hrg⟩, hER, hPR, hLm, hSv⟩, fun q h1 => hf q (by omega)⟩
  · refine ⟨(-2), n, L, S, P, hwf, fun N g M hN hM h => ?_, fun N g hN h => ?_⟩
    · obtain ⟨Cn, sr, pl, dn, dv, dT, dX, dV, dW, nx, wh, Rw, jW0, jA0, jg, cs, Ms, fs, hv, hCn, hnx, hPC, hcs, hMs⟩ := h
      obtain ⟨ht0, hsa, htx, hr, hd, hst, hp, hj, hss⟩ := id hv
      have hp9 := hp
      refine CTi_mono (n_X10_lay (MM := M) ht0 hsa htx hr hd hst hp hss (by omega) hwf.2.1.1.2 hwf.1.1 (hL_C hwf) hCn hMs (fun h9 => hf1 h9.1)) (rfl) (fun g' hp => ?_)
      obtain ⟨sr1, pl1, dn1, dv1, dT1, dX1, dV1, dW1, hr1, hd1, hf⟩ := hp
      exact ⟨⟨_, _, _, _, _, _, _, _, _, _, _, _, _, _, _, _, _, _, ⟨vTop_fr ht0 (fun q h1 h2 => hf q (by omega)), vSA_fr hsa (fun q h1 h2 => hf q (by omega)), vText_fr htx (fun q h1 h2 => hf q (by omega)), hr1, hd1, vSets_fr hst (fun q h1 h2 => hf q (by omega)), vPast_fr hp9 (fun q h1 h2 => hf q (by omega)), vJoint_fr hj (fun q h1 h2 => hf q (by omega)), vSWs_fr hss (fun q h1 h2 => hf q (by omega))⟩, hCn, hnx, hPC, hcs, fun i => by have := hMs i; omega⟩, fun q h => hf q (by omega)⟩
    · obtain ⟨cg, le, sp, va, o0, tn, aw, mw, fw, ls, gs, sn, sw, kr, Nw, Rd, Ps, Lm, Sv, Tb, Lk, Bs, Jo, Wi, Ah, Be, Lo, Sh, Ro, Tr, Su, Sz, ⟨hm, hnow, hrd, hpa, htx, hse, htb, hlk, hbs, hjo, hwi, hah, hbe, hlo, hsh, hro, htr, hsu, hso⟩, ⟨rfl, rfl, hrg⟩, hER, hPR, hLm, hSv⟩ := h
      refine CTi_mono (m_n1_X11_lay hm hnow htx hrd hN hwf.1.1 (hL_M hwf hLm) (by rw [psF_c (inA_of hLm)]; exact hf1)) (rfl) (fun g' hp => ?_)
      obtain ⟨sp1, va1, Rd1, hm9, hrd9, hf⟩ := hp
      exact ⟨⟨_, _, _, _, _, _, _, _, _, _, _, _, _, _, _, _, _, _, _, _, _, _, _, _, _, _, _, _, _, _, _, _, ⟨hm9, vIA_fr hnow (fun q h1 h2 => hf q (by omega)), hrd9, vIA_fr hpa (fun q h1 h2 => hf q (by omega)), vIA_fr htx (fun q h1 h2 => hf q (by omega)), vLA_fr hse (fun q h1 h2 => hf q (by omega)), vIA_fr htb (fun q h1 h2 => hf q (by omega)), vIA_fr hlk (fun q h1 h2 => hf q (by omega)), vLA_fr hbs (fun q h1 h2 => hf q (by omega)), vLA_fr hjo (fun q h1 h2 => hf q (by omega)), vLA_fr hwi (fun q h1 h2 => hf q (by omega)), vLA_fr hah (fun q h1 h2 => hf q (by omega)), vLA_fr hbe (fun q h1 h2 => hf q (by omega)), vLA_fr hlo (fun q h1 h2 => hf q (by omega)), vLA_fr hsh (fun q h1 h2 => hf q (by omega)), vIA_fr hro (fun q h1 h2 => hf q (by omega)), vIA_fr htr (fun q h1 h2 => hf q (by omega)), vIA_fr hsu (fun q h1 h2 => hf q (by omega)), vLA_fr hso (fun q h1 h2 => hf q (by omega))⟩, ⟨rfl, rfl, hrg⟩, hER, hPR, hLm, hSv⟩, fun q h1 => hf q (by omega)⟩
set_option maxHeartbeats 4000000 in
theorem api_set {l : Launch} {D : va_G} {cy : Nat → ClassId} {B n : Nat} {L : Int → Int} {S : St} {P : List St} {s j what x : Int} (hwf : WFg n L S P) (h_s : -2147483648 ≤ s ∧ s < 2147483648) (h_j : -2147483648 ≤ j ∧ j < 2147483648) (h_what : -2147483648 ≤ what ∧ what < 2147483648) (h_x : -2147483648 ≤ x ∧ x < 2147483648) : APIi l D cy B yX10_set wsX10_set (rmo 2 63) yX11_set wsX11_set (rmo 3 65) [.int (zI s), .int (zI j), .int (zI what), .int (zI x)] n L S P := by
  by_cases hs : 0 ≤ s ∧ s < S.length
  · obtain ⟨k, rfl⟩ : ∃ k : Nat, s = ((k : Nat) : Int) := ⟨s.toNat, by omega⟩
    have hkS : k < S.length := by omega
    have hck := hwf.2.1.2 k hkS
    by_cases hb : ¬ (0 ≤ j ∧ j < (S.getD k []).length) ∨ ¬ (0 ≤ what ∧ what ≤ 1) ∨ x < 0 ∨ (what = 0 ∧ coT (S.getD k []) j < x) ∨ (what = 1 ∧ 9 < x)
    · refine ⟨(-1), n, L, S, P, hwf, fun N g M hN hM h => ?_, fun N g hN h => ?_⟩
      · obtain ⟨Cn, sr, pl, dn, dv, dT, dX, dV, dW, nx, wh, Rw, jW0, jA0, jg, cs, Ms, fs, hv, hCn, hnx, hPC, hcs, hMs⟩ := h
        obtain ⟨ht0, hsa, htx, hr, hd, hst, hp, hj, hss⟩ := id hv
        have hw := hss k (by have := hwf.2.1.1.2; omega)
        rw [hcs k hkS] at hw
        exact CTi_mono (b_X10_set ht0 hsa hw hp (by omega) ⟨hkS, hwf.2.1.1.2⟩ (by have := hMs k; omega) hck.1 hck.2 hnx hPC.1 h_j h_what h_x hb) (rfl) (fun g' hp => by subst hp; exact ⟨⟨Cn, sr, pl, dn, dv, dT, dX, dV, dW, nx, wh, Rw, jW0, jA0, jg, cs, Ms, fs, hv, hCn, hnx, hPC, hcs, fun i => by have := hMs i; omega⟩, fun _ _ => rfl⟩)
      · obtain ⟨cg, le, sp, va, o0, tn, aw, mw, fw, ls, gs, sn, sw, kr, Nw, Rd, Ps, Lm, Sv, Tb, Lk, Bs, Jo, Wi, Ah, Be, Lo, Sh, Ro, Tr, Su, Sz, ⟨hm, hnow, hrd, hpa, htx, hse, htb, hlk, hbs, hjo, hwi, hah, hbe, hlo, hsh, hro, htr, hsu, hso⟩, ⟨rfl, rfl, hrg⟩, hER, hPR, hLm, hSv⟩ := h
        exact CTi_mono (m_b_X11_set hm hnow hpa hN hER hkS rfl hck.1 hPR h_j h_what h_x hb) (rfl) (fun g' hp => by subst hp; exact ⟨⟨_, _, _, _, _, _, _, _, _, _, _, _, _, _, _, _, _, _, _, _, _, _, _, _, _, _, _, _, _, _, _, _, ⟨hm, hnow, hrd, hpa, htx, hse, htb, hlk, hbs, hjo, hwi, hah, hbe, hlo, hsh, hro, htr, hsu, hso⟩, ⟨rfl, rfl, hrg⟩, hER, hPR, hLm, hSv⟩, fun _ _ => rfl⟩)
    · have hjj : 0 ≤ j ∧ j < (S.getD k []).length := by omega
      have hT9 := hck.1.2 j hjj.1 hjj.2
      by_cases hw0 : what = 0
      · by_cases he : coX (S.getD k []) j = x
        · refine ⟨(-2), n, L, S, P, hwf, fun N g M hN hM h => ?_, fun N g hN h => ?_⟩
          · obtain ⟨Cn, sr, pl, dn, dv, dT, dX, dV, dW, nx, wh, Rw, jW0, jA0, jg, cs, Ms, fs, hv, hCn, hnx, hPC, hcs, hMs⟩ := h
            obtain ⟨ht0, hsa, htx, hr, hd, hst, hp, hj, hss⟩ := id hv
            have hw := hss k (by have := hwf.2.1.1.2; omega)
            rw [hcs k hkS] at hw
            exact CTi_mono (s_X10_set ht0 hsa hw hp (by omega) ⟨hkS, hwf.2.1.1.2⟩ (by have := hMs k; omega) hck.1 hck.2 hnx hPC.1 h_j h_what h_x hjj (Or.inl ⟨hw0, by omega, by omega, he⟩)) (rfl) (fun g' hp => by subst hp; exact ⟨⟨Cn, sr, pl, dn, dv, dT, dX, dV, dW, nx, wh, Rw, jW0, jA0, jg, cs, Ms, fs, hv, hCn, hnx, hPC, hcs, fun i => by have := hMs i; omega⟩, fun _ _ => rfl⟩)
          · obtain ⟨cg, le, sp, va, o0, tn, aw, mw, fw, ls, gs, sn, sw, kr, Nw, Rd, Ps, Lm, Sv, Tb, Lk, Bs, Jo, Wi, Ah, Be, Lo, Sh, Ro, Tr, Su, Sz, ⟨hm, hnow, hrd, hpa, htx, hse, htb, hlk, hbs, hjo, hwi, hah, hbe, hlo, hsh, hro, htr, hsu, hso⟩, ⟨rfl, rfl, hrg⟩, hER, hPR, hLm, hSv⟩ := h
            exact CTi_mono (m_s0_X11_set hm hnow hpa hN hER hkS rfl hck.1 hPR h_j h_what h_x hjj ⟨hw0, by omega, by omega, he⟩) (rfl) (fun g' hp => by subst hp; exact ⟨⟨_, _, _, _, _, _, _, _, _, _, _, _, _, _, _, _, _, _, _, _, _, _, _, _, _, _, _, _, _, _, _, _, ⟨hm, hnow, hrd, hpa, htx, hse, htb, hlk, hbs, hjo, hwi, hah, hbe, hlo, hsh, hro, htr, hsu, hso⟩, ⟨rfl, rfl, hrg⟩, hER, hPR, hLm, hSv⟩, fun _ _ => rfl⟩)
        · refine ⟨(coX (S.getD k []) j), n, L, S.set k (upX (S.getD k []) j x), (S :: P).take 6, WFg_push hwf (WFS_set hwf.2.1 hkS ⟨cok_setX hck.1 hjj (by omega), by rw [upX_len]; exact hck.2⟩), fun N g M hN hM h => ?_, fun N g hN h => ?_⟩
          · obtain ⟨Cn, sr, pl, dn, dv, dT, dX, dV, dW, nx, wh, Rw, jW0, jA0, jg, cs, Ms, fs, hv, hCn, hnx, hPC, hcs, hMs⟩ := h
            obtain ⟨ht0, hsa, htx, hr, hd, hst, hp, hj, hss⟩ := id hv
            have hw := hss k (by have := hwf.2.1.1.2; omega)
            rw [hcs k hkS] at hw
            refine CTi_mono (x_X10_set ht0 hsa hw hp (by omega) ⟨hkS, hwf.2.1.1.2⟩ (by have := hMs k; omega) hck.1 hck.2 hnx hPC.1 h_j h_what h_x hjj ⟨hw0, by omega, by omega, he⟩) (rfl) (fun g' hp => ?_)
            obtain ⟨Rn, h1, h2, hRn, hf⟩ := hp
            exact CWs hv hCn hnx hPC hcs hMs hwf.2.1.1.2 hkS h1 (by have := hck.1.1; omega) h2 (put_back (upX_len _ _ _) (fun i a b => (upX_at hjj i a).1) hck.1.1 hRn) hf
          · obtain ⟨cg, le, sp, va, o0, tn, aw, mw, fw, ls, gs, sn, sw, kr, Nw, Rd, Ps, Lm, Sv, Tb, Lk, Bs, Jo, Wi, Ah, Be, Lo, Sh, Ro, Tr, Su, Sz, ⟨hm, hnow, hrd, hpa, htx, hse, htb, hlk, hbs, hjo, hwi, hah, hbe, hlo, hsh, hro, htr, hsu, hso⟩, ⟨rfl, rfl, hrg⟩, hER, hPR, hLm, hSv⟩ := h
            refine CTi_mono (m_x_X11_set hm hnow hpa hN hER hkS rfl hck.1 hPR h_j h_what h_x hjj ⟨hw0, by omega, by omega, he⟩) (rfl) (fun g' hp => ?_)
            obtain ⟨Nw1, Ps1, hm9, hnow9, hpa9, hE1, hP1, hf⟩ := hp
            exact ⟨⟨_, _, _, _, _, _, _, _, _, _, _, _, _, _, _, _, _, _, _, _, _, _, _, _, _, _, _, _, _, _, _, _, ⟨hm9, hnow9, vIA_fr hrd (fun q h1 h2 => hf q (by omega)), hpa9, vIA_fr htx (fun q h1 h2 => hf q (by omega)), vLA_fr hse (fun q h1 h2 => hf q (by omega)), vIA_fr htb (fun q h1 h2 => hf q (by omega)), vIA_fr hlk (fun q h1 h2 => hf q (by omega)), vLA_fr hbs (fun q h1 h2 => hf q (by omega)), vLA_fr hjo (fun q h1 h2 => hf q (by omega)), vLA_fr hwi (fun q h1 h2 => hf q (by omega)), vLA_fr hah (fun q h1 h2 => hf q (by omega)), vLA_fr hbe (fun q h1 h2 => hf q (by omega)), vLA_fr hlo (fun q h1 h2 => hf q (by omega)), vLA_fr hsh (fun q h1 h2 => hf q (by omega)), vIA_fr hro (fun q h1 h2 => hf q (by omega)), vIA_fr htr (fun q h1 h2 => hf q (by omega)), vIA_fr hsu (fun q h1 h2 => hf q (by omega)), vLA_fr hso (fun q h1 h2 => hf q (by omega))⟩, ⟨rfl, rfl, hrg⟩, hE1, hP1, hLm, hSv⟩, fun q h1 => hf q (by omega)⟩
      · by_cases he : coV (S.getD k []) j = x
        · refine ⟨(-2), n, L, S, P, hwf, fun N g M hN hM h => ?_, fun N g hN h => ?_⟩
          · obtain ⟨Cn, sr, pl, dn, dv, dT, dX, dV, dW, nx, wh, Rw, jW0, jA0, jg, cs, Ms, fs, hv, hCn, hnx, hPC, hcs, hMs⟩ := h
            obtain ⟨ht0, hsa, htx, hr, hd, hst, hp, hj, hss⟩ := id hv
            have hw := hss k (by have := hwf.2.1.1.2; omega)
            rw [hcs k hkS] at hw
            exact CTi_mono (s_X10_set ht0 hsa hw hp (by omega) ⟨hkS, hwf.2.1.1.2⟩ (by have := hMs k; omega) hck.1 hck.2 hnx hPC.1 h_j h_what h_x hjj (Or.inr ⟨by omega, by omega, by omega, he⟩)) (rfl) (fun g' hp => by subst hp; exact ⟨⟨Cn, sr, pl, dn, dv, dT, dX, dV, dW, nx, wh, Rw, jW0, jA0, jg, cs, Ms, fs, hv, hCn, hnx, hPC, hcs, fun i => by have := hMs i; omega⟩, fun _ _ => rfl⟩)
          · obtain ⟨cg, le, sp, va, o0, tn, aw, mw, fw, ls, gs, sn, sw, kr, Nw, Rd, Ps, Lm, Sv, Tb, Lk, Bs, Jo, Wi, Ah, Be, Lo, Sh, Ro, Tr, Su, Sz, ⟨hm, hnow, hrd, hpa, htx, hse, htb, hlk, hbs, hjo, hwi, hah, hbe, hlo, hsh, hro, htr, hsu, hso⟩, ⟨rfl, rfl, hrg⟩, hER, hPR, hLm, hSv⟩ := h
            exact CTi_mono (m_s1_X11_set hm hnow hpa hN hER hkS rfl hck.1 hPR h_j h_what h_x hjj ⟨by omega, by omega, by omega, he⟩) (rfl) (fun g' hp => by subst hp; exact ⟨⟨_, _, _, _, _, _, _, _, _, _, _, _, _, _, _, _, _, _, _, _, _, _, _, _, _, _, _, _, _, _, _, _, ⟨hm, hnow, hrd, hpa, htx, hse, htb, hlk, hbs, hjo, hwi, hah, hbe, hlo, hsh, hro, htr, hsu, hso⟩, ⟨rfl, rfl, hrg⟩, hER, hPR, hLm, hSv⟩, fun _ _ => rfl⟩)
        · refine ⟨(coV (S.getD k []) j), n, L, S.set k (upV (S.getD k []) j x), (S :: P).take 6, WFg_push hwf (WFS_set hwf.2.1 hkS ⟨cok_setV hck.1 hjj (by omega), by rw [upV_len]; exact hck.2⟩), fun N g M hN hM h => ?_, fun N g hN h => ?_⟩
          · obtain ⟨Cn, sr, pl, dn, dv, dT, dX, dV, dW, nx, wh, Rw, jW0, jA0, jg, cs, Ms, fs, hv, hCn, hnx, hPC, hcs, hMs⟩ := h
            obtain ⟨ht0, hsa, htx, hr, hd, hst, hp, hj, hss⟩ := id hv
            have hw := hss k (by have := hwf.2.1.1.2; omega)
            rw [hcs k hkS] at hw
            refine CTi_mono (v_X10_set ht0 hsa hw hp (by omega) ⟨hkS, hwf.2.1.1.2⟩ (by have := hMs k; omega) hck.1 hck.2 hnx hPC.1 h_j h_what h_x hjj ⟨by omega, by omega, by omega, he⟩) (rfl) (fun g' hp => ?_)
            obtain ⟨Rn, h1, h2, hRn, hf⟩ := hp
            exact CWs hv hCn hnx hPC hcs hMs hwf.2.1.1.2 hkS h1 (by have := hck.1.1; omega) h2 (put_back (upV_len _ _ _) (fun i a b => (upV_at hjj i a).1) hck.1.1 hRn) hf
          · obtain ⟨cg, le, sp, va, o0, tn, aw, mw, fw, ls, gs, sn, sw, kr, Nw, Rd, Ps, Lm, Sv, Tb, Lk, Bs, Jo, Wi, Ah, Be, Lo, Sh, Ro, Tr, Su, Sz, ⟨hm, hnow, hrd, hpa, htx, hse, htb, hlk, hbs, hjo, hwi, hah, hbe, hlo, hsh, hro, htr, hsu, hso⟩, ⟨rfl, rfl, hrg⟩, hER, hPR, hLm, hSv⟩ := h
            refine CTi_mono (m_v_X11_set hm hnow hpa hN hER hkS rfl hck.1 hPR h_j h_what h_x hjj ⟨by omega, by omega, by omega, he⟩) (rfl) (fun g' hp => ?_)
            obtain ⟨Nw1, Ps1, hm9, hnow9, hpa9, hE1, hP1, hf⟩ := hp
            exact ⟨⟨_, _, _, _, _, _, _, _, _, _, _, _, _, _, _, _, _, _, _, _, _, _, _, _, _, _, _, _, _, _, _, _, ⟨hm9, hnow9, vIA_fr hrd (fun q h1 h2 => hf q (by omega)), hpa9, vIA_fr htx (fun q h1 h2 => hf q (by omega)), vLA_fr hse (fun q h1 h2 => hf q (by omega)), vIA_fr htb (fun q h1 h2 => hf q (by omega)), vIA_fr hlk (fun q h1 h2 => hf q (by omega)), vLA_fr hbs (fun q h1 h2 => hf q (by omega)), vLA_fr hjo (fun q h1 h2 => hf q (by omega)), vLA_fr hwi (fun q h1 h2 => hf q (by omega)), vLA_fr hah (fun q h1 h2 => hf q (by omega)), vLA_fr hbe (fun q h1 h2 => hf q (by omega)), vLA_fr hlo (fun q h1 h2 => hf q (by omega)), vLA_fr hsh (fun q h1 h2 => hf q (by omega)), vIA_fr hro (fun q h1 h2 => hf q (by omega)), vIA_fr htr (fun q h1 h2 => hf q (by omega)), vIA_fr hsu (fun q h1 h2 => hf q (by omega)), vLA_fr hso (fun q h1 h2 => hf q (by omega))⟩, ⟨rfl, rfl, hrg⟩, hE1, hP1, hLm, hSv⟩, fun q h1 => hf q (by omega)⟩
  · refine ⟨(-1), n, L, S, P, hwf, fun N g M hN hM h => ?_, fun N g hN h => ?_⟩
    · obtain ⟨Cn, sr, pl, dn, dv, dT, dX, dV, dW, nx, wh, Rw, jW0, jA0, jg, cs, Ms, fs, hv, hCn, hnx, hPC, hcs, hMs⟩ := h
      obtain ⟨ht0, hsa, htx, hr, hd, hst, hp, hj, hss⟩ := id hv
      exact CTi_mono (n_X10_set ht0 hsa (by omega) hwf.2.1.1.2 h_s hs h_j h_what h_x) (rfl) (fun g' hp => by subst hp; exact ⟨⟨Cn, sr, pl, dn, dv, dT, dX, dV, dW, nx, wh, Rw, jW0, jA0, jg, cs, Ms, fs, hv, hCn, hnx, hPC, hcs, fun i => by have := hMs i; omega⟩, fun _ _ => rfl⟩)
    · obtain ⟨cg, le, sp, va, o0, tn, aw, mw, fw, ls, gs, sn, sw, kr, Nw, Rd, Ps, Lm, Sv, Tb, Lk, Bs, Jo, Wi, Ah, Be, Lo, Sh, Ro, Tr, Su, Sz, ⟨hm, hnow, hrd, hpa, htx, hse, htb, hlk, hbs, hjo, hwi, hah, hbe, hlo, hsh, hro, htr, hsu, hso⟩, ⟨rfl, rfl, hrg⟩, hER, hPR, hLm, hSv⟩ := h
      exact CTi_mono (m_n_X11_set hm hnow hN hER h_s h_j h_what h_x hs) (rfl) (fun g' hp => by subst hp; exact ⟨⟨_, _, _, _, _, _, _, _, _, _, _, _, _, _, _, _, _, _, _, _, _, _, _, _, _, _, _, _, _, _, _, _, ⟨hm, hnow, hrd, hpa, htx, hse, htb, hlk, hbs, hjo, hwi, hah, hbe, hlo, hsh, hro, htr, hsu, hso⟩, ⟨rfl, rfl, hrg⟩, hER, hPR, hLm, hSv⟩, fun _ _ => rfl⟩)
set_option maxHeartbeats 4000000 in
theorem api_move {l : Launch} {D : va_G} {cy : Nat → ClassId} {B n : Nat} {L : Int → Int} {S : St} {P : List St} {s a b : Int} (hwf : WFg n L S P) (h_s : -2147483648 ≤ s ∧ s < 2147483648) (h_a : -2147483648 ≤ a ∧ a < 2147483648) (h_b : -2147483648 ≤ b ∧ b < 2147483648) : APIi l D cy B yX10_move wsX10_move (rmo 2 63) yX11_move wsX11_move (rmo 3 65) [.int (zI s), .int (zI a), .int (zI b)] n L S P := by
  by_cases hs : 0 ≤ s ∧ s < S.length
  · obtain ⟨k, rfl⟩ : ∃ k : Nat, s = ((k : Nat) : Int) := ⟨s.toNat, by omega⟩
    have hkS : k < S.length := by omega
    have hck := hwf.2.1.2 k hkS
    by_cases hb : a = b ∨ ¬ (0 ≤ a ∧ a < (S.getD k []).length) ∨ ¬ (0 ≤ b ∧ b < (S.getD k []).length)
    · refine ⟨(-1), n, L, S, P, hwf, fun N g M hN hM h => ?_, fun N g hN h => ?_⟩
      · obtain ⟨Cn, sr, pl, dn, dv, dT, dX, dV, dW, nx, wh, Rw, jW0, jA0, jg, cs, Ms, fs, hv, hCn, hnx, hPC, hcs, hMs⟩ := h
        obtain ⟨ht0, hsa, htx, hr, hd, hst, hp, hj, hss⟩ := id hv
        have hw := hss k (by have := hwf.2.1.1.2; omega)
        rw [hcs k hkS] at hw
        exact CTi_mono (b_X10_move ht0 hsa hw hp (by omega) ⟨hkS, hwf.2.1.1.2⟩ (by have := hMs k; omega) hck.1 hck.2 hnx hPC.1 h_a h_b hb) (rfl) (fun g' hp => by subst hp; exact ⟨⟨Cn, sr, pl, dn, dv, dT, dX, dV, dW, nx, wh, Rw, jW0, jA0, jg, cs, Ms, fs, hv, hCn, hnx, hPC, hcs, fun i => by have := hMs i; omega⟩, fun _ _ => rfl⟩)
      · obtain ⟨cg, le, sp, va, o0, tn, aw, mw, fw, ls, gs, sn, sw, kr, Nw, Rd, Ps, Lm, Sv, Tb, Lk, Bs, Jo, Wi, Ah, Be, Lo, Sh, Ro, Tr, Su, Sz, ⟨hm, hnow, hrd, hpa, htx, hse, htb, hlk, hbs, hjo, hwi, hah, hbe, hlo, hsh, hro, htr, hsu, hso⟩, ⟨rfl, rfl, hrg⟩, hER, hPR, hLm, hSv⟩ := h
        exact CTi_mono (m_b_X11_move hm hnow hpa hN hER hkS rfl hck.1 hPR h_a h_b hb) (rfl) (fun g' hp => by subst hp; exact ⟨⟨_, _, _, _, _, _, _, _, _, _, _, _, _, _, _, _, _, _, _, _, _, _, _, _, _, _, _, _, _, _, _, _, ⟨hm, hnow, hrd, hpa, htx, hse, htb, hlk, hbs, hjo, hwi, hah, hbe, hlo, hsh, hro, htr, hsu, hso⟩, ⟨rfl, rfl, hrg⟩, hER, hPR, hLm, hSv⟩, fun _ _ => rfl⟩)
    · have ha : 0 ≤ a ∧ a < (S.getD k []).length := by omega
      have hb1 : 0 ≤ b ∧ b < (S.getD k []).length := by omega
      have hab : ¬ a = b := by omega
      by_cases hz : coX (S.getD k []) a = 0 ∨ coX (S.getD k []) b = coT (S.getD k []) b
      · refine ⟨(-2), n, L, S, P, hwf, fun N g M hN hM h => ?_, fun N g hN h => ?_⟩
        · obtain ⟨Cn, sr, pl, dn, dv, dT, dX, dV, dW, nx, wh, Rw, jW0, jA0, jg, cs, Ms, fs, hv, hCn, hnx, hPC, hcs, hMs⟩ := h
          obtain ⟨ht0, hsa, htx, hr, hd, hst, hp, hj, hss⟩ := id hv
          have hw := hss k (by have := hwf.2.1.1.2; omega)
          rw [hcs k hkS] at hw
          exact CTi_mono (s_X10_move ht0 hsa hw hp (by omega) ⟨hkS, hwf.2.1.1.2⟩ (by have := hMs k; omega) hck.1 hck.2 hnx hPC.1 h_a h_b ha hb1 hab hz) (rfl) (fun g' hp => by subst hp; exact ⟨⟨Cn, sr, pl, dn, dv, dT, dX, dV, dW, nx, wh, Rw, jW0, jA0, jg, cs, Ms, fs, hv, hCn, hnx, hPC, hcs, fun i => by have := hMs i; omega⟩, fun _ _ => rfl⟩)
        · obtain ⟨cg, le, sp, va, o0, tn, aw, mw, fw, ls, gs, sn, sw, kr, Nw, Rd, Ps, Lm, Sv, Tb, Lk, Bs, Jo, Wi, Ah, Be, Lo, Sh, Ro, Tr, Su, Sz, ⟨hm, hnow, hrd, hpa, htx, hse, htb, hlk, hbs, hjo, hwi, hah, hbe, hlo, hsh, hro, htr, hsu, hso⟩, ⟨rfl, rfl, hrg⟩, hER, hPR, hLm, hSv⟩ := h
          exact CTi_mono (m_s_X11_move hm hnow hpa hN hER hkS rfl hck.1 hPR h_a h_b ha hb1 hab hz) (rfl) (fun g' hp => by subst hp; exact ⟨⟨_, _, _, _, _, _, _, _, _, _, _, _, _, _, _, _, _, _, _, _, _, _, _, _, _, _, _, _, _, _, _, _, ⟨hm, hnow, hrd, hpa, htx, hse, htb, hlk, hbs, hjo, hwi, hah, hbe, hlo, hsh, hro, htr, hsu, hso⟩, ⟨rfl, rfl, hrg⟩, hER, hPR, hLm, hSv⟩, fun _ _ => rfl⟩)
      · have hz2 : ¬ coX (S.getD k []) a = 0 ∧ ¬ coX (S.getD k []) b = coT (S.getD k []) b := ⟨fun h => hz (Or.inl h), fun h => hz (Or.inr h)⟩
        refine ⟨(coX (S.getD k []) b + 1), n, L, S.set k (upX (upX (S.getD k []) a (coX (S.getD k []) a - 1)) b (coX (S.getD k []) b + 1)), (S :: P).take 6, WFg_push hwf (WFS_set hwf.2.1 hkS ⟨cok_mv hck.1 ha hb1 hab hz2, by rw [upX_len, upX_len]; exact hck.2⟩), fun N g M hN hM h => ?_, fun N g hN h => ?_⟩
        · obtain ⟨Cn, sr, pl, dn, dv, dT, dX, dV, dW, nx, wh, Rw, jW0, jA0, jg, cs, Ms, fs, hv, hCn, hnx, hPC, hcs, hMs⟩ := h
          obtain ⟨ht0, hsa, htx, hr, hd, hst, hp, hj, hss⟩ := id hv
          have hw := hss k (by have := hwf.2.1.1.2; omega)
          rw [hcs k hkS] at hw
          refine CTi_mono (y_X10_move ht0 hsa hw hp (by omega) ⟨hkS, hwf.2.1.1.2⟩ (by have := hMs k; omega) hck.1 hck.2 hnx hPC.1 h_a h_b ha hb1 hab hz2) (rfl) (fun g' hp => ?_)
          obtain ⟨Rn, h1, h2, hRn, hf⟩ := hp
          exact CWs hv hCn hnx hPC hcs hMs hwf.2.1.1.2 hkS h1 (by have := hck.1.1; omega) h2 (put_back (by rw [upX_len, upX_len]) (fun i a9 b9 => by rw [(upX_at (by rw [upX_len]; exact hb1) i a9).1, (upX_at ha i a9).1]) hck.1.1 hRn) hf
        · obtain ⟨cg, le, sp, va, o0, tn, aw, mw, fw, ls, gs, sn, sw, kr, Nw, Rd, Ps, Lm, Sv, Tb, Lk, Bs, Jo, Wi, Ah, Be, Lo, Sh, Ro, Tr, Su, Sz, ⟨hm, hnow, hrd, hpa, htx, hse, htb, hlk, hbs, hjo, hwi, hah, hbe, hlo, hsh, hro, htr, hsu, hso⟩, ⟨rfl, rfl, hrg⟩, hER, hPR, hLm, hSv⟩ := h
          refine CTi_mono (m_y_X11_move hm hnow hpa hN hER hkS rfl hck.1 hPR h_a h_b ha hb1 hab hz2) (rfl) (fun g' hp => ?_)
          obtain ⟨Nw1, Ps1, hm9, hnow9, hpa9, hE1, hP1, hf⟩ := hp
          exact ⟨⟨_, _, _, _, _, _, _, _, _, _, _, _, _, _, _, _, _, _, _, _, _, _, _, _, _, _, _, _, _, _, _, _, ⟨hm9, hnow9, vIA_fr hrd (fun q h1 h2 => hf q (by omega)), hpa9, vIA_fr htx (fun q h1 h2 => hf q (by omega)), vLA_fr hse (fun q h1 h2 => hf q (by omega)), vIA_fr htb (fun q h1 h2 => hf q (by omega)), vIA_fr hlk (fun q h1 h2 => hf q (by omega)), vLA_fr hbs (fun q h1 h2 => hf q (by omega)), vLA_fr hjo (fun q h1 h2 => hf q (by omega)), vLA_fr hwi (fun q h1 h2 => hf q (by omega)), vLA_fr hah (fun q h1 h2 => hf q (by omega)), vLA_fr hbe (fun q h1 h2 => hf q (by omega)), vLA_fr hlo (fun q h1 h2 => hf q (by omega)), vLA_fr hsh (fun q h1 h2 => hf q (by omega)), vIA_fr hro (fun q h1 h2 => hf q (by omega)), vIA_fr htr (fun q h1 h2 => hf q (by omega)), vIA_fr hsu (fun q h1 h2 => hf q (by omega)), vLA_fr hso (fun q h1 h2 => hf q (by omega))⟩, ⟨rfl, rfl, hrg⟩, hE1, hP1, hLm, hSv⟩, fun q h1 => hf q (by omega)⟩
  · refine ⟨(-1), n, L, S, P, hwf, fun N g M hN hM h => ?_, fun N g hN h => ?_⟩
    · obtain ⟨Cn, sr, pl, dn, dv, dT, dX, dV, dW, nx, wh, Rw, jW0, jA0, jg, cs, Ms, fs, hv, hCn, hnx, hPC, hcs, hMs⟩ := h
      obtain ⟨ht0, hsa, htx, hr, hd, hst, hp, hj, hss⟩ := id hv
      exact CTi_mono (n_X10_move ht0 hsa (by omega) hwf.2.1.1.2 h_s hs h_a h_b) (rfl) (fun g' hp => by subst hp; exact ⟨⟨Cn, sr, pl, dn, dv, dT, dX, dV, dW, nx, wh, Rw, jW0, jA0, jg, cs, Ms, fs, hv, hCn, hnx, hPC, hcs, fun i => by have := hMs i; omega⟩, fun _ _ => rfl⟩)
    · obtain ⟨cg, le, sp, va, o0, tn, aw, mw, fw, ls, gs, sn, sw, kr, Nw, Rd, Ps, Lm, Sv, Tb, Lk, Bs, Jo, Wi, Ah, Be, Lo, Sh, Ro, Tr, Su, Sz, ⟨hm, hnow, hrd, hpa, htx, hse, htb, hlk, hbs, hjo, hwi, hah, hbe, hlo, hsh, hro, htr, hsu, hso⟩, ⟨rfl, rfl, hrg⟩, hER, hPR, hLm, hSv⟩ := h
      exact CTi_mono (m_n_X11_move hm hnow hN hER h_s h_a h_b hs) (rfl) (fun g' hp => by subst hp; exact ⟨⟨_, _, _, _, _, _, _, _, _, _, _, _, _, _, _, _, _, _, _, _, _, _, _, _, _, _, _, _, _, _, _, _, ⟨hm, hnow, hrd, hpa, htx, hse, htb, hlk, hbs, hjo, hwi, hah, hbe, hlo, hsh, hro, htr, hsu, hso⟩, ⟨rfl, rfl, hrg⟩, hER, hPR, hLm, hSv⟩, fun _ _ => rfl⟩)
set_option maxHeartbeats 4000000 in
theorem api_turn {l : Launch} {D : va_G} {cy : Nat → ClassId} {B n : Nat} {L : Int → Int} {S : St} {P : List St} {s : Int} (hwf : WFg n L S P) (h_s : -2147483648 ≤ s ∧ s < 2147483648) : APIi l D cy B yX10_turn wsX10_turn (rmo 2 63) yX11_turn wsX11_turn (rmo 3 69) [.int (zI s)] n L S P := by
  by_cases hs : 0 ≤ s ∧ s < S.length
  · obtain ⟨k, rfl⟩ : ∃ k : Nat, s = ((k : Nat) : Int) := ⟨s.toNat, by omega⟩
    have hkS : k < S.length := by omega
    have hck := hwf.2.1.2 k hkS
    refine ⟨((coR (trn (S.getD k []) (S.getD k []).length) : Nat) : Int), n, L, S.set k (trn (S.getD k []) (S.getD k []).length), (S :: P).take 6, WFg_push hwf (WFS_set hwf.2.1 hkS ⟨trn_cok hck.1 (Nat.le_refl _), by rw [trn_len]; exact hck.2⟩), fun N g M hN hM h => ?_, fun N g hN h => ?_⟩
    · obtain ⟨Cn, sr, pl, dn, dv, dT, dX, dV, dW, nx, wh, Rw, jW0, jA0, jg, cs, Ms, fs, hv, hCn, hnx, hPC, hcs, hMs⟩ := h
      obtain ⟨ht0, hsa, htx, hr, hd, hst, hp, hj, hss⟩ := id hv
      have hw := hss k (by have := hwf.2.1.1.2; omega)
      rw [hcs k hkS] at hw
      refine CTi_mono (y_X10_turn ht0 hsa hw hp (by omega) ⟨hkS, hwf.2.1.1.2⟩ (by have := hMs k; omega) hck.1 hck.2 hnx hPC.1) (rfl) (fun g' hp => ?_)
      obtain ⟨Rn, h1, h2, hRn, hf⟩ := hp
      exact CWs hv hCn hnx hPC hcs hMs hwf.2.1.1.2 hkS h1 (by have := hck.1.1; omega) h2 (put_back (trn_len _ _) (fun i a9 b9 => (trn_at (Nat.le_refl _) i a9).1) hck.1.1 hRn) hf
    · obtain ⟨cg, le, sp, va, o0, tn, aw, mw, fw, ls, gs, sn, sw, kr, Nw, Rd, Ps, Lm, Sv, Tb, Lk, Bs, Jo, Wi, Ah, Be, Lo, Sh, Ro, Tr, Su, Sz, ⟨hm, hnow, hrd, hpa, htx, hse, htb, hlk, hbs, hjo, hwi, hah, hbe, hlo, hsh, hro, htr, hsu, hso⟩, ⟨rfl, rfl, hrg⟩, hER, hPR, hLm, hSv⟩ := h
      refine CTi_mono (m_y_X11_turn hm hnow hpa hN hER hkS rfl hck.1 hPR) (rfl) (fun g' hp => ?_)
      obtain ⟨Nw1, Ps1, hm9, hnow9, hpa9, hE1, hP1, hf⟩ := hp
      exact ⟨⟨_, _, _, _, _, _, _, _, _, _, _, _, _, _, _, _, _, _, _, _, _, _, _, _, _, _, _, _, _, _, _, _, ⟨hm9, hnow9, vIA_fr hrd (fun q h1 h2 => hf q (by omega)), hpa9, vIA_fr htx (fun q h1 h2 => hf q (by omega)), vLA_fr hse (fun q h1 h2 => hf q (by omega)), vIA_fr htb (fun q h1 h2 => hf q (by omega)), vIA_fr hlk (fun q h1 h2 => hf q (by omega)), vLA_fr hbs (fun q h1 h2 => hf q (by omega)), vLA_fr hjo (fun q h1 h2 => hf q (by omega)), vLA_fr hwi (fun q h1 h2 => hf q (by omega)), vLA_fr hah (fun q h1 h2 => hf q (by omega)), vLA_fr hbe (fun q h1 h2 => hf q (by omega)), vLA_fr hlo (fun q h1 h2 => hf q (by omega)), vLA_fr hsh (fun q h1 h2 => hf q (by omega)), vIA_fr hro (fun q h1 h2 => hf q (by omega)), vIA_fr htr (fun q h1 h2 => hf q (by omega)), vIA_fr hsu (fun q h1 h2 => hf q (by omega)), vLA_fr hso (fun q h1 h2 => hf q (by omega))⟩, ⟨rfl, rfl, hrg⟩, hE1, hP1, hLm, hSv⟩, fun q h1 => hf q (by omega)⟩
  · refine ⟨(-1), n, L, S, P, hwf, fun N g M hN hM h => ?_, fun N g hN h => ?_⟩
    · obtain ⟨Cn, sr, pl, dn, dv, dT, dX, dV, dW, nx, wh, Rw, jW0, jA0, jg, cs, Ms, fs, hv, hCn, hnx, hPC, hcs, hMs⟩ := h
      obtain ⟨ht0, hsa, htx, hr, hd, hst, hp, hj, hss⟩ := id hv
      exact CTi_mono (n_X10_turn ht0 hsa (by omega) hwf.2.1.1.2 h_s hs) (rfl) (fun g' hp => by subst hp; exact ⟨⟨Cn, sr, pl, dn, dv, dT, dX, dV, dW, nx, wh, Rw, jW0, jA0, jg, cs, Ms, fs, hv, hCn, hnx, hPC, hcs, fun i => by have := hMs i; omega⟩, fun _ _ => rfl⟩)
    · obtain ⟨cg, le, sp, va, o0, tn, aw, mw, fw, ls, gs, sn, sw, kr, Nw, Rd, Ps, Lm, Sv, Tb, Lk, Bs, Jo, Wi, Ah, Be, Lo, Sh, Ro, Tr, Su, Sz, ⟨hm, hnow, hrd, hpa, htx, hse, htb, hlk, hbs, hjo, hwi, hah, hbe, hlo, hsh, hro, htr, hsu, hso⟩, ⟨rfl, rfl, hrg⟩, hER, hPR, hLm, hSv⟩ := h
      exact CTi_mono (m_n_X11_turn hm hnow hN hER h_s hs) (rfl) (fun g' hp => by subst hp; exact ⟨⟨_, _, _, _, _, _, _, _, _, _, _, _, _, _, _, _, _, _, _, _, _, _, _, _, _, _, _, _, _, _, _, _, ⟨hm, hnow, hrd, hpa, htx, hse, htb, hlk, hbs, hjo, hwi, hah, hbe, hlo, hsh, hro, htr, hsu, hso⟩, ⟨rfl, rfl, hrg⟩, hER, hPR, hLm, hSv⟩, fun _ _ => rfl⟩)
set_option maxHeartbeats 4000000 in
theorem api_undo {l : Launch} {D : va_G} {cy : Nat → ClassId} {B n : Nat} {L : Int → Int} {S : St} {P : List St} (hwf : WFg n L S P)  : APIi l D cy B yX10_undo wsX10_undo (rmo 3 66) yX11_undo wsX11_undo (rmo 0 0) [] n L S P := by
  cases P with
  | nil =>
    refine ⟨(-2), n, L, S, [], hwf, fun N g M hN hM h => ?_, fun N g hN h => ?_⟩
    · obtain ⟨Cn, sr, pl, dn, dv, dT, dX, dV, dW, nx, wh, Rw, jW0, jA0, jg, cs, Ms, fs, hv, hCn, hnx, hPC, hcs, hMs⟩ := h
      obtain ⟨ht0, hsa, htx, hr, hd, hst, hp, hj, hss⟩ := id hv
      exact CTi_mono (n_X10_undo ht0 hsa hp (by omega) hwf.2.1.1.2 hnx hPC.1 rfl) (rfl) (fun g' hp => by subst hp; exact ⟨⟨Cn, sr, pl, dn, dv, dT, dX, dV, dW, nx, wh, Rw, jW0, jA0, jg, cs, Ms, fs, hv, hCn, hnx, hPC, hcs, fun i => by have := hMs i; omega⟩, fun _ _ => rfl⟩)
    · obtain ⟨cg, le, sp, va, o0, tn, aw, mw, fw, ls, gs, sn, sw, kr, Nw, Rd, Ps, Lm, Sv, Tb, Lk, Bs, Jo, Wi, Ah, Be, Lo, Sh, Ro, Tr, Su, Sz, ⟨hm, hnow, hrd, hpa, htx, hse, htb, hlk, hbs, hjo, hwi, hah, hbe, hlo, hsh, hro, htr, hsu, hso⟩, ⟨rfl, rfl, hrg⟩, hER, hPR, hLm, hSv⟩ := h
      exact CTi_mono (m_n_X11_undo (Nw := Nw) (Ps := Ps) hm hnow hpa hN) (rfl) (fun g' hp => by subst hp; exact ⟨⟨_, _, _, _, _, _, _, _, _, _, _, _, _, _, _, _, _, _, _, _, _, _, _, _, _, _, _, _, _, _, _, _, ⟨hm, hnow, hrd, hpa, htx, hse, htb, hlk, hbs, hjo, hwi, hah, hbe, hlo, hsh, hro, htr, hsu, hso⟩, ⟨rfl, rfl, hrg⟩, hER, hPR, hLm, hSv⟩, fun _ _ => rfl⟩)
  | cons T P =>
    refine ⟨((P.length : Nat) : Int), n, L, T, P, WFg_pop hwf, fun N g M hN hM h => ?_, fun N g hN h => ?_⟩
    · obtain ⟨Cn, sr, pl, dn, dv, dT, dX, dV, dW, nx, wh, Rw, jW0, jA0, jg, cs, Ms, fs, hv, hCn, hnx, hPC, hcs, hMs⟩ := h
      obtain ⟨ht0, hsa, htx, hr, hd, hst, hp, hj, hss⟩ := id hv
      obtain ⟨⟨k, hkS, hwh9, hT9⟩, hPC9⟩ := PC_pop hPC hnx
      have hck := hwf.2.1.2 k hkS
      have hw := hss k (by have := hwf.2.1.1.2; omega)
      rw [hcs k hkS] at hw
      refine CTi_mono (y_X10_undo ht0 hsa hw hp (by omega) ⟨hkS, hwf.2.1.1.2⟩ (by have := hMs k; omega) ⟨hck.1.1, by omega⟩ hnx hPC.1 (Nat.succ_pos _) hwh9) (rfl) (fun g' hp => ?_)
      exact CWu hv hCn hnx hPC9 hcs hMs hwf.2.1.1.2 hkS hp.1 (by omega) hp.2.1 hT9 hp.2.2
    · obtain ⟨cg, le, sp, va, o0, tn, aw, mw, fw, ls, gs, sn, sw, kr, Nw, Rd, Ps, Lm, Sv, Tb, Lk, Bs, Jo, Wi, Ah, Be, Lo, Sh, Ro, Tr, Su, Sz, ⟨hm, hnow, hrd, hpa, htx, hse, htb, hlk, hbs, hjo, hwi, hah, hbe, hlo, hsh, hro, htr, hsu, hso⟩, ⟨rfl, rfl, hrg⟩, hER, hPR, hLm, hSv⟩ := h
      refine CTi_mono (m_y_X11_undo hm hnow hpa hN hPR) (rfl) (fun g' hp => ?_)
      obtain ⟨Nw1, hm9, hnow9, hE1, hf⟩ := hp
      exact ⟨⟨_, _, _, _, _, _, _, _, _, _, _, _, _, _, _, _, _, _, _, _, _, _, _, _, _, _, _, _, _, _, _, _, ⟨hm9, hnow9, vIA_fr hrd (fun q h1 h2 => hf q (by omega)), vIA_fr hpa (fun q h1 h2 => hf q (by omega)), vIA_fr htx (fun q h1 h2 => hf q (by omega)), vLA_fr hse (fun q h1 h2 => hf q (by omega)), vIA_fr htb (fun q h1 h2 => hf q (by omega)), vIA_fr hlk (fun q h1 h2 => hf q (by omega)), vLA_fr hbs (fun q h1 h2 => hf q (by omega)), vLA_fr hjo (fun q h1 h2 => hf q (by omega)), vLA_fr hwi (fun q h1 h2 => hf q (by omega)), vLA_fr hah (fun q h1 h2 => hf q (by omega)), vLA_fr hbe (fun q h1 h2 => hf q (by omega)), vLA_fr hlo (fun q h1 h2 => hf q (by omega)), vLA_fr hsh (fun q h1 h2 => hf q (by omega)), vIA_fr hro (fun q h1 h2 => hf q (by omega)), vIA_fr htr (fun q h1 h2 => hf q (by omega)), vIA_fr hsu (fun q h1 h2 => hf q (by omega)), vLA_fr hso (fun q h1 h2 => hf q (by omega))⟩, ⟨rfl, rfl, hrg⟩, hE1, (PR_pop hPR).1, hLm, hSv⟩, fun q h1 => hf q (by omega)⟩
