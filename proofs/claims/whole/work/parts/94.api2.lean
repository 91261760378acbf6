/-! ===== every call, continued: told, joined, counted ===== -/
theorem cntS_c {cs cs' : Nat → List Co} {what : Int} : ∀ {m : Nat}, (∀ i, i < m → cs i = cs' i) → cntS cs what m = cntS cs' what m
  | 0, _ => rfl
  | m + 1, h => by rw [cntS, cntS, cntS_c (m := m) (fun i hi => h i (by omega)), h m (by omega)]
theorem jA_c {cs cs' : Nat → List Co} : ∀ {m : Nat}, (∀ i, i < m → cs i = cs' i) → jA cs m = jA cs' m
  | 0, _ => rfl
  | m + 1, h => by rw [jA, jA, jA_c (m := m) (fun i hi => h i (by omega)), h m (by omega)]
theorem jS_c {cs cs' : Nat → List Co} : ∀ {m : Nat}, (∀ i, i < m → cs i = cs' i) → jS cs m = jS cs' m
  | 0, _ => rfl
  | m + 1, h => by rw [jS, jS, jS_c (m := m) (fun i hi => h i (by omega)), h m (by omega)]
theorem jW_c {cs cs' : Nat → List Co} : ∀ {m : Nat}, (∀ i, i < m → cs i = cs' i) → jW cs m = jW cs' m
  | 0, _ => funext fun y => by rw [jW, jW]
  | m + 1, h => funext fun y => by rw [jW, jW, jW_c (m := m) (fun i hi => h i (by omega)), h m (by omega)]
theorem aJoi_c {cs cs' : Nat → List Co} {m : Nat} {law part : Int} (h : ∀ i, i < m → cs i = cs' i) : aJoi cs m law part = aJoi cs' m law part := by
  unfold aJoi
  rw [jA_c h, jS_c h, jW_c h]
theorem cok_setX {c : List Co} {j x : Int} (hc : cok c) (hj : 0 ≤ j ∧ j < c.length) (hx : 0 ≤ x ∧ x ≤ coT c j) : cok (upX c j x) := ⟨by rw [upX_len]; exact hc.1, fun i h1 h2 => by
  rw [upX_len] at h2
  obtain ⟨e1, e2, e3⟩ := upX_at (x := x) hj i h1
  have h := hc.2 i h1 h2
  rw [e1, e2, e3]
  refine ⟨h.1, ?_, h.2.2⟩
  split
  · next h9 =>
    subst h9
    exact hx
  · exact h.2.1⟩
theorem cok_setV {c : List Co} {j x : Int} (hc : cok c) (hj : 0 ≤ j ∧ j < c.length) (hx : 0 ≤ x ∧ x ≤ 9) : cok (upV c j x) := ⟨by rw [upV_len]; exact hc.1, fun i h1 h2 => by
  rw [upV_len] at h2
  obtain ⟨e1, e2, e3⟩ := upV_at (x := x) hj i h1
  have h := hc.2 i h1 h2
  rw [e1, e2, e3]
  refine ⟨h.1, h.2.1, ?_⟩
  split
  · next h9 =>
    subst h9
    exact hx
  · exact h.2.2⟩
set_option maxHeartbeats 4000000 in
theorem api_column {l : Launch} {D : va_G} {cy : Nat → ClassId} {B n : Nat} {L : Int → Int} {S : St} {P : List St} {s j what : Int} (hwf : WFg n L S P) (h_s : -2147483648 ≤ s ∧ s < 2147483648) (h_j : -2147483648 ≤ j ∧ j < 2147483648) (h_what : -2147483648 ≤ what ∧ what < 2147483648) : APIi l D cy B yX10_column wsX10_column (rmo 1 21) yX11_column wsX11_column (rmo 3 65) [.int (zI s), .int (zI j), .int (zI what)] n L S P := by
  by_cases hs : 0 ≤ s ∧ s < S.length
  · obtain ⟨k, rfl⟩ : ∃ k : Nat, s = ((k : Nat) : Int) := ⟨s.toNat, by omega⟩
    have hkS : k < S.length := by omega
    have hck := hwf.2.1.2 k hkS
    by_cases hvd : (0 ≤ j ∧ j < (S.getD k []).length) ∧ 0 ≤ what ∧ what ≤ 2
    · refine ⟨(aCol (S.getD k []) j what), n, L, S, P, hwf, fun N g M hN hM h => ?_, fun N g hN h => ?_⟩
      · obtain ⟨Cn, sr, pl, dn, dv, dT, dX, dV, dW, nx, wh, Rw, jW0, jA0, jg, cs, Ms, fs, hv, hCn, hnx, hPC, hcs, hMs⟩ := h
        obtain ⟨ht0, hsa, htx, hr, hd, hst, hp, hj, hss⟩ := id hv
        have hw := hss k (by have := hwf.2.1.1.2; omega)
        rw [hcs k hkS] at hw
        exact CTi_mono (y_X10_column ht0 hsa hw (by omega) ⟨hkS, hwf.2.1.1.2⟩ (by have := hMs k; omega) hck.1 hck.2 h_j h_what) (rfl) (fun g' hp => by subst hp; exact ⟨⟨Cn, sr, pl, dn, dv, dT, dX, dV, dW, nx, wh, Rw, jW0, jA0, jg, cs, Ms, fs, hv, hCn, hnx, hPC, hcs, fun i => by have := hMs i; omega⟩, fun _ _ => rfl⟩)
      · obtain ⟨cg, le, sp, va, o0, tn, aw, mw, fw, ls, gs, sn, sw, kr, Nw, Rd, Ps, Lm, Sv, Tb, Lk, Bs, Jo, Wi, Ah, Be, Lo, Sh, Ro, Tr, Su, Sz, ⟨hm, hnow, hrd, hpa, htx, hse, htb, hlk, hbs, hjo, hwi, hah, hbe, hlo, hsh, hro, htr, hsu, hso⟩, ⟨rfl, rfl, hrg⟩, hER, hPR, hLm, hSv⟩ := h
        exact CTi_mono (m_y_X11_column (Sv := Sv) (Tb := Tb) (Lk := Lk) (Bs := Bs) hm hnow hN hER hkS rfl hck.1 h_j h_what hvd) (rfl) (fun g' hp => by subst hp; exact ⟨⟨_, _, _, _, _, _, _, _, _, _, _, _, _, _, _, _, _, _, _, _, _, _, _, _, _, _, _, _, _, _, _, _, ⟨hm, hnow, hrd, hpa, htx, hse, htb, hlk, hbs, hjo, hwi, hah, hbe, hlo, hsh, hro, htr, hsu, hso⟩, ⟨rfl, rfl, hrg⟩, hER, hPR, hLm, hSv⟩, fun _ _ => rfl⟩)
    · refine ⟨(aCol (S.getD k []) j what), n, L, S, P, hwf, fun N g M hN hM h => ?_, fun N g hN h => ?_⟩
      · obtain ⟨Cn, sr, pl, dn, dv, dT, dX, dV, dW, nx, wh, Rw, jW0, jA0, jg, cs, Ms, fs, hv, hCn, hnx, hPC, hcs, hMs⟩ := h
        obtain ⟨ht0, hsa, htx, hr, hd, hst, hp, hj, hss⟩ := id hv
        have hw := hss k (by have := hwf.2.1.1.2; omega)
        rw [hcs k hkS] at hw
        exact CTi_mono (y_X10_column ht0 hsa hw (by omega) ⟨hkS, hwf.2.1.1.2⟩ (by have := hMs k; omega) hck.1 hck.2 h_j h_what) (rfl) (fun g' hp => by subst hp; exact ⟨⟨Cn, sr, pl, dn, dv, dT, dX, dV, dW, nx, wh, Rw, jW0, jA0, jg, cs, Ms, fs, hv, hCn, hnx, hPC, hcs, fun i => by have := hMs i; omega⟩, fun _ _ => rfl⟩)
      · obtain ⟨cg, le, sp, va, o0, tn, aw, mw, fw, ls, gs, sn, sw, kr, Nw, Rd, Ps, Lm, Sv, Tb, Lk, Bs, Jo, Wi, Ah, Be, Lo, Sh, Ro, Tr, Su, Sz, ⟨hm, hnow, hrd, hpa, htx, hse, htb, hlk, hbs, hjo, hwi, hah, hbe, hlo, hsh, hro, htr, hsu, hso⟩, ⟨rfl, rfl, hrg⟩, hER, hPR, hLm, hSv⟩ := h
        exact CTi_mono (m_n_X11_column hm hnow hN hER h_s h_j h_what (by rw [Int.toNat_natCast]; omega)) (by unfold aCol; split <;> (repeat rw [if_neg (by omega)]) <;> (try rfl)) (fun g' hp => by subst hp; exact ⟨⟨_, _, _, _, _, _, _, _, _, _, _, _, _, _, _, _, _, _, _, _, _, _, _, _, _, _, _, _, _, _, _, _, ⟨hm, hnow, hrd, hpa, htx, hse, htb, hlk, hbs, hjo, hwi, hah, hbe, hlo, hsh, hro, htr, hsu, hso⟩, ⟨rfl, rfl, hrg⟩, hER, hPR, hLm, hSv⟩, fun _ _ => rfl⟩)
  · refine ⟨(-1), n, L, S, P, hwf, fun N g M hN hM h => ?_, fun N g hN h => ?_⟩
    · obtain ⟨Cn, sr, pl, dn, dv, dT, dX, dV, dW, nx, wh, Rw, jW0, jA0, jg, cs, Ms, fs, hv, hCn, hnx, hPC, hcs, hMs⟩ := h
      obtain ⟨ht0, hsa, htx, hr, hd, hst, hp, hj, hss⟩ := id hv
      exact CTi_mono (n_X10_column ht0 hsa (by omega) hwf.2.1.1.2 h_s hs h_j h_what) (rfl) (fun g' hp => by subst hp; exact ⟨⟨Cn, sr, pl, dn, dv, dT, dX, dV, dW, nx, wh, Rw, jW0, jA0, jg, cs, Ms, fs, hv, hCn, hnx, hPC, hcs, fun i => by have := hMs i; omega⟩, fun _ _ => rfl⟩)
    · obtain ⟨cg, le, sp, va, o0, tn, aw, mw, fw, ls, gs, sn, sw, kr, Nw, Rd, Ps, Lm, Sv, Tb, Lk, Bs, Jo, Wi, Ah, Be, Lo, Sh, Ro, Tr, Su, Sz, ⟨hm, hnow, hrd, hpa, htx, hse, htb, hlk, hbs, hjo, hwi, hah, hbe, hlo, hsh, hro, htr, hsu, hso⟩, ⟨rfl, rfl, hrg⟩, hER, hPR, hLm, hSv⟩ := h
      exact CTi_mono (m_n_X11_column hm hnow hN hER h_s h_j h_what (by omega)) (rfl) (fun g' hp => by subst hp; exact ⟨⟨_, _, _, _, _, _, _, _, _, _, _, _, _, _, _, _, _, _, _, _, _, _, _, _, _, _, _, _, _, _, _, _, ⟨hm, hnow, hrd, hpa, htx, hse, htb, hlk, hbs, hjo, hwi, hah, hbe, hlo, hsh, hro, htr, hsu, hso⟩, ⟨rfl, rfl, hrg⟩, hER, hPR, hLm, hSv⟩, fun _ _ => rfl⟩)
set_option maxHeartbeats 4000000 in
theorem api_joined {l : Launch} {D : va_G} {cy : Nat → ClassId} {B n : Nat} {L : Int → Int} {S : St} {P : List St} {law part : Int} (hwf : WFg n L S P) (h_law : -2147483648 ≤ law ∧ law < 2147483648) (h_part : -2147483648 ≤ part ∧ part < 2147483648) : APIl l D cy B yX10_joined wsX10_joined (rmo 13 342) yX11_joined wsX11_joined (rmo 7 170) [.int (zI law), .int (zI part)] n L S P := by
  by_cases hvd : 1 ≤ law ∧ law ≤ 2 ∧ 0 ≤ part ∧ part ≤ 1
  · refine ⟨(aJoi (fun i => S.getD i []) S.length law part), n, L, S, P, hwf, fun N g M hN hM h => ?_, fun N g hN h => ?_⟩
    · obtain ⟨Cn, sr, pl, dn, dv, dT, dX, dV, dW, nx, wh, Rw, jW0, jA0, jg, cs, Ms, fs, hv, hCn, hnx, hPC, hcs, hMs⟩ := h
      obtain ⟨ht0, hsa, htx, hr, hd, hst, hp, hj, hss⟩ := id hv
      have hp9 := hp
      refine CTl_mono (y_X10_joined ht0 hsa hj hss (by omega) hwf.2.1.1.2 (fun i hi => by rw [hcs i hi]; exact hwf.2.1.2 i hi) (fun i => by have := hMs i; omega) h_law h_part hvd) (aJoi_c hcs) (fun g' hp => ?_)
      obtain ⟨jW1, jA1, jg1, fs1, hj1, hss1, hf⟩ := hp
      exact ⟨⟨_, _, _, _, _, _, _, _, _, _, _, _, _, _, _, _, _, _, ⟨vTop_fr ht0 (fun q h1 h2 => hf q (by omega)), vSA_fr hsa (fun q h1 h2 => hf q (by omega)), vText_fr htx (fun q h1 h2 => hf q (by omega)), vReader_fr hr (fun q h1 h2 => hf q (by omega)), vDr_fr hd (fun q h1 h2 => hf q (by omega)), vSets_fr hst (fun q h1 h2 => hf q (by omega)), vPast_fr hp9 (fun q h1 h2 => hf q (by omega)), hj1, hss1⟩, hCn, hnx, hPC, hcs, fun i => by have := hMs i; omega⟩, fun q h => hf q (by omega)⟩
    · obtain ⟨cg, le, sp, va, o0, tn, aw, mw, fw, ls, gs, sn, sw, kr, Nw, Rd, Ps, Lm, Sv, Tb, Lk, Bs, Jo, Wi, Ah, Be, Lo, Sh, Ro, Tr, Su, Sz, ⟨hm, hnow, hrd, hpa, htx, hse, htb, hlk, hbs, hjo, hwi, hah, hbe, hlo, hsh, hro, htr, hsu, hso⟩, ⟨rfl, rfl, hrg⟩, hER, hPR, hLm, hSv⟩ := h
      refine CTl_mono (m_y_X11_joined hm hnow hse htb hlk hbs hjo hwi hN hER hwf.2.1.2 hSv hrg h_law h_part hvd) (rfl) (fun g' hp => ?_)
      obtain ⟨o01, tn1, aw1, mw1, fw1, ls1, gs1, sn1, sw1, kr1, Tb1, Lk1, Bs1, Jo1, Wi1, hm9, htb9, hlk9, hbs9, hjo9, hwi9, hrg1, hf⟩ := hp
      exact ⟨⟨_, _, _, _, _, _, _, _, _, _, _, _, _, _, _, _, _, _, _, _, _, _, _, _, _, _, _, _, _, _, _, _, ⟨hm9, vIA_fr hnow (fun q h1 h2 => hf q (by omega)), vIA_fr hrd (fun q h1 h2 => hf q (by omega)), vIA_fr hpa (fun q h1 h2 => hf q (by omega)), vIA_fr htx (fun q h1 h2 => hf q (by omega)), vLA_fr hse (fun q h1 h2 => hf q (by omega)), htb9, hlk9, hbs9, hjo9, hwi9, vLA_fr hah (fun q h1 h2 => hf q (by omega)), vLA_fr hbe (fun q h1 h2 => hf q (by omega)), vLA_fr hlo (fun q h1 h2 => hf q (by omega)), vLA_fr hsh (fun q h1 h2 => hf q (by omega)), vIA_fr hro (fun q h1 h2 => hf q (by omega)), vIA_fr htr (fun q h1 h2 => hf q (by omega)), vIA_fr hsu (fun q h1 h2 => hf q (by omega)), vLA_fr hso (fun q h1 h2 => hf q (by omega))⟩, ⟨rfl, rfl, hrg1⟩, hER, hPR, hLm, hSv⟩, fun q h1 => hf q (by omega)⟩
  · refine ⟨(-1), n, L, S, P, hwf, fun N g M hN hM h => ?_, fun N g hN h => ?_⟩
    · obtain ⟨Cn, sr, pl, dn, dv, dT, dX, dV, dW, nx, wh, Rw, jW0, jA0, jg, cs, Ms, fs, hv, hCn, hnx, hPC, hcs, hMs⟩ := h
      obtain ⟨ht0, hsa, htx, hr, hd, hst, hp, hj, hss⟩ := id hv
      exact CTl_mono (n_X10_joined ht0 hsa hj hss (by omega) hwf.2.1.1.2 (fun i hi => by rw [hcs i hi]; exact hwf.2.1.2 i hi) (fun i => by have := hMs i; omega) h_law h_part hvd) (rfl) (fun g' hp => by subst hp; exact ⟨⟨Cn, sr, pl, dn, dv, dT, dX, dV, dW, nx, wh, Rw, jW0, jA0, jg, cs, Ms, fs, hv, hCn, hnx, hPC, hcs, fun i => by have := hMs i; omega⟩, fun _ _ => rfl⟩)
    · obtain ⟨cg, le, sp, va, o0, tn, aw, mw, fw, ls, gs, sn, sw, kr, Nw, Rd, Ps, Lm, Sv, Tb, Lk, Bs, Jo, Wi, Ah, Be, Lo, Sh, Ro, Tr, Su, Sz, ⟨hm, hnow, hrd, hpa, htx, hse, htb, hlk, hbs, hjo, hwi, hah, hbe, hlo, hsh, hro, htr, hsu, hso⟩, ⟨rfl, rfl, hrg⟩, hER, hPR, hLm, hSv⟩ := h
      exact CTl_mono (m_n_X11_joined hm hnow hse htb hlk hbs hjo hwi hN hER hwf.2.1.2 hSv hrg h_law h_part hvd) (rfl) (fun g' hp => by subst hp; exact ⟨⟨_, _, _, _, _, _, _, _, _, _, _, _, _, _, _, _, _, _, _, _, _, _, _, _, _, _, _, _, _, _, _, _, ⟨hm, hnow, hrd, hpa, htx, hse, htb, hlk, hbs, hjo, hwi, hah, hbe, hlo, hsh, hro, htr, hsu, hso⟩, ⟨rfl, rfl, hrg⟩, hER, hPR, hLm, hSv⟩, fun _ _ => rfl⟩)
set_option maxHeartbeats 4000000 in
theorem api_count {l : Launch} {D : va_G} {cy : Nat → ClassId} {B n : Nat} {L : Int → Int} {S : St} {P : List St} {what : Int} (hwf : WFg n L S P) (h_what : -2147483648 ≤ what ∧ what < 2147483648) : APIi l D cy B yX10_count wsX10_count (rmo 4 88) yX11_count wsX11_count (rmo 4 90) [.int (zI what)] n L S P := by
  refine ⟨(if what = 0 then ((S.length : Nat) : Int) else if what = 5 then ((P.length : Nat) : Int) else if what = 6 then ((n : Nat) : Int) else if what < 0 ∨ 4 < what then -1 else cntS (fun i => S.getD i []) what S.length), n, L, S, P, hwf, fun N g M hN hM h => ?_, fun N g hN h => ?_⟩
  · obtain ⟨Cn, sr, pl, dn, dv, dT, dX, dV, dW, nx, wh, Rw, jW0, jA0, jg, cs, Ms, fs, hv, hCn, hnx, hPC, hcs, hMs⟩ := h
    obtain ⟨ht0, hsa, htx, hr, hd, hst, hp, hj, hss⟩ := id hv
    exact CTi_mono (c_X10_count ht0 hsa hss hp htx (by omega) hwf.2.1.1.2 (fun i hi => by rw [hcs i hi]; exact (hwf.2.1.2 i hi).1) h_what) (by rw [cntS_c hcs]) (fun g' hp => by subst hp; exact ⟨⟨Cn, sr, pl, dn, dv, dT, dX, dV, dW, nx, wh, Rw, jW0, jA0, jg, cs, Ms, fs, hv, hCn, hnx, hPC, hcs, fun i => by have := hMs i; omega⟩, fun _ _ => rfl⟩)
  · obtain ⟨cg, le, sp, va, o0, tn, aw, mw, fw, ls, gs, sn, sw, kr, Nw, Rd, Ps, Lm, Sv, Tb, Lk, Bs, Jo, Wi, Ah, Be, Lo, Sh, Ro, Tr, Su, Sz, ⟨hm, hnow, hrd, hpa, htx, hse, htb, hlk, hbs, hjo, hwi, hah, hbe, hlo, hsh, hro, htr, hsu, hso⟩, ⟨rfl, rfl, hrg⟩, hER, hPR, hLm, hSv⟩ := h
    exact CTi_mono (c_X11_count hm hnow hN hER (fun i hi => (hwf.2.1.2 i hi).1) h_what) (rfl) (fun g' hp => by subst hp; exact ⟨⟨_, _, _, _, _, _, _, _, _, _, _, _, _, _, _, _, _, _, _, _, _, _, _, _, _, _, _, _, _, _, _, _, ⟨hm, hnow, hrd, hpa, htx, hse, htb, hlk, hbs, hjo, hwi, hah, hbe, hlo, hsh, hro, htr, hsu, hso⟩, ⟨rfl, rfl, hrg⟩, hER, hPR, hLm, hSv⟩, fun _ _ => rfl⟩)
set_option maxHeartbeats 4000000 in
theorem api_write {l : Launch} {D : va_G} {cy : Nat → ClassId} {B n : Nat} {L : Int → Int} {S : St} {P : List St} {x : Int} (hwf : WFg n L S P) (h_x : -2147483648 ≤ x ∧ x < 2147483648) : APIi l D cy B yX10_write wsX10_write (rmo 1 21) yX11_write wsX11_write (rmo 1 22) [.int (zI x)] n L S P := by
  by_cases hb : 32 ≤ x ∧ x ≤ 126
  · by_cases hf : n < 200
    · refine ⟨(((n + 1) : Nat) : Int), n + 1, uZ L ((n : Nat) : Int) x, S, P, ⟨⟨by omega, fun i h1 h2 => by unfold uZ; split; exact hb; exact hwf.1.2 i h1 (by omega)⟩, hwf.2⟩, fun N g M hN hM h => ?_, fun N g hN h => ?_⟩
      · obtain ⟨Cn, sr, pl, dn, dv, dT, dX, dV, dW, nx, wh, Rw, jW0, jA0, jg, cs, Ms, fs, hv, hCn, hnx, hPC, hcs, hMs⟩ := h
        obtain ⟨ht0, hsa, htx, hr, hd, hst, hp, hj, hss⟩ := id hv
        have hp9 := hp
        refine CTi_mono (y_X10_write ht0 htx (by omega) hwf.1.1 h_x hb hf) (rfl) (fun g' hp => ?_)
        exact ⟨⟨_, _, _, _, _, _, _, _, _, _, _, _, _, _, _, _, _, _, ⟨vTop_fr ht0 (fun q h1 h2 => hp.2 q (by omega)), vSA_fr hsa (fun q h1 h2 => hp.2 q (by omega)), hp.1, vReader_fr hr (fun q h1 h2 => hp.2 q (by omega)), vDr_fr hd (fun q h1 h2 => hp.2 q (by omega)), vSets_fr hst (fun q h1 h2 => hp.2 q (by omega)), vPast_fr hp9 (fun q h1 h2 => hp.2 q (by omega)), vJoint_fr hj (fun q h1 h2 => hp.2 q (by omega)), vSWs_fr hss (fun q h1 h2 => hp.2 q (by omega))⟩, hCn, hnx, hPC, hcs, fun i => by have := hMs i; omega⟩, fun q h => hp.2 q (by omega)⟩
      · obtain ⟨cg, le, sp, va, o0, tn, aw, mw, fw, ls, gs, sn, sw, kr, Nw, Rd, Ps, Lm, Sv, Tb, Lk, Bs, Jo, Wi, Ah, Be, Lo, Sh, Ro, Tr, Su, Sz, ⟨hm, hnow, hrd, hpa, htx, hse, htb, hlk, hbs, hjo, hwi, hah, hbe, hlo, hsh, hro, htr, hsu, hso⟩, ⟨rfl, rfl, hrg⟩, hER, hPR, hLm, hSv⟩ := h
        refine CTi_mono (m_y_X11_write hm htx hN hwf.1.1 h_x hb hf) (rfl) (fun g' hp => ?_)
        obtain ⟨hm9, htx9, hf⟩ := hp
        exact ⟨⟨_, _, _, _, _, _, _, _, _, _, _, _, _, _, _, _, _, _, _, _, _, _, _, _, _, _, _, _, _, _, _, _, ⟨hm9, vIA_fr hnow (fun q h1 h2 => hf q (by omega)), vIA_fr hrd (fun q h1 h2 => hf q (by omega)), vIA_fr hpa (fun q h1 h2 => hf q (by omega)), htx9, vLA_fr hse (fun q h1 h2 => hf q (by omega)), vIA_fr htb (fun q h1 h2 => hf q (by omega)), vIA_fr hlk (fun q h1 h2 => hf q (by omega)), vLA_fr hbs (fun q h1 h2 => hf q (by omega)), vLA_fr hjo (fun q h1 h2 => hf q (by omega)), vLA_fr hwi (fun q h1 h2 => hf q (by omega)), vLA_fr hah (fun q h1 h2 => hf q (by omega)), vLA_fr hbe (fun q h1 h2 => hf q (by omega)), vLA_fr hlo (fun q h1 h2 => hf q (by omega)), vLA_fr hsh (fun q h1 h2 => hf q (by omega)), vIA_fr hro (fun q h1 h2 => hf q (by omega)), vIA_fr htr (fun q h1 h2 => hf q (by omega)), vIA_fr hsu (fun q h1 h2 => hf q (by omega)), vLA_fr hso (fun q h1 h2 => hf q (by omega))⟩, ⟨rfl, rfl, hrg⟩, hER, hPR, (fun i h1 h2 => by unfold uZ; split; rfl; exact hLm i h1 (by omega)), hSv⟩, fun q h1 => hf q (by omega)⟩
    · refine ⟨(-3), n, L, S, P, hwf, fun N g M hN hM h => ?_, fun N g hN h => ?_⟩
      · obtain ⟨Cn, sr, pl, dn, dv, dT, dX, dV, dW, nx, wh, Rw, jW0, jA0, jg, cs, Ms, fs, hv, hCn, hnx, hPC, hcs, hMs⟩ := h
        obtain ⟨ht0, hsa, htx, hr, hd, hst, hp, hj, hss⟩ := id hv
        exact CTi_mono (f_X10_write ht0 htx (by omega) hwf.1.1 h_x hb (by have := hwf.1.1; omega)) (rfl) (fun g' hp => by subst hp; exact ⟨⟨Cn, sr, pl, dn, dv, dT, dX, dV, dW, nx, wh, Rw, jW0, jA0, jg, cs, Ms, fs, hv, hCn, hnx, hPC, hcs, fun i => by have := hMs i; omega⟩, fun _ _ => rfl⟩)
      · obtain ⟨cg, le, sp, va, o0, tn, aw, mw, fw, ls, gs, sn, sw, kr, Nw, Rd, Ps, Lm, Sv, Tb, Lk, Bs, Jo, Wi, Ah, Be, Lo, Sh, Ro, Tr, Su, Sz, ⟨hm, hnow, hrd, hpa, htx, hse, htb, hlk, hbs, hjo, hwi, hah, hbe, hlo, hsh, hro, htr, hsu, hso⟩, ⟨rfl, rfl, hrg⟩, hER, hPR, hLm, hSv⟩ := h
        exact CTi_mono (m_f_X11_write hm htx hN hwf.1.1 h_x hb (by have := hwf.1.1; omega)) (rfl) (fun g' hp => by subst hp; exact ⟨⟨_, _, _, _, _, _, _, _, _, _, _, _, _, _, _, _, _, _, _, _, _, _, _, _, _, _, _, _, _, _, _, _, ⟨hm, hnow, hrd, hpa, htx, hse, htb, hlk, hbs, hjo, hwi, hah, hbe, hlo, hsh, hro, htr, hsu, hso⟩, ⟨rfl, rfl, hrg⟩, hER, hPR, hLm, hSv⟩, fun _ _ => rfl⟩)
  · refine ⟨(-1), n, L, S, P, hwf, fun N g M hN hM h => ?_, fun N g hN h => ?_⟩
    · obtain ⟨Cn, sr, pl, dn, dv, dT, dX, dV, dW, nx, wh, Rw, jW0, jA0, jg, cs, Ms, fs, hv, hCn, hnx, hPC, hcs, hMs⟩ := h
      obtain ⟨ht0, hsa, htx, hr, hd, hst, hp, hj, hss⟩ := id hv
      exact CTi_mono (n_X10_write ht0 htx (by omega) hwf.1.1 h_x (by omega)) (rfl) (fun g' hp => by subst hp; exact ⟨⟨Cn, sr, pl, dn, dv, dT, dX, dV, dW, nx, wh, Rw, jW0, jA0, jg, cs, Ms, fs, hv, hCn, hnx, hPC, hcs, fun i => by have := hMs i; omega⟩, fun _ _ => rfl⟩)
    · obtain ⟨cg, le, sp, va, o0, tn, aw, mw, fw, ls, gs, sn, sw, kr, Nw, Rd, Ps, Lm, Sv, Tb, Lk, Bs, Jo, Wi, Ah, Be, Lo, Sh, Ro, Tr, Su, Sz, ⟨hm, hnow, hrd, hpa, htx, hse, htb, hlk, hbs, hjo, hwi, hah, hbe, hlo, hsh, hro, htr, hsu, hso⟩, ⟨rfl, rfl, hrg⟩, hER, hPR, hLm, hSv⟩ := h
      exact CTi_mono (m_n_X11_write hm htx hN hwf.1.1 h_x (by omega)) (rfl) (fun g' hp => by subst hp; exact ⟨⟨_, _, _, _, _, _, _, _, _, _, _, _, _, _, _, _, _, _, _, _, _, _, _, _, _, _, _, _, _, _, _, _, ⟨hm, hnow, hrd, hpa, htx, hse, htb, hlk, hbs, hjo, hwi, hah, hbe, hlo, hsh, hro, htr, hsu, hso⟩, ⟨rfl, rfl, hrg⟩, hER, hPR, hLm, hSv⟩, fun _ _ => rfl⟩)
set_option maxHeartbeats 4000000 in
theorem api_wipe {l : Launch} {D : va_G} {cy : Nat → ClassId} {B n : Nat} {L : Int → Int} {S : St} {P : List St} (hwf : WFg n L S P)  : APIi l D cy B yX10_wipe wsX10_wipe (rmo 1 20) yX11_wipe wsX11_wipe (rmo 0 0) [] n L S P := by
  refine ⟨((n : Nat) : Int), 0, L, S, P, ⟨⟨by omega, fun i h1 h2 => by omega⟩, hwf.2⟩, fun N g M hN hM h => ?_, fun N g hN h => ?_⟩
  · obtain ⟨Cn, sr, pl, dn, dv, dT, dX, dV, dW, nx, wh, Rw, jW0, jA0, jg, cs, Ms, fs, hv, hCn, hnx, hPC, hcs, hMs⟩ := h
    obtain ⟨ht0, hsa, htx, hr, hd, hst, hp, hj, hss⟩ := id hv
    have hp9 := hp
    refine CTi_mono (c_X10_wipe ht0 htx (by omega)) (rfl) (fun g' hp => ?_)
    exact ⟨⟨_, _, _, _, _, _, _, _, _, _, _, _, _, _, _, _, _, _, ⟨vTop_fr ht0 (fun q h1 h2 => hp.2 q (by omega)), vSA_fr hsa (fun q h1 h2 => hp.2 q (by omega)), hp.1, vReader_fr hr (fun q h1 h2 => hp.2 q (by omega)), vDr_fr hd (fun q h1 h2 => hp.2 q (by omega)), vSets_fr hst (fun q h1 h2 => hp.2 q (by omega)), vPast_fr hp9 (fun q h1 h2 => hp.2 q (by omega)), vJoint_fr hj (fun q h1 h2 => hp.2 q (by omega)), vSWs_fr hss (fun q h1 h2 => hp.2 q (by omega))⟩, hCn, hnx, hPC, hcs, fun i => by have := hMs i; omega⟩, fun q h => hp.2 q (by omega)⟩
  · obtain ⟨cg, le, sp, va, o0, tn, aw, mw, fw, ls, gs, sn, sw, kr, Nw, Rd, Ps, Lm, Sv, Tb, Lk, Bs, Jo, Wi, Ah, Be, Lo, Sh, Ro, Tr, Su, Sz, ⟨hm, hnow, hrd, hpa, htx, hse, htb, hlk, hbs, hjo, hwi, hah, hbe, hlo, hsh, hro, htr, hsu, hso⟩, ⟨rfl, rfl, hrg⟩, hER, hPR, hLm, hSv⟩ := h
    refine CTi_mono (c_X11_wipe (Lm := Lm) hm hN) (rfl) (fun g' hp => ?_)
    obtain ⟨hm9, hf⟩ := hp
    exact ⟨⟨_, _, _, _, _, _, _, _, _, _, _, _, _, _, _, _, _, _, _, _, _, _, _, _, _, _, _, _, _, _, _, _, ⟨hm9, vIA_fr hnow (fun q h1 h2 => hf q (by omega)), vIA_fr hrd (fun q h1 h2 => hf q (by omega)), vIA_fr hpa (fun q h1 h2 => hf q (by omega)), vIA_fr htx (fun q h1 h2 => hf q (by omega)), vLA_fr hse (fun q h1 h2 => hf q (by omega)), vIA_fr htb (fun q h1 h2 => hf q (by omega)), vIA_fr hlk (fun q h1 h2 => hf q (by omega)), vLA_fr hbs (fun q h1 h2 => hf q (by omega)), vLA_fr hjo (fun q h1 h2 => hf q (by omega)), vLA_fr hwi (fun q h1 h2 => hf q (by omega)), vLA_fr hah (fun q h1 h2 => hf q (by omega)), vLA_fr hbe (fun q h1 h2 => hf q (by omega)), vLA_fr hlo (fun q h1 h2 => hf q (by omega)), vLA_fr hsh (fun q h1 h2 => hf q (by omega)), vIA_fr hro (fun q h1 h2 => hf q (by omega)), vIA_fr htr (fun q h1 h2 => hf q (by omega)), vIA_fr hsu (fun q h1 h2 => hf q (by omega)), vLA_fr hso (fun q h1 h2 => hf q (by omega))⟩, ⟨rfl, rfl, hrg⟩, hER, hPR, (fun i h1 h2 => by omega), hSv⟩, fun q h1 => hf q (by omega)⟩
