/-! ===== every call: both worlds answer alike and go to the same state ===== -/
def APIi (l : Launch) (D : va_G) (cy : Nat → ClassId) (B : Nat) (yC : MethodName) (wC : List Cond) (rC : Room) (yM : MethodName) (wM : List Cond) (rM : Room) (As : List Value) (n : Nat) (L : Int → Int) (S : St) (P : List St) : Prop := ∃ (E : Int) (n' : Nat) (L' : Int → Int) (S' : St) (P' : List St), WFg n' L' S' P' ∧ (∀ (N : Nat) (g : Nat → va_E) (M : Int), 160 ≤ N → M < 2147480000 → CW cy B g n L S P M → CTi l yC wC rC D cy B N g (.ref (B + 0) :: As) E (fun g' => CW cy B g' n' L' S' P' (M + 20) ∧ ∀ q, 141 ≤ q → g' q = g q)) ∧ (∀ (N : Nat) (g : Nat → va_E), 160 ≤ N → MW cy B g n L S P → CTi l yM wM rM D cy B N g (.ref (B + 141) :: As) E (fun g' => MW cy B g' n' L' S' P' ∧ ∀ q, (q < 141 ∨ 160 ≤ q) → g' q = g q))
def APIl (l : Launch) (D : va_G) (cy : Nat → ClassId) (B : Nat) (yC : MethodName) (wC : List Cond) (rC : Room) (yM : MethodName) (wM : List Cond) (rM : Room) (As : List Value) (n : Nat) (L : Int → Int) (S : St) (P : List St) : Prop := ∃ (E : Int) (n' : Nat) (L' : Int → Int) (S' : St) (P' : List St), WFg n' L' S' P' ∧ (∀ (N : Nat) (g : Nat → va_E) (M : Int), 160 ≤ N → M < 2147480000 → CW cy B g n L S P M → CTl l yC wC rC D cy B N g (.ref (B + 0) :: As) E (fun g' => CW cy B g' n' L' S' P' (M + 20) ∧ ∀ q, 141 ≤ q → g' q = g q)) ∧ (∀ (N : Nat) (g : Nat → va_E), 160 ≤ N → MW cy B g n L S P → CTl l yM wM rM D cy B N g (.ref (B + 141) :: As) E (fun g' => MW cy B g' n' L' S' P' ∧ ∀ q, (q < 141 ∨ 160 ≤ q) → g' q = g q))
set_option maxHeartbeats 4000000 in
theorem api_stratum {l : Launch} {D : va_G} {cy : Nat → ClassId} {B n : Nat} {L : Int → Int} {S : St} {P : List St} {s what : Int} (hwf : WFg n L S P) (h_s : -2147483648 ≤ s ∧ s < 2147483648) (h_what : -2147483648 ≤ what ∧ what < 2147483648) : APIi l D cy B yX10_stratum wsX10_stratum (rmo 6 161) yX11_stratum wsX11_stratum (rmo 6 145) [.int (zI s), .int (zI what)] n L S P := by
  by_cases hs : 0 ≤ s ∧ s < S.length
  · obtain ⟨k, rfl⟩ : ∃ k : Nat, s = ((k : Nat) : Int) := ⟨s.toNat, by omega⟩
    have hkS : k < S.length := by omega
    have hck := hwf.2.1.2 k hkS
    by_cases hvd : 0 ≤ what ∧ what ≤ 6
    · refine ⟨(aStr (S.getD k []) what), n, L, S, P, hwf, fun N g M hN hM h => ?_, fun N g hN h => ?_⟩
      · obtain ⟨Cn, sr, pl, dn, dv, dT, dX, dV, dW, nx, wh, Rw, jW0, jA0, jg, cs, Ms, fs, hv, hCn, hnx, hPC, hcs, hMs⟩ := h
        obtain ⟨ht0, hsa, htx, hr, hd, hst, hp, hj, hss⟩ := id hv
        have hw := hss k (by have := hwf.2.1.1.2; omega)
        rw [hcs k hkS] at hw
        refine CTi_mono (y_X10_stratum ht0 hsa hw (by omega) ⟨hkS, hwf.2.1.1.2⟩ (by have := hMs k; omega) hck.1 hck.2 h_what) (rfl) (fun g' hp => ?_)
        exact CWq hv hCn hnx hPC hcs hMs hwf.2.1.1.2 hkS hp.1 hp.2
      · obtain ⟨cg, le, sp, va, o0, tn, aw, mw, fw, ls, gs, sn, sw, kr, Nw, Rd, Ps, Lm, Sv, Tb, Lk, Bs, Jo, Wi, Ah, Be, Lo, Sh, Ro, Tr, Su, Sz, ⟨hm, hnow, hrd, hpa, htx, hse, htb, hlk, hbs, hjo, hwi, hah, hbe, hlo, hsh, hro, htr, hsu, hso⟩, ⟨rfl, rfl, hrg⟩, hER, hPR, hLm, hSv⟩ := h
        refine CTi_mono (m_y_X11_stratum hm hnow hse htb hlk hbs hN hER hkS rfl hck.1 hck.2 hSv hrg h_what hvd) (rfl) (fun g' hp => ?_)
        obtain ⟨o01, tn1, aw1, mw1, fw1, ls1, gs1, sn1, sw1, kr1, Tb1, Lk1, Bs1, hm9, htb9, hlk9, hbs9, hrg1, hf⟩ := hp
        exact ⟨⟨_, _, _, _, _, _, _, _, _, _, _, _, _, _, _, _, _, _, _, _, _, _, _, _, _, _, _, _, _, _, _, _, ⟨hm9, vIA_fr hnow (fun q h1 h2 => hf q (by omega)), vIA_fr hrd (fun q h1 h2 => hf q (by omega)), vIA_fr hpa (fun q h1 h2 => hf q (by omega)), vIA_fr htx (fun q h1 h2 => hf q (by omega)), vLA_fr hse (fun q h1 h2 => hf q (by omega)), htb9, hlk9, hbs9, vLA_fr hjo (fun q h1 h2 => hf q (by omega)), vLA_fr hwi (fun q h1 h2 => hf q (by omega)), vLA_fr hah (fun q h1 h2 => hf q (by omega)), vLA_fr hbe (fun q h1 h2 => hf q (by omega)), vLA_fr hlo (fun q h1 h2 => hf q (by omega)), vLA_fr hsh (fun q h1 h2 => hf q (by omega)), vIA_fr hro (fun q h1 h2 => hf q (by omega)), vIA_fr htr (fun q h1 h2 => hf q (by omega)), vIA_fr hsu (fun q h1 h2 => hf q (by omega)), vLA_fr hso (fun q h1 h2 => hf q (by omega))⟩, ⟨rfl, rfl, hrg1⟩, hER, hPR, hLm, hSv⟩, fun q h1 => hf q (by omega)⟩
    · refine ⟨(aStr (S.getD k []) what), n, L, S, P, hwf, fun N g M hN hM h => ?_, fun N g hN h => ?_⟩
      · obtain ⟨Cn, sr, pl, dn, dv, dT, dX, dV, dW, nx, wh, Rw, jW0, jA0, jg, cs, Ms, fs, hv, hCn, hnx, hPC, hcs, hMs⟩ := h
        obtain ⟨ht0, hsa, htx, hr, hd, hst, hp, hj, hss⟩ := id hv
        have hw := hss k (by have := hwf.2.1.1.2; omega)
        rw [hcs k hkS] at hw
        refine CTi_mono (y_X10_stratum ht0 hsa hw (by omega) ⟨hkS, hwf.2.1.1.2⟩ (by have := hMs k; omega) hck.1 hck.2 h_what) (rfl) (fun g' hp => ?_)
        exact CWq hv hCn hnx hPC hcs hMs hwf.2.1.1.2 hkS hp.1 hp.2
      · obtain ⟨cg, le, sp, va, o0, tn, aw, mw, fw, ls, gs, sn, sw, kr, Nw, Rd, Ps, Lm, Sv, Tb, Lk, Bs, Jo, Wi, Ah, Be, Lo, Sh, Ro, Tr, Su, Sz, ⟨hm, hnow, hrd, hpa, htx, hse, htb, hlk, hbs, hjo, hwi, hah, hbe, hlo, hsh, hro, htr, hsu, hso⟩, ⟨rfl, rfl, hrg⟩, hER, hPR, hLm, hSv⟩ := h
        exact CTi_mono (m_n_X11_stratum hm hnow hN hER h_s h_what (by omega)) (by unfold aStr; repeat rw [if_neg (by omega)]) (fun g' hp => by subst hp; exact ⟨⟨_, _, _, _, _, _, _, _, _, _, _, _, _, _, _, _, _, _, _, _, _, _, _, _, _, _, _, _, _, _, _, _, ⟨hm, hnow, hrd, hpa, htx, hse, htb, hlk, hbs, hjo, hwi, hah, hbe, hlo, hsh, hro, htr, hsu, hso⟩, ⟨rfl, rfl, hrg⟩, hER, hPR, hLm, hSv⟩, fun _ _ => rfl⟩)
  · refine ⟨(-1), n, L, S, P, hwf, fun N g M hN hM h => ?_, fun N g hN h => ?_⟩
    · obtain ⟨Cn, sr, pl, dn, dv, dT, dX, dV, dW, nx, wh, Rw, jW0, jA0, jg, cs, Ms, fs, hv, hCn, hnx, hPC, hcs, hMs⟩ := h
      obtain ⟨ht0, hsa, htx, hr, hd, hst, hp, hj, hss⟩ := id hv
      exact CTi_mono (n_X10_stratum ht0 hsa (by omega) hwf.2.1.1.2 h_s hs h_what) (rfl) (fun g' hp => by subst hp; exact ⟨⟨Cn, sr, pl, dn, dv, dT, dX, dV, dW, nx, wh, Rw, jW0, jA0, jg, cs, Ms, fs, hv, hCn, hnx, hPC, hcs, fun i => by have := hMs i; omega⟩, fun _ _ => rfl⟩)
    · obtain ⟨cg, le, sp, va, o0, tn, aw, mw, fw, ls, gs, sn, sw, kr, Nw, Rd, Ps, Lm, Sv, Tb, Lk, Bs, Jo, Wi, Ah, Be, Lo, Sh, Ro, Tr, Su, Sz, ⟨hm, hnow, hrd, hpa, htx, hse, htb, hlk, hbs, hjo, hwi, hah, hbe, hlo, hsh, hro, htr, hsu, hso⟩, ⟨rfl, rfl, hrg⟩, hER, hPR, hLm, hSv⟩ := h
      exact CTi_mono (m_n_X11_stratum hm hnow hN hER h_s h_what (by omega)) (rfl) (fun g' hp => by subst hp; exact ⟨⟨_, _, _, _, _, _, _, _, _, _, _, _, _, _, _, _, _, _, _, _, _, _, _, _, _, _, _, _, _, _, _, _, ⟨hm, hnow, hrd, hpa, htx, hse, htb, hlk, hbs, hjo, hwi, hah, hbe, hlo, hsh, hro, htr, hsu, hso⟩, ⟨rfl, rfl, hrg⟩, hER, hPR, hLm, hSv⟩, fun _ _ => rfl⟩)
set_option maxHeartbeats 4000000 in
theorem api_ways {l : Launch} {D : va_G} {cy : Nat → ClassId} {B n : Nat} {L : Int → Int} {S : St} {P : List St} {s what : Int} (hwf : WFg n L S P) (h_s : -2147483648 ≤ s ∧ s < 2147483648) (h_what : -2147483648 ≤ what ∧ what < 2147483648) : APIl l D cy B yX10_ways wsX10_ways (rmo 6 161) yX11_ways wsX11_ways (rmo 6 145) [.int (zI s), .int (zI what)] n L S P := by
  by_cases hs : 0 ≤ s ∧ s < S.length
  · obtain ⟨k, rfl⟩ : ∃ k : Nat, s = ((k : Nat) : Int) := ⟨s.toNat, by omega⟩
    have hkS : k < S.length := by omega
    have hck := hwf.2.1.2 k hkS
    by_cases hvd : 0 ≤ what ∧ what ≤ 3
    · refine ⟨(aWay (S.getD k []) what), n, L, S, P, hwf, fun N g M hN hM h => ?_, fun N g hN h => ?_⟩
      · obtain ⟨Cn, sr, pl, dn, dv, dT, dX, dV, dW, nx, wh, Rw, jW0, jA0, jg, cs, Ms, fs, hv, hCn, hnx, hPC, hcs, hMs⟩ := h
        obtain ⟨ht0, hsa, htx, hr, hd, hst, hp, hj, hss⟩ := id hv
        have hw := hss k (by have := hwf.2.1.1.2; omega)
        rw [hcs k hkS] at hw
        refine CTl_mono (y_X10_ways ht0 hsa hw (by omega) ⟨hkS, hwf.2.1.1.2⟩ (by have := hMs k; omega) hck.1 hck.2 h_what) (rfl) (fun g' hp => ?_)
        exact CWq hv hCn hnx hPC hcs hMs hwf.2.1.1.2 hkS hp.1 hp.2
      · obtain ⟨cg, le, sp, va, o0, tn, aw, mw, fw, ls, gs, sn, sw, kr, Nw, Rd, Ps, Lm, Sv, Tb, Lk, Bs, Jo, Wi, Ah, Be, Lo, Sh, Ro, Tr, Su, Sz, ⟨hm, hnow, hrd, hpa, htx, hse, htb, hlk, hbs, hjo, hwi, hah, hbe, hlo, hsh, hro, htr, hsu, hso⟩, ⟨rfl, rfl, hrg⟩, hER, hPR, hLm, hSv⟩ := h
        refine CTl_mono (m_y_X11_ways hm hnow hse htb hlk hbs hN hER hkS rfl hck.1 hck.2 hSv hrg h_what hvd) (rfl) (fun g' hp => ?_)
        obtain ⟨o01, tn1, aw1, mw1, fw1, ls1, gs1, sn1, sw1, kr1, Tb1, Lk1, Bs1, hm9, htb9, hlk9, hbs9, hrg1, hf⟩ := hp
        exact ⟨⟨_, _, _, _, _, _, _, _, _, _, _, _, _, _, _, _, _, _, _, _, _, _, _, _, _, _, _, _, _, _, _, _, ⟨hm9, vIA_fr hnow (fun q h1 h2 => hf q (by omega)), vIA_fr hrd (fun q h1 h2 => hf q (by omega)), vIA_fr hpa (fun q h1 h2 => hf q (by omega)), vIA_fr htx (fun q h1 h2 => hf q (by omega)), vLA_fr hse (fun q h1 h2 => hf q (by omega)), htb9, hlk9, hbs9, vLA_fr hjo (fun q h1 h2 => hf q (by omega)), vLA_fr hwi (fun q h1 h2 => hf q (by omega)), vLA_fr hah (fun q h1 h2 => hf q (by omega)), vLA_fr hbe (fun q h1 h2 => hf q (by omega)), vLA_fr hlo (fun q h1 h2 => hf q (by omega)), vLA_fr hsh (fun q h1 h2 => hf q (by omega)), vIA_fr hro (fun q h1 h2 => hf q (by omega)), vIA_fr htr (fun q h1 h2 => hf q (by omega)), vIA_fr hsu (fun q h1 h2 => hf q (by omega)), vLA_fr hso (fun q h1 h2 => hf q (by omega))⟩, ⟨rfl, rfl, hrg1⟩, hER, hPR, hLm, hSv⟩, fun q h1 => hf q (by omega)⟩
    · refine ⟨(aWay (S.getD k []) what), n, L, S, P, hwf, fun N g M hN hM h => ?_, fun N g hN h => ?_⟩
      · obtain ⟨Cn, sr, pl, dn, dv, dT, dX, dV, dW, nx, wh, Rw, jW0, jA0, jg, cs, Ms, fs, hv, hCn, hnx, hPC, hcs, hMs⟩ := h
        obtain ⟨ht0, hsa, htx, hr, hd, hst, hp, hj, hss⟩ := id hv
        have hw := hss k (by have := hwf.2.1.1.2; omega)
        rw [hcs k hkS] at hw
        refine CTl_mono (y_X10_ways ht0 hsa hw (by omega) ⟨hkS, hwf.2.1.1.2⟩ (by have := hMs k; omega) hck.1 hck.2 h_what) (rfl) (fun g' hp => ?_)
        exact CWq hv hCn hnx hPC hcs hMs hwf.2.1.1.2 hkS hp.1 hp.2
      · obtain ⟨cg, le, sp, va, o0, tn, aw, mw, fw, ls, gs, sn, sw, kr, Nw, Rd, Ps, Lm, Sv, Tb, Lk, Bs, Jo, Wi, Ah, Be, Lo, Sh, Ro, Tr, Su, Sz, ⟨hm, hnow, hrd, hpa, htx, hse, htb, hlk, hbs, hjo, hwi, hah, hbe, hlo, hsh, hro, htr, hsu, hso⟩, ⟨rfl, rfl, hrg⟩, hER, hPR, hLm, hSv⟩ := h
        exact CTl_mono (m_n_X11_ways hm hnow hN hER h_s h_what (by omega)) (by unfold aWay; repeat rw [if_neg (by omega)]) (fun g' hp => by subst hp; exact ⟨⟨_, _, _, _, _, _, _, _, _, _, _, _, _, _, _, _, _, _, _, _, _, _, _, _, _, _, _, _, _, _, _, _, ⟨hm, hnow, hrd, hpa, htx, hse, htb, hlk, hbs, hjo, hwi, hah, hbe, hlo, hsh, hro, htr, hsu, hso⟩, ⟨rfl, rfl, hrg⟩, hER, hPR, hLm, hSv⟩, fun _ _ => rfl⟩)
  · refine ⟨(-1), n, L, S, P, hwf, fun N g M hN hM h => ?_, fun N g hN h => ?_⟩
    · obtain ⟨Cn, sr, pl, dn, dv, dT, dX, dV, dW, nx, wh, Rw, jW0, jA0, jg, cs, Ms, fs, hv, hCn, hnx, hPC, hcs, hMs⟩ := h
      obtain ⟨ht0, hsa, htx, hr, hd, hst, hp, hj, hss⟩ := id hv
      exact CTl_mono (n_X10_ways ht0 hsa (by omega) hwf.2.1.1.2 h_s hs h_what) (rfl) (fun g' hp => by subst hp; exact ⟨⟨Cn, sr, pl, dn, dv, dT, dX, dV, dW, nx, wh, Rw, jW0, jA0, jg, cs, Ms, fs, hv, hCn, hnx, hPC, hcs, fun i => by have := hMs i; omega⟩, fun _ _ => rfl⟩)
    · obtain ⟨cg, le, sp, va, o0, tn, aw, mw, fw, ls, gs, sn, sw, kr, Nw, Rd, Ps, Lm, Sv, Tb, Lk, Bs, Jo, Wi, Ah, Be, Lo, Sh, Ro, Tr, Su, Sz, ⟨hm, hnow, hrd, hpa, htx, hse, htb, hlk, hbs, hjo, hwi, hah, hbe, hlo, hsh, hro, htr, hsu, hso⟩, ⟨rfl, rfl, hrg⟩, hER, hPR, hLm, hSv⟩ := h
      exact CTl_mono (m_n_X11_ways hm hnow hN hER h_s h_what (by omega)) (rfl) (fun g' hp => by subst hp; exact ⟨⟨_, _, _, _, _, _, _, _, _, _, _, _, _, _, _, _, _, _, _, _, _, _, _, _, _, _, _, _, _, _, _, _, ⟨hm, hnow, hrd, hpa, htx, hse, htb, hlk, hbs, hjo, hwi, hah, hbe, hlo, hsh, hro, htr, hsu, hso⟩, ⟨rfl, rfl, hrg⟩, hER, hPR, hLm, hSv⟩, fun _ _ => rfl⟩)
set_option maxHeartbeats 4000000 in
theorem api_chance {l : Launch} {D : va_G} {cy : Nat → ClassId} {B n : Nat} {L : Int → Int} {S : St} {P : List St} {s law part : Int} (hwf : WFg n L S P) (h_s : -2147483648 ≤ s ∧ s < 2147483648) (h_law : -2147483648 ≤ law ∧ law < 2147483648) (h_part : -2147483648 ≤ part ∧ part < 2147483648) : APIl l D cy B yX10_chance wsX10_chance (rmo 14 363) yX11_chance wsX11_chance (rmo 6 145) [.int (zI s), .int (zI law), .int (zI part)] n L S P := by
  by_cases hs : 0 ≤ s ∧ s < S.length
  · obtain ⟨k, rfl⟩ : ∃ k : Nat, s = ((k : Nat) : Int) := ⟨s.toNat, by omega⟩
    have hkS : k < S.length := by omega
    have hck := hwf.2.1.2 k hkS
    by_cases hvd : 0 ≤ law ∧ law ≤ 2 ∧ 0 ≤ part ∧ part ≤ 1
    · refine ⟨(aCha (S.getD k []) law part), n, L, S, P, hwf, fun N g M hN hM h => ?_, fun N g hN h => ?_⟩
      · obtain ⟨Cn, sr, pl, dn, dv, dT, dX, dV, dW, nx, wh, Rw, jW0, jA0, jg, cs, Ms, fs, hv, hCn, hnx, hPC, hcs, hMs⟩ := h
        obtain ⟨ht0, hsa, htx, hr, hd, hst, hp, hj, hss⟩ := id hv
        have hw := hss k (by have := hwf.2.1.1.2; omega)
        rw [hcs k hkS] at hw
        refine CTl_mono (y_X10_chance ht0 hsa hw (by omega) ⟨hkS, hwf.2.1.1.2⟩ (by have := hMs k; omega) hck.1 hck.2 h_law h_part) (rfl) (fun g' hp => ?_)
        exact CWq hv hCn hnx hPC hcs hMs hwf.2.1.1.2 hkS hp.1 hp.2
      · obtain ⟨cg, le, sp, va, o0, tn, aw, mw, fw, ls, gs, sn, sw, kr, Nw, Rd, Ps, Lm, Sv, Tb, Lk, Bs, Jo, Wi, Ah, Be, Lo, Sh, Ro, Tr, Su, Sz, ⟨hm, hnow, hrd, hpa, htx, hse, htb, hlk, hbs, hjo, hwi, hah, hbe, hlo, hsh, hro, htr, hsu, hso⟩, ⟨rfl, rfl, hrg⟩, hER, hPR, hLm, hSv⟩ := h
        refine CTl_mono (m_y_X11_chance hm hnow hse htb hlk hbs hN hER hkS rfl hck.1 hck.2 hSv hrg h_law h_part hvd) (rfl) (fun g' hp => ?_)
        obtain ⟨o01, tn1, aw1, mw1, fw1, ls1, gs1, sn1, sw1, kr1, Tb1, Lk1, Bs1, hm9, htb9, hlk9, hbs9, hrg1, hf⟩ := hp
        exact ⟨⟨_, _, _, _, _, _, _, _, _, _, _, _, _, _, _, _, _, _, _, _, _, _, _, _, _, _, _, _, _, _, _, _, ⟨hm9, vIA_fr hnow (fun q h1 h2 => hf q (by omega)), vIA_fr hrd (fun q h1 h2 => hf q (by omega)), vIA_fr hpa (fun q h1 h2 => hf q (by omega)), vIA_fr htx (fun q h1 h2 => hf q (by omega)), vLA_fr hse (fun q h1 h2 => hf q (by omega)), htb9, hlk9, hbs9, vLA_fr hjo (fun q h1 h2 => hf q (by omega)), vLA_fr hwi (fun q h1 h2 => hf q (by omega)), vLA_fr hah (fun q h1 h2 => hf q (by omega)), vLA_fr hbe (fun q h1 h2 => hf q (by omega)), vLA_fr hlo (fun q h1 h2 => hf q (by omega)), vLA_fr hsh (fun q h1 h2 => hf q (by omega)), vIA_fr hro (fun q h1 h2 => hf q (by omega)), vIA_fr htr (fun q h1 h2 => hf q (by omega)), vIA_fr hsu (fun q h1 h2 => hf q (by omega)), vLA_fr hso (fun q h1 h2 => hf q (by omega))⟩, ⟨rfl, rfl, hrg1⟩, hER, hPR, hLm, hSv⟩, fun q h1 => hf q (by omega)⟩
    · refine ⟨(aCha (S.getD k []) law part), n, L, S, P, hwf, fun N g M hN hM h => ?_, fun N g hN h => ?_⟩
      · obtain ⟨Cn, sr, pl, dn, dv, dT, dX, dV, dW, nx, wh, Rw, jW0, jA0, jg, cs, Ms, fs, hv, hCn, hnx, hPC, hcs, hMs⟩ := h
        obtain ⟨ht0, hsa, htx, hr, hd, hst, hp, hj, hss⟩ := id hv
        have hw := hss k (by have := hwf.2.1.1.2; omega)
        rw [hcs k hkS] at hw
        refine CTl_mono (y_X10_chance ht0 hsa hw (by omega) ⟨hkS, hwf.2.1.1.2⟩ (by have := hMs k; omega) hck.1 hck.2 h_law h_part) (rfl) (fun g' hp => ?_)
        exact CWq hv hCn hnx hPC hcs hMs hwf.2.1.1.2 hkS hp.1 hp.2
      · obtain ⟨cg, le, sp, va, o0, tn, aw, mw, fw, ls, gs, sn, sw, kr, Nw, Rd, Ps, Lm, Sv, Tb, Lk, Bs, Jo, Wi, Ah, Be, Lo, Sh, Ro, Tr, Su, Sz, ⟨hm, hnow, hrd, hpa, htx, hse, htb, hlk, hbs, hjo, hwi, hah, hbe, hlo, hsh, hro, htr, hsu, hso⟩, ⟨rfl, rfl, hrg⟩, hER, hPR, hLm, hSv⟩ := h
        exact CTl_mono (m_n_X11_chance hm hnow hN hER h_s h_law h_part (by omega)) (by unfold aCha; repeat rw [if_neg (by omega)]) (fun g' hp => by subst hp; exact ⟨⟨_, _, _, _, _, _, _, _, _, _, _, _, _, _, _, _, _, _, _, _, _, _, _, _, _, _, _, _, _, _, _, _, ⟨hm, hnow, hrd, hpa, htx, hse, htb, hlk, hbs, hjo, hwi, hah, hbe, hlo, hsh, hro, htr, hsu, hso⟩, ⟨rfl, rfl, hrg⟩, hER, hPR, hLm, hSv⟩, fun _ _ => rfl⟩)
  · refine ⟨(-1), n, L, S, P, hwf, fun N g M hN hM h => ?_, fun N g hN h => ?_⟩
    · obtain ⟨Cn, sr, pl, dn, dv, dT, dX, dV, dW, nx, wh, Rw, jW0, jA0, jg, cs, Ms, fs, hv, hCn, hnx, hPC, hcs, hMs⟩ := h
      obtain ⟨ht0, hsa, htx, hr, hd, hst, hp, hj, hss⟩ := id hv
      exact CTl_mono (n_X10_chance ht0 hsa (by omega) hwf.2.1.1.2 h_s hs h_law h_part) (rfl) (fun g' hp => by subst hp; exact ⟨⟨Cn, sr, pl, dn, dv, dT, dX, dV, dW, nx, wh, Rw, jW0, jA0, jg, cs, Ms, fs, hv, hCn, hnx, hPC, hcs, fun i => by have := hMs i; omega⟩, fun _ _ => rfl⟩)
    · obtain ⟨cg, le, sp, va, o0, tn, aw, mw, fw, ls, gs, sn, sw, kr, Nw, Rd, Ps, Lm, Sv, Tb, Lk, Bs, Jo, Wi, Ah, Be, Lo, Sh, Ro, Tr, Su, Sz, ⟨hm, hnow, hrd, hpa, htx, hse, htb, hlk, hbs, hjo, hwi, hah, hbe, hlo, hsh, hro, htr, hsu, hso⟩, ⟨rfl, rfl, hrg⟩, hER, hPR, hLm, hSv⟩ := h
      exact CTl_mono (m_n_X11_chance hm hnow hN hER h_s h_law h_part (by omega)) (rfl) (fun g' hp => by subst hp; exact ⟨⟨_, _, _, _, _, _, _, _, _, _, _, _, _, _, _, _, _, _, _, _, _, _, _, _, _, _, _, _, _, _, _, _, ⟨hm, hnow, hrd, hpa, htx, hse, htb, hlk, hbs, hjo, hwi, hah, hbe, hlo, hsh, hro, htr, hsu, hso⟩, ⟨rfl, rfl, hrg⟩, hER, hPR, hLm, hSv⟩, fun _ _ => rfl⟩)
set_option maxHeartbeats 4000000 in
theorem api_strange {l : Launch} {D : va_G} {cy : Nat → ClassId} {B n : Nat} {L : Int → Int} {S : St} {P : List St} {s law : Int} (hwf : WFg n L S P) (h_s : -2147483648 ≤ s ∧ s < 2147483648) (h_law : -2147483648 ≤ law ∧ law < 2147483648) : APIi l D cy B yX10_strange wsX10_strange (rmo 14 363) yX11_strange wsX11_strange (rmo 6 145) [.int (zI s), .int (zI law)] n L S P := by
  by_cases hs : 0 ≤ s ∧ s < S.length
  · obtain ⟨k, rfl⟩ : ∃ k : Nat, s = ((k : Nat) : Int) := ⟨s.toNat, by omega⟩
    have hkS : k < S.length := by omega
    have hck := hwf.2.1.2 k hkS
    by_cases hvd : 0 ≤ law ∧ law ≤ 2
    · refine ⟨(aSta (S.getD k []) law), n, L, S, P, hwf, fun N g M hN hM h => ?_, fun N g hN h => ?_⟩
      · obtain ⟨Cn, sr, pl, dn, dv, dT, dX, dV, dW, nx, wh, Rw, jW0, jA0, jg, cs, Ms, fs, hv, hCn, hnx, hPC, hcs, hMs⟩ := h
        obtain ⟨ht0, hsa, htx, hr, hd, hst, hp, hj, hss⟩ := id hv
        have hw := hss k (by have := hwf.2.1.1.2; omega)
        rw [hcs k hkS] at hw
        refine CTi_mono (y_X10_strange ht0 hsa hw (by omega) ⟨hkS, hwf.2.1.1.2⟩ (by have := hMs k; omega) hck.1 hck.2 h_law) (rfl) (fun g' hp => ?_)
        exact CWq hv hCn hnx hPC hcs hMs hwf.2.1.1.2 hkS hp.1 hp.2
      · obtain ⟨cg, le, sp, va, o0, tn, aw, mw, fw, ls, gs, sn, sw, kr, Nw, Rd, Ps, Lm, Sv, Tb, Lk, Bs, Jo, Wi, Ah, Be, Lo, Sh, Ro, Tr, Su, Sz, ⟨hm, hnow, hrd, hpa, htx, hse, htb, hlk, hbs, hjo, hwi, hah, hbe, hlo, hsh, hro, htr, hsu, hso⟩, ⟨rfl, rfl, hrg⟩, hER, hPR, hLm, hSv⟩ := h
        refine CTi_mono (m_y_X11_strange hm hnow hse htb hlk hbs hN hER hkS rfl hck.1 hck.2 hSv hrg h_law hvd) (rfl) (fun g' hp => ?_)
        obtain ⟨o01, tn1, aw1, mw1, fw1, ls1, gs1, sn1, sw1, kr1, Tb1, Lk1, Bs1, hm9, htb9, hlk9, hbs9, hrg1, hf⟩ := hp
        exact ⟨⟨_, _, _, _, _, _, _, _, _, _, _, _, _, _, _, _, _, _, _, _, _, _, _, _, _, _, _, _, _, _, _, _, ⟨hm9, vIA_fr hnow (fun q h1 h2 => hf q (by omega)), vIA_fr hrd (fun q h1 h2 => hf q (by omega)), vIA_fr hpa (fun q h1 h2 => hf q (by omega)), vIA_fr htx (fun q h1 h2 => hf q (by omega)), vLA_fr hse (fun q h1 h2 => hf q (by omega)), htb9, hlk9, hbs9, vLA_fr hjo (fun q h1 h2 => hf q (by omega)), vLA_fr hwi (fun q h1 h2 => hf q (by omega)), vLA_fr hah (fun q h1 h2 => hf q (by omega)), vLA_fr hbe (fun q h1 h2 => hf q (by omega)), vLA_fr hlo (fun q h1 h2 => hf q (by omega)), vLA_fr hsh (fun q h1 h2 => hf q (by omega)), vIA_fr hro (fun q h1 h2 => hf q (by omega)), vIA_fr htr (fun q h1 h2 => hf q (by omega)), vIA_fr hsu (fun q h1 h2 => hf q (by omega)), vLA_fr hso (fun q h1 h2 => hf q (by omega))⟩, ⟨rfl, rfl, hrg1⟩, hER, hPR, hLm, hSv⟩, fun q h1 => hf q (by omega)⟩
    · refine ⟨(aSta (S.getD k []) law), n, L, S, P, hwf, fun N g M hN hM h => ?_, fun N g hN h => ?_⟩
      · obtain ⟨Cn, sr, pl, dn, dv, dT, dX, dV, dW, nx, wh, Rw, jW0, jA0, jg, cs, Ms, fs, hv, hCn, hnx, hPC, hcs, hMs⟩ := h
        obtain ⟨ht0, hsa, htx, hr, hd, hst, hp, hj, hss⟩ := id hv
        have hw := hss k (by have := hwf.2.1.1.2; omega)
        rw [hcs k hkS] at hw
        refine CTi_mono (y_X10_strange ht0 hsa hw (by omega) ⟨hkS, hwf.2.1.1.2⟩ (by have := hMs k; omega) hck.1 hck.2 h_law) (rfl) (fun g' hp => ?_)
        exact CWq hv hCn hnx hPC hcs hMs hwf.2.1.1.2 hkS hp.1 hp.2
      · obtain ⟨cg, le, sp, va, o0, tn, aw, mw, fw, ls, gs, sn, sw, kr, Nw, Rd, Ps, Lm, Sv, Tb, Lk, Bs, Jo, Wi, Ah, Be, Lo, Sh, Ro, Tr, Su, Sz, ⟨hm, hnow, hrd, hpa, htx, hse, htb, hlk, hbs, hjo, hwi, hah, hbe, hlo, hsh, hro, htr, hsu, hso⟩, ⟨rfl, rfl, hrg⟩, hER, hPR, hLm, hSv⟩ := h
        exact CTi_mono (m_n_X11_strange hm hnow hN hER h_s h_law (by omega)) (by unfold aSta; repeat rw [if_neg (by omega)]) (fun g' hp => by subst hp; exact ⟨⟨_, _, _, _, _, _, _, _, _, _, _, _, _, _, _, _, _, _, _, _, _, _, _, _, _, _, _, _, _, _, _, _, ⟨hm, hnow, hrd, hpa, htx, hse, htb, hlk, hbs, hjo, hwi, hah, hbe, hlo, hsh, hro, htr, hsu, hso⟩, ⟨rfl, rfl, hrg⟩, hER, hPR, hLm, hSv⟩, fun _ _ => rfl⟩)
  · refine ⟨(-1), n, L, S, P, hwf, fun N g M hN hM h => ?_, fun N g hN h => ?_⟩
    · obtain ⟨Cn, sr, pl, dn, dv, dT, dX, dV, dW, nx, wh, Rw, jW0, jA0, jg, cs, Ms, fs, hv, hCn, hnx, hPC, hcs, hMs⟩ := h
      obtain ⟨ht0, hsa, htx, hr, hd, hst, hp, hj, hss⟩ := id hv
      exact CTi_mono (n_X10_strange ht0 hsa (by omega) hwf.2.1.1.2 h_s hs h_law) (rfl) (fun g' hp => by subst hp; exact ⟨⟨Cn, sr, pl, dn, dv, dT, dX, dV, dW, nx, wh, Rw, jW0, jA0, jg, cs, Ms, fs, hv, hCn, hnx, hPC, hcs, fun i => by have := hMs i; omega⟩, fun _ _ => rfl⟩)
    · obtain ⟨cg, le, sp, va, o0, tn, aw, mw, fw, ls, gs, sn, sw, kr, Nw, Rd, Ps, Lm, Sv, Tb, Lk, Bs, Jo, Wi, Ah, Be, Lo, Sh, Ro, Tr, Su, Sz, ⟨hm, hnow, hrd, hpa, htx, hse, htb, hlk, hbs, hjo, hwi, hah, hbe, hlo, hsh, hro, htr, hsu, hso⟩, ⟨rfl, rfl, hrg⟩, hER, hPR, hLm, hSv⟩ := h
      exact CTi_mono (m_n_X11_strange hm hnow hN hER h_s h_law (by omega)) (rfl) (fun g' hp => by subst hp; exact ⟨⟨_, _, _, _, _, _, _, _, _, _, _, _, _, _, _, _, _, _, _, _, _, _, _, _, _, _, _, _, _, _, _, _, ⟨hm, hnow, hrd, hpa, htx, hse, htb, hlk, hbs, hjo, hwi, hah, hbe, hlo, hsh, hro, htr, hsu, hso⟩, ⟨rfl, rfl, hrg⟩, hER, hPR, hLm, hSv⟩, fun _ _ => rfl⟩)
set_option maxHeartbeats 4000000 in
theorem api_rank {l : Launch} {D : va_G} {cy : Nat → ClassId} {B n : Nat} {L : Int → Int} {S : St} {P : List St} {s : Int} (hwf : WFg n L S P) (h_s : -2147483648 ≤ s ∧ s < 2147483648) : APIi l D cy B yX10_rank wsX10_rank (rmo 6 161) yX11_rank wsX11_rank (rmo 6 145) [.int (zI s)] n L S P := by
  by_cases hs : 0 ≤ s ∧ s < S.length
  · obtain ⟨k, rfl⟩ : ∃ k : Nat, s = ((k : Nat) : Int) := ⟨s.toNat, by omega⟩
    have hkS : k < S.length := by omega
    have hck := hwf.2.1.2 k hkS
    refine ⟨(aRan (S.getD k [])), n, L, S, P, hwf, fun N g M hN hM h => ?_, fun N g hN h => ?_⟩
    · obtain ⟨Cn, sr, pl, dn, dv, dT, dX, dV, dW, nx, wh, Rw, jW0, jA0, jg, cs, Ms, fs, hv, hCn, hnx, hPC, hcs, hMs⟩ := h
      obtain ⟨ht0, hsa, htx, hr, hd, hst, hp, hj, hss⟩ := id hv
      have hw := hss k (by have := hwf.2.1.1.2; omega)
      rw [hcs k hkS] at hw
      refine CTi_mono (y_X10_rank ht0 hsa hw (by omega) ⟨hkS, hwf.2.1.1.2⟩ (by have := hMs k; omega) hck.1 hck.2) (rfl) (fun g' hp => ?_)
      exact CWq hv hCn hnx hPC hcs hMs hwf.2.1.1.2 hkS hp.1 hp.2
    · obtain ⟨cg, le, sp, va, o0, tn, aw, mw, fw, ls, gs, sn, sw, kr, Nw, Rd, Ps, Lm, Sv, Tb, Lk, Bs, Jo, Wi, Ah, Be, Lo, Sh, Ro, Tr, Su, Sz, ⟨hm, hnow, hrd, hpa, htx, hse, htb, hlk, hbs, hjo, hwi, hah, hbe, hlo, hsh, hro, htr, hsu, hso⟩, ⟨rfl, rfl, hrg⟩, hER, hPR, hLm, hSv⟩ := h
      refine CTi_mono (m_y_X11_rank hm hnow hse htb hlk hbs hN hER hkS rfl hck.1 hck.2 hSv hrg) (rfl) (fun g' hp => ?_)
      obtain ⟨o01, tn1, aw1, mw1, fw1, ls1, gs1, sn1, sw1, kr1, Tb1, Lk1, Bs1, hm9, htb9, hlk9, hbs9, hrg1, hf⟩ := hp
      exact ⟨⟨_, _, _, _, _, _, _, _, _, _, _, _, _, _, _, _, _, _, _, _, _, _, _, _, _, _, _, _, _, _, _, _, ⟨hm9, vIA_fr hnow (fun q h1 h2 => hf q (by omega)), vIA_fr hrd (fun q h1 h2 => hf q (by omega)), vIA_fr hpa (fun q h1 h2 => hf q (by omega)), vIA_fr htx (fun q h1 h2 => hf q (by omega)), vLA_fr hse (fun q h1 h2 => hf q (by omega)), htb9, hlk9, hbs9, vLA_fr hjo (fun q h1 h2 => hf q (by omega)), vLA_fr hwi (fun q h1 h2 => hf q (by omega)), vLA_fr hah (fun q h1 h2 => hf q (by omega)), vLA_fr hbe (fun q h1 h2 => hf q (by omega)), vLA_fr hlo (fun q h1 h2 => hf q (by omega)), vLA_fr hsh (fun q h1 h2 => hf q (by omega)), vIA_fr hro (fun q h1 h2 => hf q (by omega)), vIA_fr htr (fun q h1 h2 => hf q (by omega)), vIA_fr hsu (fun q h1 h2 => hf q (by omega)), vLA_fr hso (fun q h1 h2 => hf q (by omega))⟩, ⟨rfl, rfl, hrg1⟩, hER, hPR, hLm, hSv⟩, fun q h1 => hf q (by omega)⟩
  · refine ⟨(-1), n, L, S, P, hwf, fun N g M hN hM h => ?_, fun N g hN h => ?_⟩
    · obtain ⟨Cn, sr, pl, dn, dv, dT, dX, dV, dW, nx, wh, Rw, jW0, jA0, jg, cs, Ms, fs, hv, hCn, hnx, hPC, hcs, hMs⟩ := h
      obtain ⟨ht0, hsa, htx, hr, hd, hst, hp, hj, hss⟩ := id hv
      exact CTi_mono (n_X10_rank ht0 hsa (by omega) hwf.2.1.1.2 h_s hs) (rfl) (fun g' hp => by subst hp; exact ⟨⟨Cn, sr, pl, dn, dv, dT, dX, dV, dW, nx, wh, Rw, jW0, jA0, jg, cs, Ms, fs, hv, hCn, hnx, hPC, hcs, fun i => by have := hMs i; omega⟩, fun _ _ => rfl⟩)
    · obtain ⟨cg, le, sp, va, o0, tn, aw, mw, fw, ls, gs, sn, sw, kr, Nw, Rd, Ps, Lm, Sv, Tb, Lk, Bs, Jo, Wi, Ah, Be, Lo, Sh, Ro, Tr, Su, Sz, ⟨hm, hnow, hrd, hpa, htx, hse, htb, hlk, hbs, hjo, hwi, hah, hbe, hlo, hsh, hro, htr, hsu, hso⟩, ⟨rfl, rfl, hrg⟩, hER, hPR, hLm, hSv⟩ := h
      exact CTi_mono (m_n_X11_rank hm hnow hN hER h_s (by omega)) (rfl) (fun g' hp => by subst hp; exact ⟨⟨_, _, _, _, _, _, _, _, _, _, _, _, _, _, _, _, _, _, _, _, _, _, _, _, _, _, _, _, _, _, _, _, ⟨hm, hnow, hrd, hpa, htx, hse, htb, hlk, hbs, hjo, hwi, hah, hbe, hlo, hsh, hro, htr, hsu, hso⟩, ⟨rfl, rfl, hrg⟩, hER, hPR, hLm, hSv⟩, fun _ _ => rfl⟩)
set_option maxHeartbeats 4000000 in
theorem api_looks {l : Launch} {D : va_G} {cy : Nat → ClassId} {B n : Nat} {L : Int → Int} {S : St} {P : List St} {s what : Int} (hwf : WFg n L S P) (h_s : -2147483648 ≤ s ∧ s < 2147483648) (h_what : -2147483648 ≤ what ∧ what < 2147483648) : APIi l D cy B yX10_looks wsX10_looks (rmo 13 328) yX11_looks wsX11_looks (rmo 6 152) [.int (zI s), .int (zI what)] n L S P := by
  by_cases hs : 0 ≤ s ∧ s < S.length
  · obtain ⟨k, rfl⟩ : ∃ k : Nat, s = ((k : Nat) : Int) := ⟨s.toNat, by omega⟩
    have hkS : k < S.length := by omega
    have hck := hwf.2.1.2 k hkS
    by_cases hvd : 0 ≤ what ∧ what ≤ 1
    · refine ⟨(aLoo (S.getD k []) what), n, L, S, P, hwf, fun N g M hN hM h => ?_, fun N g hN h => ?_⟩
      · obtain ⟨Cn, sr, pl, dn, dv, dT, dX, dV, dW, nx, wh, Rw, jW0, jA0, jg, cs, Ms, fs, hv, hCn, hnx, hPC, hcs, hMs⟩ := h
        obtain ⟨ht0, hsa, htx, hr, hd, hst, hp, hj, hss⟩ := id hv
        have hw := hss k (by have := hwf.2.1.1.2; omega)
        rw [hcs k hkS] at hw
        refine CTi_mono (y_X10_looks ht0 hsa hw (by omega) ⟨hkS, hwf.2.1.1.2⟩ (by have := hMs k; omega) hck.1 hck.2 h_what) (rfl) (fun g' hp => ?_)
        exact CWq hv hCn hnx hPC hcs hMs hwf.2.1.1.2 hkS hp.1 hp.2
      · obtain ⟨cg, le, sp, va, o0, tn, aw, mw, fw, ls, gs, sn, sw, kr, Nw, Rd, Ps, Lm, Sv, Tb, Lk, Bs, Jo, Wi, Ah, Be, Lo, Sh, Ro, Tr, Su, Sz, ⟨hm, hnow, hrd, hpa, htx, hse, htb, hlk, hbs, hjo, hwi, hah, hbe, hlo, hsh, hro, htr, hsu, hso⟩, ⟨rfl, rfl, hrg⟩, hER, hPR, hLm, hSv⟩ := h
        refine CTi_mono (m_y_X11_looks hm hnow hse hbe hlo hsh hro htr hsu hso hN hER hkS rfl hck.1 hck.2 hSv h_what hvd) (rfl) (fun g' hp => ?_)
        obtain ⟨Be1, Lo1, Sh1, Ro1, Tr1, Su1, So1, hbe9, hlo9, hsh9, hro9, htr9, hsu9, hso9, hf⟩ := hp
        exact ⟨⟨_, _, _, _, _, _, _, _, _, _, _, _, _, _, _, _, _, _, _, _, _, _, _, _, _, _, _, _, _, _, _, _, ⟨vM_fr hm (fun q h1 h2 => hf q (by omega)), vIA_fr hnow (fun q h1 h2 => hf q (by omega)), vIA_fr hrd (fun q h1 h2 => hf q (by omega)), vIA_fr hpa (fun q h1 h2 => hf q (by omega)), vIA_fr htx (fun q h1 h2 => hf q (by omega)), vLA_fr hse (fun q h1 h2 => hf q (by omega)), vIA_fr htb (fun q h1 h2 => hf q (by omega)), vIA_fr hlk (fun q h1 h2 => hf q (by omega)), vLA_fr hbs (fun q h1 h2 => hf q (by omega)), vLA_fr hjo (fun q h1 h2 => hf q (by omega)), vLA_fr hwi (fun q h1 h2 => hf q (by omega)), vLA_fr hah (fun q h1 h2 => hf q (by omega)), hbe9, hlo9, hsh9, hro9, htr9, hsu9, hso9⟩, ⟨rfl, rfl, hrg⟩, hER, hPR, hLm, hSv⟩, fun q h1 => hf q (by omega)⟩
    · refine ⟨(aLoo (S.getD k []) what), n, L, S, P, hwf, fun N g M hN hM h => ?_, fun N g hN h => ?_⟩
      · obtain ⟨Cn, sr, pl, dn, dv, dT, dX, dV, dW, nx, wh, Rw, jW0, jA0, jg, cs, Ms, fs, hv, hCn, hnx, hPC, hcs, hMs⟩ := h
        obtain ⟨ht0, hsa, htx, hr, hd, hst, hp, hj, hss⟩ := id hv
        have hw := hss k (by have := hwf.2.1.1.2; omega)
        rw [hcs k hkS] at hw
        refine CTi_mono (y_X10_looks ht0 hsa hw (by omega) ⟨hkS, hwf.2.1.1.2⟩ (by have := hMs k; omega) hck.1 hck.2 h_what) (rfl) (fun g' hp => ?_)
        exact CWq hv hCn hnx hPC hcs hMs hwf.2.1.1.2 hkS hp.1 hp.2
      · obtain ⟨cg, le, sp, va, o0, tn, aw, mw, fw, ls, gs, sn, sw, kr, Nw, Rd, Ps, Lm, Sv, Tb, Lk, Bs, Jo, Wi, Ah, Be, Lo, Sh, Ro, Tr, Su, Sz, ⟨hm, hnow, hrd, hpa, htx, hse, htb, hlk, hbs, hjo, hwi, hah, hbe, hlo, hsh, hro, htr, hsu, hso⟩, ⟨rfl, rfl, hrg⟩, hER, hPR, hLm, hSv⟩ := h
        exact CTi_mono (m_n_X11_looks hm hnow hN hER h_s h_what (by omega)) (by unfold aLoo; repeat rw [if_neg (by omega)]) (fun g' hp => by subst hp; exact ⟨⟨_, _, _, _, _, _, _, _, _, _, _, _, _, _, _, _, _, _, _, _, _, _, _, _, _, _, _, _, _, _, _, _, ⟨hm, hnow, hrd, hpa, htx, hse, htb, hlk, hbs, hjo, hwi, hah, hbe, hlo, hsh, hro, htr, hsu, hso⟩, ⟨rfl, rfl, hrg⟩, hER, hPR, hLm, hSv⟩, fun _ _ => rfl⟩)
  · refine ⟨(-1), n, L, S, P, hwf, fun N g M hN hM h => ?_, fun N g hN h => ?_⟩
    · obtain ⟨Cn, sr, pl, dn, dv, dT, dX, dV, dW, nx, wh, Rw, jW0, jA0, jg, cs, Ms, fs, hv, hCn, hnx, hPC, hcs, hMs⟩ := h
      obtain ⟨ht0, hsa, htx, hr, hd, hst, hp, hj, hss⟩ := id hv
      exact CTi_mono (n_X10_looks ht0 hsa (by omega) hwf.2.1.1.2 h_s hs h_what) (rfl) (fun g' hp => by subst hp; exact ⟨⟨Cn, sr, pl, dn, dv, dT, dX, dV, dW, nx, wh, Rw, jW0, jA0, jg, cs, Ms, fs, hv, hCn, hnx, hPC, hcs, fun i => by have := hMs i; omega⟩, fun _ _ => rfl⟩)
    · obtain ⟨cg, le, sp, va, o0, tn, aw, mw, fw, ls, gs, sn, sw, kr, Nw, Rd, Ps, Lm, Sv, Tb, Lk, Bs, Jo, Wi, Ah, Be, Lo, Sh, Ro, Tr, Su, Sz, ⟨hm, hnow, hrd, hpa, htx, hse, htb, hlk, hbs, hjo, hwi, hah, hbe, hlo, hsh, hro, htr, hsu, hso⟩, ⟨rfl, rfl, hrg⟩, hER, hPR, hLm, hSv⟩ := h
      exact CTi_mono (m_n_X11_looks hm hnow hN hER h_s h_what (by omega)) (rfl) (fun g' hp => by subst hp; exact ⟨⟨_, _, _, _, _, _, _, _, _, _, _, _, _, _, _, _, _, _, _, _, _, _, _, _, _, _, _, _, _, _, _, _, ⟨hm, hnow, hrd, hpa, htx, hse, htb, hlk, hbs, hjo, hwi, hah, hbe, hlo, hsh, hro, htr, hsu, hso⟩, ⟨rfl, rfl, hrg⟩, hER, hPR, hLm, hSv⟩, fun _ _ => rfl⟩)
set_option maxHeartbeats 4000000 in
theorem api_node {l : Launch} {D : va_G} {cy : Nat → ClassId} {B n : Nat} {L : Int → Int} {S : St} {P : List St} {s j a what : Int} (hwf : WFg n L S P) (h_s : -2147483648 ≤ s ∧ s < 2147483648) (h_j : -2147483648 ≤ j ∧ j < 2147483648) (h_a : -2147483648 ≤ a ∧ a < 2147483648) (h_what : -2147483648 ≤ what ∧ what < 2147483648) : APIl l D cy B yX10_node wsX10_node (rmo 6 161) yX11_node wsX11_node (rmo 5 121) [.int (zI s), .int (zI j), .int (zI a), .int (zI what)] n L S P := by
  by_cases hs : 0 ≤ s ∧ s < S.length
  · obtain ⟨k, rfl⟩ : ∃ k : Nat, s = ((k : Nat) : Int) := ⟨s.toNat, by omega⟩
    have hkS : k < S.length := by omega
    have hck := hwf.2.1.2 k hkS
    refine ⟨(aNod (S.getD k []) j a what), n, L, S, P, hwf, fun N g M hN hM h => ?_, fun N g hN h => ?_⟩
    · obtain ⟨Cn, sr, pl, dn, dv, dT, dX, dV, dW, nx, wh, Rw, jW0, jA0, jg, cs, Ms, fs, hv, hCn, hnx, hPC, hcs, hMs⟩ := h
      obtain ⟨ht0, hsa, htx, hr, hd, hst, hp, hj, hss⟩ := id hv
      have hw := hss k (by have := hwf.2.1.1.2; omega)
      rw [hcs k hkS] at hw
      refine CTl_mono (y_X10_node ht0 hsa hw (by omega) ⟨hkS, hwf.2.1.1.2⟩ (by have := hMs k; omega) hck.1 hck.2 h_j h_a h_what) (rfl) (fun g' hp => ?_)
      exact CWq hv hCn hnx hPC hcs hMs hwf.2.1.1.2 hkS hp.1 hp.2
    · obtain ⟨cg, le, sp, va, o0, tn, aw, mw, fw, ls, gs, sn, sw, kr, Nw, Rd, Ps, Lm, Sv, Tb, Lk, Bs, Jo, Wi, Ah, Be, Lo, Sh, Ro, Tr, Su, Sz, ⟨hm, hnow, hrd, hpa, htx, hse, htb, hlk, hbs, hjo, hwi, hah, hbe, hlo, hsh, hro, htr, hsu, hso⟩, ⟨rfl, rfl, hrg⟩, hER, hPR, hLm, hSv⟩ := h
      refine CTl_mono (m_y_X11_node hm hnow hse hah hbe hlo hsh hro hN hER hkS rfl hck.1 hck.2 hSv h_j h_a h_what) (rfl) (fun g' hp => ?_)
      obtain ⟨Ah1, Be1, Lo1, Sh1, Ro1, hah9, hbe9, hlo9, hsh9, hro9, hf⟩ := hp
      exact ⟨⟨_, _, _, _, _, _, _, _, _, _, _, _, _, _, _, _, _, _, _, _, _, _, _, _, _, _, _, _, _, _, _, _, ⟨vM_fr hm (fun q h1 h2 => hf q (by omega)), vIA_fr hnow (fun q h1 h2 => hf q (by omega)), vIA_fr hrd (fun q h1 h2 => hf q (by omega)), vIA_fr hpa (fun q h1 h2 => hf q (by omega)), vIA_fr htx (fun q h1 h2 => hf q (by omega)), vLA_fr hse (fun q h1 h2 => hf q (by omega)), vIA_fr htb (fun q h1 h2 => hf q (by omega)), vIA_fr hlk (fun q h1 h2 => hf q (by omega)), vLA_fr hbs (fun q h1 h2 => hf q (by omega)), vLA_fr hjo (fun q h1 h2 => hf q (by omega)), vLA_fr hwi (fun q h1 h2 => hf q (by omega)), hah9, hbe9, hlo9, hsh9, hro9, vIA_fr htr (fun q h1 h2 => hf q (by omega)), vIA_fr hsu (fun q h1 h2 => hf q (by omega)), vLA_fr hso (fun q h1 h2 => hf q (by omega))⟩, ⟨rfl, rfl, hrg⟩, hER, hPR, hLm, hSv⟩, fun q h1 => hf q (by omega)⟩
  · refine ⟨(-1), n, L, S, P, hwf, fun N g M hN hM h => ?_, fun N g hN h => ?_⟩
    · obtain ⟨Cn, sr, pl, dn, dv, dT, dX, dV, dW, nx, wh, Rw, jW0, jA0, jg, cs, Ms, fs, hv, hCn, hnx, hPC, hcs, hMs⟩ := h
      obtain ⟨ht0, hsa, htx, hr, hd, hst, hp, hj, hss⟩ := id hv
      exact CTl_mono (n_X10_node ht0 hsa (by omega) hwf.2.1.1.2 h_s hs h_j h_a h_what) (rfl) (fun g' hp => by subst hp; exact ⟨⟨Cn, sr, pl, dn, dv, dT, dX, dV, dW, nx, wh, Rw, jW0, jA0, jg, cs, Ms, fs, hv, hCn, hnx, hPC, hcs, fun i => by have := hMs i; omega⟩, fun _ _ => rfl⟩)
    · obtain ⟨cg, le, sp, va, o0, tn, aw, mw, fw, ls, gs, sn, sw, kr, Nw, Rd, Ps, Lm, Sv, Tb, Lk, Bs, Jo, Wi, Ah, Be, Lo, Sh, Ro, Tr, Su, Sz, ⟨hm, hnow, hrd, hpa, htx, hse, htb, hlk, hbs, hjo, hwi, hah, hbe, hlo, hsh, hro, htr, hsu, hso⟩, ⟨rfl, rfl, hrg⟩, hER, hPR, hLm, hSv⟩ := h
      exact CTl_mono (m_n_X11_node hm hnow hN hER h_s h_j h_a h_what (by omega)) (rfl) (fun g' hp => by subst hp; exact ⟨⟨_, _, _, _, _, _, _, _, _, _, _, _, _, _, _, _, _, _, _, _, _, _, _, _, _, _, _, _, _, _, _, _, ⟨hm, hnow, hrd, hpa, htx, hse, htb, hlk, hbs, hjo, hwi, hah, hbe, hlo, hsh, hro, htr, hsu, hso⟩, ⟨rfl, rfl, hrg⟩, hER, hPR, hLm, hSv⟩, fun _ _ => rfl⟩)
set_option maxHeartbeats 4000000 in
theorem api_table {l : Launch} {D : va_G} {cy : Nat → ClassId} {B n : Nat} {L : Int → Int} {S : St} {P : List St} {s t j : Int} (hwf : WFg n L S P) (h_s : -2147483648 ≤ s ∧ s < 2147483648) (h_t : -2147483648 ≤ t ∧ t < 2147483648) (h_j : -2147483648 ≤ j ∧ j < 2147483648) : APIi l D cy B yX10_table wsX10_table (rmo 6 161) yX11_table wsX11_table (rmo 5 121) [.int (zI s), .int (zI t), .int (zI j)] n L S P := by
  by_cases hs : 0 ≤ s ∧ s < S.length
  · obtain ⟨k, rfl⟩ : ∃ k : Nat, s = ((k : Nat) : Int) := ⟨s.toNat, by omega⟩
    have hkS : k < S.length := by omega
    have hck := hwf.2.1.2 k hkS
    refine ⟨(aTab (S.getD k []) t j), n, L, S, P, hwf, fun N g M hN hM h => ?_, fun N g hN h => ?_⟩
    · obtain ⟨Cn, sr, pl, dn, dv, dT, dX, dV, dW, nx, wh, Rw, jW0, jA0, jg, cs, Ms, fs, hv, hCn, hnx, hPC, hcs, hMs⟩ := h
      obtain ⟨ht0, hsa, htx, hr, hd, hst, hp, hj, hss⟩ := id hv
      have hw := hss k (by have := hwf.2.1.1.2; omega)
      rw [hcs k hkS] at hw
      refine CTi_mono (y_X10_table ht0 hsa hw (by omega) ⟨hkS, hwf.2.1.1.2⟩ (by have := hMs k; omega) hck.1 hck.2 h_t h_j) (rfl) (fun g' hp => ?_)
      exact CWq hv hCn hnx hPC hcs hMs hwf.2.1.1.2 hkS hp.1 hp.2
    · obtain ⟨cg, le, sp, va, o0, tn, aw, mw, fw, ls, gs, sn, sw, kr, Nw, Rd, Ps, Lm, Sv, Tb, Lk, Bs, Jo, Wi, Ah, Be, Lo, Sh, Ro, Tr, Su, Sz, ⟨hm, hnow, hrd, hpa, htx, hse, htb, hlk, hbs, hjo, hwi, hah, hbe, hlo, hsh, hro, htr, hsu, hso⟩, ⟨rfl, rfl, hrg⟩, hER, hPR, hLm, hSv⟩ := h
      refine CTi_mono (m_y_X11_table hm hnow hse hbe hlo hsh hro hN hER hkS rfl hck.1 hck.2 hSv h_t h_j) (rfl) (fun g' hp => ?_)
      obtain ⟨Be1, Lo1, Sh1, Ro1, hbe9, hlo9, hsh9, hro9, hf⟩ := hp
      exact ⟨⟨_, _, _, _, _, _, _, _, _, _, _, _, _, _, _, _, _, _, _, _, _, _, _, _, _, _, _, _, _, _, _, _, ⟨vM_fr hm (fun q h1 h2 => hf q (by omega)), vIA_fr hnow (fun q h1 h2 => hf q (by omega)), vIA_fr hrd (fun q h1 h2 => hf q (by omega)), vIA_fr hpa (fun q h1 h2 => hf q (by omega)), vIA_fr htx (fun q h1 h2 => hf q (by omega)), vLA_fr hse (fun q h1 h2 => hf q (by omega)), vIA_fr htb (fun q h1 h2 => hf q (by omega)), vIA_fr hlk (fun q h1 h2 => hf q (by omega)), vLA_fr hbs (fun q h1 h2 => hf q (by omega)), vLA_fr hjo (fun q h1 h2 => hf q (by omega)), vLA_fr hwi (fun q h1 h2 => hf q (by omega)), vLA_fr hah (fun q h1 h2 => hf q (by omega)), hbe9, hlo9, hsh9, hro9, vIA_fr htr (fun q h1 h2 => hf q (by omega)), vIA_fr hsu (fun q h1 h2 => hf q (by omega)), vLA_fr hso (fun q h1 h2 => hf q (by omega))⟩, ⟨rfl, rfl, hrg⟩, hER, hPR, hLm, hSv⟩, fun q h1 => hf q (by omega)⟩
  · refine ⟨(-1), n, L, S, P, hwf, fun N g M hN hM h => ?_, fun N g hN h => ?_⟩
    · obtain ⟨Cn, sr, pl, dn, dv, dT, dX, dV, dW, nx, wh, Rw, jW0, jA0, jg, cs, Ms, fs, hv, hCn, hnx, hPC, hcs, hMs⟩ := h
      obtain ⟨ht0, hsa, htx, hr, hd, hst, hp, hj, hss⟩ := id hv
      exact CTi_mono (n_X10_table ht0 hsa (by omega) hwf.2.1.1.2 h_s hs h_t h_j) (rfl) (fun g' hp => by subst hp; exact ⟨⟨Cn, sr, pl, dn, dv, dT, dX, dV, dW, nx, wh, Rw, jW0, jA0, jg, cs, Ms, fs, hv, hCn, hnx, hPC, hcs, fun i => by have := hMs i; omega⟩, fun _ _ => rfl⟩)
    · obtain ⟨cg, le, sp, va, o0, tn, aw, mw, fw, ls, gs, sn, sw, kr, Nw, Rd, Ps, Lm, Sv, Tb, Lk, Bs, Jo, Wi, Ah, Be, Lo, Sh, Ro, Tr, Su, Sz, ⟨hm, hnow, hrd, hpa, htx, hse, htb, hlk, hbs, hjo, hwi, hah, hbe, hlo, hsh, hro, htr, hsu, hso⟩, ⟨rfl, rfl, hrg⟩, hER, hPR, hLm, hSv⟩ := h
      exact CTi_mono (m_n_X11_table hm hnow hN hER h_s h_t h_j (by omega)) (rfl) (fun g' hp => by subst hp; exact ⟨⟨_, _, _, _, _, _, _, _, _, _, _, _, _, _, _, _, _, _, _, _, _, _, _, _, _, _, _, _, _, _, _, _, ⟨hm, hnow, hrd, hpa, htx, hse, htb, hlk, hbs, hjo, hwi, hah, hbe, hlo, hsh, hro, htr, hsu, hso⟩, ⟨rfl, rfl, hrg⟩, hER, hPR, hLm, hSv⟩, fun _ _ => rfl⟩)
set_option maxHeartbeats 4000000 in
theorem api_likeliest {l : Launch} {D : va_G} {cy : Nat → ClassId} {B n : Nat} {L : Int → Int} {S : St} {P : List St} {s j : Int} (hwf : WFg n L S P) (h_s : -2147483648 ≤ s ∧ s < 2147483648) (h_j : -2147483648 ≤ j ∧ j < 2147483648) : APIi l D cy B yX10_likeliest wsX10_likeliest (rmo 6 161) yX11_likeliest wsX11_likeliest (rmo 6 145) [.int (zI s), .int (zI j)] n L S P := by
  by_cases hs : 0 ≤ s ∧ s < S.length
  · obtain ⟨k, rfl⟩ : ∃ k : Nat, s = ((k : Nat) : Int) := ⟨s.toNat, by omega⟩
    have hkS : k < S.length := by omega
    have hck := hwf.2.1.2 k hkS
    by_cases hvd : 0 ≤ j ∧ j < (S.getD k []).length
    · refine ⟨(aLik (S.getD k []) j), n, L, S, P, hwf, fun N g M hN hM h => ?_, fun N g hN h => ?_⟩
      · obtain ⟨Cn, sr, pl, dn, dv, dT, dX, dV, dW, nx, wh, Rw, jW0, jA0, jg, cs, Ms, fs, hv, hCn, hnx, hPC, hcs, hMs⟩ := h
        obtain ⟨ht0, hsa, htx, hr, hd, hst, hp, hj, hss⟩ := id hv
        have hw := hss k (by have := hwf.2.1.1.2; omega)
        rw [hcs k hkS] at hw
        refine CTi_mono (y_X10_likeliest ht0 hsa hw (by omega) ⟨hkS, hwf.2.1.1.2⟩ (by have := hMs k; omega) hck.1 hck.2 h_j) (rfl) (fun g' hp => ?_)
        exact CWq hv hCn hnx hPC hcs hMs hwf.2.1.1.2 hkS hp.1 hp.2
      · obtain ⟨cg, le, sp, va, o0, tn, aw, mw, fw, ls, gs, sn, sw, kr, Nw, Rd, Ps, Lm, Sv, Tb, Lk, Bs, Jo, Wi, Ah, Be, Lo, Sh, Ro, Tr, Su, Sz, ⟨hm, hnow, hrd, hpa, htx, hse, htb, hlk, hbs, hjo, hwi, hah, hbe, hlo, hsh, hro, htr, hsu, hso⟩, ⟨rfl, rfl, hrg⟩, hER, hPR, hLm, hSv⟩ := h
        refine CTi_mono (m_y_X11_likeliest hm hnow hse htb hlk hbs hN hER hkS rfl hck.1 hck.2 hSv hrg h_j hvd) (rfl) (fun g' hp => ?_)
        obtain ⟨o01, tn1, aw1, mw1, fw1, ls1, gs1, sn1, sw1, kr1, Tb1, Lk1, Bs1, hm9, htb9, hlk9, hbs9, hrg1, hf⟩ := hp
        exact ⟨⟨_, _, _, _, _, _, _, _, _, _, _, _, _, _, _, _, _, _, _, _, _, _, _, _, _, _, _, _, _, _, _, _, ⟨hm9, vIA_fr hnow (fun q h1 h2 => hf q (by omega)), vIA_fr hrd (fun q h1 h2 => hf q (by omega)), vIA_fr hpa (fun q h1 h2 => hf q (by omega)), vIA_fr htx (fun q h1 h2 => hf q (by omega)), vLA_fr hse (fun q h1 h2 => hf q (by omega)), htb9, hlk9, hbs9, vLA_fr hjo (fun q h1 h2 => hf q (by omega)), vLA_fr hwi (fun q h1 h2 => hf q (by omega)), vLA_fr hah (fun q h1 h2 => hf q (by omega)), vLA_fr hbe (fun q h1 h2 => hf q (by omega)), vLA_fr hlo (fun q h1 h2 => hf q (by omega)), vLA_fr hsh (fun q h1 h2 => hf q (by omega)), vIA_fr hro (fun q h1 h2 => hf q (by omega)), vIA_fr htr (fun q h1 h2 => hf q (by omega)), vIA_fr hsu (fun q h1 h2 => hf q (by omega)), vLA_fr hso (fun q h1 h2 => hf q (by omega))⟩, ⟨rfl, rfl, hrg1⟩, hER, hPR, hLm, hSv⟩, fun q h1 => hf q (by omega)⟩
    · refine ⟨(aLik (S.getD k []) j), n, L, S, P, hwf, fun N g M hN hM h => ?_, fun N g hN h => ?_⟩
      · obtain ⟨Cn, sr, pl, dn, dv, dT, dX, dV, dW, nx, wh, Rw, jW0, jA0, jg, cs, Ms, fs, hv, hCn, hnx, hPC, hcs, hMs⟩ := h
        obtain ⟨ht0, hsa, htx, hr, hd, hst, hp, hj, hss⟩ := id hv
        have hw := hss k (by have := hwf.2.1.1.2; omega)
        rw [hcs k hkS] at hw
        refine CTi_mono (y_X10_likeliest ht0 hsa hw (by omega) ⟨hkS, hwf.2.1.1.2⟩ (by have := hMs k; omega) hck.1 hck.2 h_j) (rfl) (fun g' hp => ?_)
        exact CWq hv hCn hnx hPC hcs hMs hwf.2.1.1.2 hkS hp.1 hp.2
      · obtain ⟨cg, le, sp, va, o0, tn, aw, mw, fw, ls, gs, sn, sw, kr, Nw, Rd, Ps, Lm, Sv, Tb, Lk, Bs, Jo, Wi, Ah, Be, Lo, Sh, Ro, Tr, Su, Sz, ⟨hm, hnow, hrd, hpa, htx, hse, htb, hlk, hbs, hjo, hwi, hah, hbe, hlo, hsh, hro, htr, hsu, hso⟩, ⟨rfl, rfl, hrg⟩, hER, hPR, hLm, hSv⟩ := h
        exact CTi_mono (m_n_X11_likeliest hm hnow hN hER h_s h_j (by rw [Int.toNat_natCast]; omega)) (by unfold aLik; repeat rw [if_neg (by omega)]) (fun g' hp => by subst hp; exact ⟨⟨_, _, _, _, _, _, _, _, _, _, _, _, _, _, _, _, _, _, _, _, _, _, _, _, _, _, _, _, _, _, _, _, ⟨hm, hnow, hrd, hpa, htx, hse, htb, hlk, hbs, hjo, hwi, hah, hbe, hlo, hsh, hro, htr, hsu, hso⟩, ⟨rfl, rfl, hrg⟩, hER, hPR, hLm, hSv⟩, fun _ _ => rfl⟩)
  · refine ⟨(-1), n, L, S, P, hwf, fun N g M hN hM h => ?_, fun N g hN h => ?_⟩
    · obtain ⟨Cn, sr, pl, dn, dv, dT, dX, dV, dW, nx, wh, Rw, jW0, jA0, jg, cs, Ms, fs, hv, hCn, hnx, hPC, hcs, hMs⟩ := h
      obtain ⟨ht0, hsa, htx, hr, hd, hst, hp, hj, hss⟩ := id hv
      exact CTi_mono (n_X10_likeliest ht0 hsa (by omega) hwf.2.1.1.2 h_s hs h_j) (rfl) (fun g' hp => by subst hp; exact ⟨⟨Cn, sr, pl, dn, dv, dT, dX, dV, dW, nx, wh, Rw, jW0, jA0, jg, cs, Ms, fs, hv, hCn, hnx, hPC, hcs, fun i => by have := hMs i; omega⟩, fun _ _ => rfl⟩)
    · obtain ⟨cg, le, sp, va, o0, tn, aw, mw, fw, ls, gs, sn, sw, kr, Nw, Rd, Ps, Lm, Sv, Tb, Lk, Bs, Jo, Wi, Ah, Be, Lo, Sh, Ro, Tr, Su, Sz, ⟨hm, hnow, hrd, hpa, htx, hse, htb, hlk, hbs, hjo, hwi, hah, hbe, hlo, hsh, hro, htr, hsu, hso⟩, ⟨rfl, rfl, hrg⟩, hER, hPR, hLm, hSv⟩ := h
      exact CTi_mono (m_n_X11_likeliest hm hnow hN hER h_s h_j (by omega)) (rfl) (fun g' hp => by subst hp; exact ⟨⟨_, _, _, _, _, _, _, _, _, _, _, _, _, _, _, _, _, _, _, _, _, _, _, _, _, _, _, _, _, _, _, _, ⟨hm, hnow, hrd, hpa, htx, hse, htb, hlk, hbs, hjo, hwi, hah, hbe, hlo, hsh, hro, htr, hsu, hso⟩, ⟨rfl, rfl, hrg⟩, hER, hPR, hLm, hSv⟩, fun _ _ => rfl⟩)
