/-! ===== contracts: more is said than asked ===== -/
theorem CTi_mono {l : Launch} {y : MethodName} {ws : List Cond} {rm : Room} {D : va_G} {cy : Nat → ClassId} {B N : Nat} {g : Nat → va_E} {av : List Value} {E E' : Int} {Hp Hp' : (Nat → va_E) → Prop} (h : CTi l y ws rm D cy B N g av E Hp) (hE : E = E') (hH : ∀ g', Hp g' → Hp' g') : CTi l y ws rm D cy B N g av E' Hp' := by
  subst hE
  intro p e ha hf hc s m args below h1 h2 h3 h4
  obtain ⟨n, o, k1, k2, k3, ⟨⟨r, u, q1, q2, q3⟩, q4⟩, q5⟩ := h p e ha hf hc s m args below h1 h2 h3 h4
  exact ⟨n, o, k1, k2, k3, ⟨⟨r, u, q1, ⟨q2.1, hH _ q2.2⟩, q3⟩, q4⟩, q5⟩
theorem CTl_mono {l : Launch} {y : MethodName} {ws : List Cond} {rm : Room} {D : va_G} {cy : Nat → ClassId} {B N : Nat} {g : Nat → va_E} {av : List Value} {E E' : Int} {Hp Hp' : (Nat → va_E) → Prop} (h : CTl l y ws rm D cy B N g av E Hp) (hE : E = E') (hH : ∀ g', Hp g' → Hp' g') : CTl l y ws rm D cy B N g av E' Hp' := by
  subst hE
  intro p e ha hf hc s m args below h1 h2 h3 h4
  obtain ⟨n, o, k1, k2, k3, ⟨⟨r, u, q1, q2, q3⟩, q4⟩, q5⟩ := h p e ha hf hc s m args below h1 h2 h3 h4
  exact ⟨n, o, k1, k2, k3, ⟨⟨r, u, q1, ⟨q2.1, hH _ q2.2⟩, q3⟩, q4⟩, q5⟩
theorem CTv_mono {l : Launch} {y : MethodName} {ws : List Cond} {rm : Room} {D : va_G} {cy : Nat → ClassId} {B N : Nat} {g : Nat → va_E} {av : List Value} {Hp Hp' : (Nat → va_E) → Prop} (h : CTv l y ws rm D cy B N g av Hp) (hH : ∀ g', Hp g' → Hp' g') : CTv l y ws rm D cy B N g av Hp' := by
  intro p e ha hf hc s m args below h1 h2 h3 h4
  obtain ⟨n, o, k1, k2, k3, ⟨⟨u, q1, q2, q3⟩, q4⟩, q5⟩ := h p e ha hf hc s m args below h1 h2 h3 h4
  exact ⟨n, o, k1, k2, k3, ⟨⟨u, q1, hH _ q2, q3⟩, q4⟩, q5⟩
