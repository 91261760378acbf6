/-! ===== the first strata; a list set to what it holds ===== -/
def firstS : St := [[(8, 1, 0), (7, 3, 1), (9, 6, 2), (6, 5, 3)], [(5, 1, 0), (6, 4, 2)]]
theorem set_self {S : St} {k : Nat} {c : List Co} (hk : k < S.length) (h : S.getD k [] = c) : S.set k c = S := by
  apply List.ext_getElem?
  intro i
  rw [List.getElem?_set]
  by_cases hi : k = i
  · subst hi
    rw [List.getD_eq_getElem?_getD, List.getElem?_eq_getElem hk] at h
    rw [if_pos rfl, if_pos hk, List.getElem?_eq_getElem hk, ← h]
    rfl
  · rw [if_neg hi]
