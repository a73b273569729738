/-! A world that grows -/
theorem wld_push {ad : Nat → Nat} {N : Nat} {C : Nat → va_E} {q : Nat} {e : va_E} : wld ad N C ++ [(q, e)] = wld (va_up ad N q) (N + 1) (va_up C N e) := by
  apply List.ext_getElem?
  intro j
  by_cases h : j < N
  · rw [List.getElem?_append_left (by rw [wld_len]; exact h), wld_at h rfl, wld_at (show j < N + 1 by omega) rfl, va_up_ne _ _ (by omega), va_up_ne _ _ (by omega)]
  · by_cases h2 : j = N
    · subst h2
      rw [List.getElem?_append_right (by rw [wld_len]; exact Nat.le_refl _), wld_len, Nat.sub_self, wld_at (show j < j + 1 by omega) rfl, va_up_self, va_up_self]
      rfl
    · rw [List.getElem?_eq_none (by rw [List.length_append, wld_len]; show N + 1 ≤ j; omega), List.getElem?_eq_none (by rw [wld_len]; omega)]
theorem wI_of {A : Nat → Prop} {ad : Nat → Nat} {N : Nat} {C : Nat → va_E} (h : va_D A (wld ad N C)) : wI ad N := fun i j hi hj e => h.1 i j _ _ (wld_at hi rfl) (wld_at hj rfl) e
theorem wA_of {A : Nat → Prop} {ad : Nat → Nat} {N : Nat} {C : Nat → va_E} (h : va_D A (wld ad N C)) {i : Nat} (hi : i < N) : A (ad i) := h.2 i _ (wld_at hi rfl)
/-- which cells a constructor may change: its world's, and those that it makes -/
def gA (ad : Nat → Nat) (N sz : Nat) : Nat → Prop := fun q => wA ad N q ∨ sz ≤ q
theorem gD {ad : Nat → Nat} {N sz : Nat} {C : Nat → va_E} (hI : wI ad N) : va_D (gA ad N sz) (wld ad N C) :=
  ⟨(wD hI).1, fun k q hk => Or.inl ((wD hI).2 k q hk)⟩
abbrev gPc (D : va_G) (Y : Nat → ClassId) (ad : Nat → Nat) (N sz : Nat) (as : List Value) (C : Nat → va_E) : Array Value → State → Prop :=
  va_Pc as (fun U => U.heap.size = sz ∧ wP D ad N C U.heap ∧ va_K D vwCl (tyH Y) U ∧ wEnv (gA ad N sz) U)
/-- behind a constructor: the places have grown to N', at the addresses ad' -/
abbrev gQ (D : va_G) (ad : Nat → Nat) (N sz : Nat) (post : (Nat → Nat) → Nat → (Nat → va_E) → Prop) : Array Value → State → Outcome → State → Prop :=
  va_Qv (fun u : (Nat → Nat) × Nat × (Nat → va_E) => (N ≤ u.2.1 ∧ (∀ i, i < N → u.1 i = ad i) ∧ wI u.1 u.2.1 ∧ ∀ i, N ≤ i → i < u.2.1 → sz ≤ u.1 i) ∧ post u.1 u.2.1 u.2.2) (fun u t => wP D u.1 u.2.1 u.2.2 t.heap) (gA ad N sz)
