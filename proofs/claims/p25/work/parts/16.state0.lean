/-! HoopStairs$State: what it is -/
theorem isSett_same {Y : Nat → ClassId} {ad : Nat → Nat} {C C' : Nat → va_E} {se : Nat} {f : Nat → Int32} (hs : isSett Y ad C se f) (h : ∀ j, se ≤ j → j < se + 2 → C' j = C j) : isSett Y ad C' se f := by
  obtain ⟨h1, q, h2, h3⟩ := hs
  exact ⟨by rw [h _ (by omega) (by omega), h1], q, by rw [h _ (by omega) (by omega), h2], h3⟩
theorem isStair_same {Y : Nat → ClassId} {ad : Nat → Nat} {C C' : Nat → va_E} {st : Nat} {f : Nat → Int32} (hs : isStair Y ad C st f) (h : ∀ j, st ≤ j → j < st + 7 → C' j = C j) : isStair Y ad C' st f := by
  obtain ⟨h1, ⟨q, h2, h2q⟩, h3⟩ := hs
  refine ⟨by rw [h _ (by omega) (by omega), h1], ⟨q, by rw [h _ (by omega) (by omega), h2], h2q⟩, ?_⟩
  exact isGrid_same h3 (fun j a b => h j (by omega) (by omega))
theorem isLog_same {Y : Nat → ClassId} {ad : Nat → Nat} {C C' : Nat → va_E} {lg : Nat} {f : Nat → Int32} (hs : isLog Y ad C lg f) (h : ∀ j, lg ≤ j → j < lg + 6 → C' j = C j) : isLog Y ad C' lg f := by
  obtain ⟨h1, ⟨q, h2, h2q⟩, h3⟩ := hs
  refine ⟨by rw [h _ (by omega) (by omega), h1], ⟨q, by rw [h _ (by omega) (by omega), h2], h2q⟩, ?_⟩
  exact isGrid_same h3 (fun j a b => h j (by omega) (by omega))
theorem isSett_row {Y : Nat → ClassId} {ad : Nat → Nat} {C : Nat → va_E} {se : Nat} {f f1 : Nat → Int32} (hs : isSett Y ad C se f) (h : ∀ q, q < 4 → f1 q = f q) : isSett Y ad C se f1 := by
  obtain ⟨h1, q, h2, h3⟩ := hs
  exact ⟨h1, q, h2, fun i hi => by rw [h3 i hi, h i hi]⟩
theorem isStair_row {Y : Nat → ClassId} {ad : Nat → Nat} {C : Nat → va_E} {st : Nat} {f f1 : Nat → Int32} (hs : isStair Y ad C st f) (h4 : f1 4 = f 4) (h : ∀ q, 61 ≤ q → q < 161 → f1 q = f q) : isStair Y ad C st f1 := by
  obtain ⟨h1, h2, h3⟩ := hs
  exact ⟨by rw [h1, h4], h2, isGrid_congr h3 (fun c k hc hk => (h _ (by omega) (by omega)).symm)⟩
theorem isLog_row {Y : Nat → ClassId} {ad : Nat → Nat} {C : Nat → va_E} {lg : Nat} {f f1 : Nat → Int32} (hs : isLog Y ad C lg f) (h : ∀ q, 20 ≤ q → q < 61 → f1 q = f q) : isLog Y ad C lg f1 := by
  obtain ⟨h1, h2, h3⟩ := hs
  exact ⟨by rw [h1, h 20 (by decide) (by decide)], h2, isGrid_congr h3 (fun c k hc hk => (h _ (by omega) (by omega)).symm)⟩
theorem hpR_row {f f1 : Nat → Int32} {g : Int32} (h : ∀ q, 5 ≤ q → q < 14 → f1 q = f q) : hpR f1 g = hpR f g := by
  unfold hpR hpV
  rw [h 5 (by decide) (by decide), h 6 (by decide) (by decide), h 7 (by decide) (by decide), h 8 (by decide) (by decide), h 9 (by decide) (by decide), h 10 (by decide) (by decide), h 11 (by decide) (by decide), h 12 (by decide) (by decide), h 13 (by decide) (by decide)]
abbrev stO (ad : Nat → Nat) (b : Nat) (v14 v19 : Int32) : va_E := .inr (6, [.ref (ad (b + 1)), .ref (ad (b + 3)), .ref (ad (b + 10)), .ref (ad (b + 11)), .ref (ad (b + 17)), .int v14, .int v19])
def isEnd (Y : Nat → ClassId) (C : Nat → va_E) (en : Nat) (f : Nat → Int32) : Prop := ∃ q : Nat → Int32, C en = .inl (Y 0, 5, .inl q) ∧ ∀ i, 1 ≤ i → i < 5 → q i = f (14 + i)
/-- a state at b: eighteen cells -/
def isState (Y : Nat → ClassId) (ad : Nat → Nat) (C : Nat → va_E) (b : Nat) (f : Nat → Int32) (g : Int32) : Prop :=
  C b = stO ad b (f 14) (f 19) ∧ isSett Y ad C (b + 1) f ∧ isStair Y ad C (b + 3) f ∧ C (b + 10) = hpR f g ∧ isLog Y ad C (b + 11) f ∧ isEnd Y C (b + 17) f
theorem isEnd_same {Y : Nat → ClassId} {C C' : Nat → va_E} {en : Nat} {f : Nat → Int32} (hs : isEnd Y C en f) (h : C' en = C en) : isEnd Y C' en f := by
  obtain ⟨q, h1, h2⟩ := hs
  exact ⟨q, by rw [h, h1], h2⟩
theorem isState_same {Y : Nat → ClassId} {ad : Nat → Nat} {C C' : Nat → va_E} {b : Nat} {f : Nat → Int32} {g : Int32} (hs : isState Y ad C b f g) (h : ∀ j, b ≤ j → j < b + 18 → C' j = C j) : isState Y ad C' b f g := by
  obtain ⟨h1, h2, h3, h4, h5, h6⟩ := hs
  exact ⟨(h _ (by omega) (by omega)).trans h1, isSett_same h2 (fun j a c => h j (by omega) (by omega)), isStair_same h3 (fun j a c => h j (by omega) (by omega)), (h _ (by omega) (by omega)).trans h4, isLog_same h5 (fun j a c => h j (by omega) (by omega)), isEnd_same h6 (h _ (by omega) (by omega))⟩
theorem isState_mk {Y : Nat → ClassId} {ad : Nat → Nat} {C : Nat → va_E} {b : Nat} {F f1 f2 f3 f4 f5 : Nat → Int32} {g v14 v19 : Int32} (h1 : C b = stO ad b v14 v19) (e14 : F 14 = v14) (e19 : F 19 = v19) (h2 : isSett Y ad C (b + 1) f1) (r1 : ∀ q, q < 4 → F q = f1 q) (h3 : isStair Y ad C (b + 3) f2) (r24 : F 4 = f2 4) (r2 : ∀ q, 61 ≤ q → q < 161 → F q = f2 q) (h4 : C (b + 10) = hpR f3 g) (r3 : ∀ q, 5 ≤ q → q < 14 → F q = f3 q) (h5 : isLog Y ad C (b + 11) f4) (r4 : ∀ q, 20 ≤ q → q < 61 → F q = f4 q) (h6 : isEnd Y C (b + 17) f5) (r5 : ∀ q, 15 ≤ q → q < 19 → F q = f5 q) : isState Y ad C b F g := by
  refine ⟨by rw [h1, e14, e19], isSett_row h2 r1, isStair_row h3 r24 r2, by rw [h4, hpR_row r3], isLog_row h5 r4, ?_⟩
  obtain ⟨q, a, c⟩ := h6
  exact ⟨q, a, fun i hi hj => by rw [c i hi hj, r5 _ (by omega) (by omega)]⟩
theorem isState_row {Y : Nat → ClassId} {ad : Nat → Nat} {C : Nat → va_E} {b : Nat} {F f : Nat → Int32} {g : Int32} (h : isState Y ad C b f g) (r : ∀ q, q < 161 → F q = f q) : isState Y ad C b F g := by
  obtain ⟨h1, h2, h3, h4, h5, h6⟩ := h
  exact isState_mk h1 (r _ (by decide)) (r _ (by decide)) h2 (fun q hq => r q (by omega)) h3 (r _ (by decide)) (fun q a c => r q (by omega)) h4 (fun q a c => r q (by omega)) h5 (fun q a c => r q (by omega)) h6 (fun q a c => r q (by omega))
theorem ins_out {k : Nat} {kd v : Int32} {f : Nat → Int32} {q : Nat} (h : q < 61) (h4 : q ≠ 4) (h5 : q ≠ 5) : T_insert k kd v f q = f q := by
  unfold T_insert
  rw [if_neg h4, if_neg h5, if_neg (by omega), if_neg (by omega), if_neg (by omega), if_neg (by omega)]
theorem rem_out {k : Nat} {f : Nat → Int32} {q : Nat} (h : q < 61) (h4 : q ≠ 4) (h5 : q ≠ 5) : T_remove k f q = f q := by
  unfold T_remove
  rw [if_neg h4, if_neg h5, if_neg (by omega)]
theorem ins_hp {k : Nat} {kd v : Int32} {f : Nat → Int32} {q : Nat} (h : 5 ≤ q) (h2 : q < 14) : T_insert k kd v f q = upd f 5 0 q := by
  by_cases a : q = 5
  · rw [a]; rfl
  · rw [upd_n a]; exact ins_out (by omega) (by omega) a
theorem rem_hp {k : Nat} {f : Nat → Int32} {q : Nat} (h : 5 ≤ q) (h2 : q < 14) : T_remove k f q = upd f 5 0 q := by
  by_cases a : q = 5
  · rw [a]; rfl
  · rw [upd_n a]; exact rem_out (by omega) (by omega) a
theorem lists_out {f : Nat → Int32} {q : Nat} (h : q < 20 ∨ 61 ≤ q) : T_lists f q = f q := by
  unfold T_lists
  rw [if_neg (by omega), if_neg (by omega), if_neg (by omega), if_neg (by omega), if_neg (by omega), if_neg (by omega)]
theorem lists_cong {f f1 : Nat → Int32} (h : ∀ q, (6 ≤ q ∧ q ≤ 12) ∨ (20 ≤ q ∧ q < 61) → f1 q = f q) {q : Nat} (h1 : 20 ≤ q) (h2 : q < 61) : T_lists f1 q = T_lists f q := by
  unfold T_lists
  rw [h 20 (by decide), h 6 (by decide), h 11 (by decide), h 10 (by decide), h 12 (by decide)]
  by_cases a : 25 ≤ q ∧ q < 61
  · rw [if_pos a, if_pos a, h (q - 4) (by omega)]
  · rw [if_neg a, if_neg a, h q (by omega)]
def T_pe (x kd v : Int32) (f : Nat → Int32) : Int32 := if 0 ≤ x ∧ x ≤ f 4 then (if 0 ≤ kd ∧ kd ≤ 2 ∧ 1 ≤ v ∧ v ≤ (if kd = 2 then 99 else 9) then (if 20 ≤ f 4 then -4 else 0) else -2) else -1
def rollsP (f : Nat → Int32) : Prop := f 5 = 1 ∧ f 11 = 0

