/-! What a state is: one row of 161 numbers (the reference's own), read off both programs; what each step does to it. -/
/-- a hoop's fields out of a row; g: the greatest lean -/
abbrev hpV (a5 a6 a7 a8 a9 a10 a11 a12 a13 g : Int32) : va_E := .inr (1, [.int a5, .int a6, .int a7, .int a8, .int a9, .int a10, .int a11, .int a12, .int a13, .int g])
abbrev hpR (f : Nat → Int32) (g : Int32) : va_E := hpV (f 5) (f 6) (f 7) (f 8) (f 9) (f 10) (f 11) (f 12) (f 13) g
def mn99 (x : Int32) : Int32 := if x < 99 then x else 99
def iabs (x : Int32) : Int32 := if x < 0 then -x else x
def T_tap (fr : Int32) (f : Nat → Int32) : Nat → Int32 := upd (upd (upd f 8 (f 8 + (if fr = 0 then f 3 else -f 3))) 9 (mn99 (f 9 + 2))) 12 (f 12 + 1)
def T_push (f : Nat → Int32) : Nat → Int32 := upd (upd f 7 (mn99 (f 7 + 5))) 13 (f 13 + 1)
def T_begin (sz : Int32) (f : Nat → Int32) : Nat → Int32 := upd (upd (upd (upd (upd (upd (upd (upd (upd f 5 1) 6 sz) 7 10) 8 0) 9 0) 10 0) 11 0) 12 0) 13 0
/-- a drop of the height h -/
def T_drop (h : Int32) (f : Nat → Int32) : Nat → Int32 :=
  upd (upd (upd f 7 (mn99 (f 7 + h * 4))) 9 (mn99 (f 9 + f 1 * h))) 8 (f 8 + (if f 10 - f 10 / 2 * 2 = 0 then mn99 (f 9 + f 1 * h) / 4 else -(mn99 (f 9 + f 1 * h) / 4)))
def slow (v d : Int32) : Int32 := if v < d then 0 else v - d
def nearer (x by_ : Int32) : Int32 := if x < 0 then x + (if by_ < iabs x then by_ else iabs x) else x - (if by_ < iabs x then by_ else iabs x)
def T_land1 (f : Nat → Int32) : Nat → Int32 := upd (upd (upd f 7 (slow (f 7) (f 2))) 9 (f 9 - f 9 / 4)) 8 (nearer (f 8) (slow (f 7) (f 2) / 20))
def T_lands : Nat → (Nat → Int32) → Nat → Int32
  | 0, f => f
  | n + 1, f => T_lands n (T_land1 f)
def kindAt (f : Nat → Int32) (k : Nat) : Int32 := f (61 + 5 * k)
def valAt (f : Nat → Int32) (k : Nat) : Int32 := f (62 + 5 * k)
/-- at the part k: the row, and how the run is -/
def T_meet (k : Nat) (f : Nat → Int32) : (Nat → Int32) × Int32 :=
  if kindAt f k = 0 then (T_drop (valAt f k) f, 0)
  else if kindAt f k = 1 then (T_lands (valAt f k).toNatClampNeg f, if T_lands (valAt f k).toNatClampNeg f 7 = 0 then 3 else 0)
  else (f, if valAt f k < f 6 + f 9 / 4 then 2 else 0)
/-- the part k, and what is behind it: row, greatest lean, how -/
def T_pass (k : Nat) (f : Nat → Int32) (g : Int32) : (Nat → Int32) × Int32 × Int32 :=
  if (T_meet k f).2 = 0 then
    (if f 0 ≤ iabs ((T_meet k f).1 8) then ((T_meet k f).1, (if g < iabs ((T_meet k f).1 8) then iabs ((T_meet k f).1 8) else g), 1)
    else (upd (T_meet k f).1 10 (f 10 + 1), (if g < iabs ((T_meet k f).1 8) then iabs ((T_meet k f).1 8) else g), 0))
  else ((T_meet k f).1, g, (T_meet k f).2)
def T_step (f : Nat → Int32) (g : Int32) : (Nat → Int32) × Int32 :=
  if f 10 < f 4 then
    (if (T_pass (f 10).toNatClampNeg f g).2.2 = 0 then
      (if f 10 + 1 < f 4 then ((T_pass (f 10).toNatClampNeg f g).1, (T_pass (f 10).toNatClampNeg f g).2.1) else (upd (T_pass (f 10).toNatClampNeg f g).1 11 4, (T_pass (f 10).toNatClampNeg f g).2.1))
    else (upd (T_pass (f 10).toNatClampNeg f g).1 11 (T_pass (f 10).toNatClampNeg f g).2.2, (T_pass (f 10).toNatClampNeg f g).2.1))
  else (upd f 11 4, g)
def T_roll : Nat → (Nat → Int32) → Int32 → (Nat → Int32) × Int32
  | 0, f, g => (f, g)
  | n + 1, f, g => if f 11 = 0 then T_roll n (T_step f g).1 (T_step f g).2 else (f, g)
/-- the list of runs, one longer -/
def T_lists (f : Nat → Int32) : Nat → Int32 := fun j =>
  if j = 20 then f 20 + (if f 20 < 10 then 1 else 0) else if j = 21 then f 6 else if j = 22 then f 11 else if j = 23 then f 10 else if j = 24 then f 12 else if 25 ≤ j ∧ j < 61 then f (j - 4) else f j
/-- a run is over -/
def T_ends (f : Nat → Int32) : Nat → Int32 :=
  T_lists (if f 11 = 4 then upd f 18 (f 18 + 1) else upd (upd f (14 + (f 11).toNatClampNeg) (f (14 + (f 11).toNatClampNeg) + 1)) (62 + 5 * (f 10).toNatClampNeg + (f 11).toNatClampNeg) (f (62 + 5 * (f 10).toNatClampNeg + (f 11).toNatClampNeg) + 1))
def T_rolled (n : Nat) (f : Nat → Int32) (g : Int32) : Nat → Int32 := if (T_roll n f g).1 11 = 0 then (T_roll n f g).1 else T_ends (T_roll n f g).1
def T_insert (k : Nat) (kd v : Int32) (f : Nat → Int32) : Nat → Int32 := fun j =>
  if j = 4 then f 4 + 1 else if j = 5 then 0 else if j = 61 + 5 * k then kd else if j = 62 + 5 * k then v else if 63 + 5 * k ≤ j ∧ j < 66 + 5 * k then 0 else if 66 + 5 * k ≤ j ∧ j < 66 + 5 * (f 4).toNatClampNeg then f (j - 5) else f j
def T_remove (k : Nat) (f : Nat → Int32) : Nat → Int32 := fun j =>
  if j = 4 then f 4 - 1 else if j = 5 then 0 else if 61 + 5 * k ≤ j ∧ j < 56 + 5 * (f 4).toNatClampNeg then f (j + 5) else f j
-- arithmetic
theorem i_add {a b : Int32} (h1 : -2147483648 ≤ a.toInt + b.toInt) (h2 : a.toInt + b.toInt < 2147483648) : (a + b).toInt = a.toInt + b.toInt := by
  rw [Int32.toInt_add]
  exact Int.bmod_eq_of_le h1 h2
theorem i_sub {a b : Int32} (h1 : -2147483648 ≤ a.toInt - b.toInt) (h2 : a.toInt - b.toInt < 2147483648) : (a - b).toInt = a.toInt - b.toInt := by
  rw [Int32.toInt_sub]
  exact Int.bmod_eq_of_le h1 h2
theorem i_mul {a b : Int32} (h1 : -2147483648 ≤ a.toInt * b.toInt) (h2 : a.toInt * b.toInt < 2147483648) : (a * b).toInt = a.toInt * b.toInt := by
  rw [Int32.toInt_mul]
  exact Int.bmod_eq_of_le h1 h2
theorem i_neg {a : Int32} (h1 : -2147483648 < a.toInt) : (-a).toInt = -a.toInt := by
  have := a.toInt_lt
  rw [Int32.toInt_neg]
  exact Int.bmod_eq_of_le (by omega) (by omega)
theorem i_div {a b : Int32} (h : b ≠ -1) : (a / b).toInt = a.toInt.tdiv b.toInt := Int32.toInt_div_of_ne_right a b h
theorem i_div4 {a : Int32} (h : 0 ≤ a.toInt) : (a / 4).toInt = a.toInt / 4 := by
  rw [i_div (by decide)]
  exact Int.tdiv_eq_ediv_of_nonneg h
theorem i_div20 {a : Int32} (h : 0 ≤ a.toInt) : (a / 20).toInt = a.toInt / 20 := by
  rw [i_div (by decide)]
  exact Int.tdiv_eq_ediv_of_nonneg h
theorem i_nlt {x y : Int32} (h : y ≤ x) : ¬ x < y := by rw [Int32.le_iff_toInt_le] at h; rw [Int32.lt_iff_toInt_lt]; omega
theorem i_lt {x y : Int32} (h : ¬ y ≤ x) : x < y := by rw [Int32.le_iff_toInt_le] at h; rw [Int32.lt_iff_toInt_lt]; omega
theorem i_nle {x y : Int32} (h : x < y) : ¬ y ≤ x := by rw [Int32.lt_iff_toInt_lt] at h; rw [Int32.le_iff_toInt_le]; omega
theorem i_le {x y : Int32} (h : ¬ x < y) : y ≤ x := by rw [Int32.lt_iff_toInt_lt] at h; rw [Int32.le_iff_toInt_le]; omega
theorem i_nn {c : Prop} [Decidable c] (h : ¬ ¬ c) : c := Decidable.not_not.mp h
theorem iabs_eq (x : Int32) : (if 0 ≤ x then x else 0 - x) = iabs x := by
  unfold iabs
  by_cases h : x < 0
  · rw [if_pos h, if_neg (i_nle h), Int32.zero_sub]
  · rw [if_neg h, if_pos (i_le h)]
theorem uu {C : Nat → va_E} {h : Nat} {e e' : va_E} : va_up (va_up C h e) h e' = va_up C h e' := funext up_self
theorem up_id {C : Nat → va_E} {h : Nat} {e : va_E} (hC : C h = e) : C = va_up C h e := by
  funext j
  by_cases q : j = h
  · subst q; rw [va_up_self]; exact hC
  · rw [va_up_ne _ _ q]
/-- what a landing's step needs to be the same in both programs -/
def okL (f : Nat → Int32) : Prop := 0 ≤ (f 7).toInt ∧ (f 7).toInt ≤ 99 ∧ 0 ≤ (f 2).toInt ∧ (f 2).toInt ≤ 20 ∧ -1000000000 ≤ (f 8).toInt ∧ (f 8).toInt ≤ 1000000000
theorem slow_eq {v d : Int32} (h1 : 0 ≤ v.toInt) (h2 : v.toInt ≤ 99) (h3 : 0 ≤ d.toInt) (h4 : d.toInt ≤ 20) : (if 0 < v - d then v - d else 0) = slow v d := by
  unfold slow
  have e : (v - d).toInt = v.toInt - d.toInt := i_sub (by omega) (by omega)
  have z : (0 : Int32).toInt = 0 := rfl
  by_cases h : v < d
  · have h' := Int32.lt_iff_toInt_lt.mp h
    rw [if_pos h, if_neg (by rw [Int32.lt_iff_toInt_lt, e, z]; omega)]
  · have h' := h
    rw [Int32.lt_iff_toInt_lt] at h'
    rw [if_neg h]
    by_cases k : 0 < v - d
    · rw [if_pos k]
    · rw [if_neg k]
      rw [Int32.lt_iff_toInt_lt, e, z] at k
      apply Int32.toInt_inj.mp
      rw [e, z]
      omega
theorem slow_in {v d : Int32} (h1 : 0 ≤ v.toInt) (h2 : v.toInt ≤ 99) (h3 : 0 ≤ d.toInt) (h4 : d.toInt ≤ 20) : 0 ≤ (slow v d).toInt ∧ (slow v d).toInt ≤ 99 := by
  unfold slow
  have e : (v - d).toInt = v.toInt - d.toInt := i_sub (by omega) (by omega)
  have z : (0 : Int32).toInt = 0 := rfl
  by_cases h : v < d
  · rw [if_pos h, z]; omega
  · have h' := h
    rw [Int32.lt_iff_toInt_lt] at h'
    rw [if_neg h, e]
    omega
theorem iabs_in {x : Int32} (h : -1000000000 ≤ x.toInt) : (iabs x).toInt = (if x.toInt < 0 then -x.toInt else x.toInt) := by
  unfold iabs
  have z : (0 : Int32).toInt = 0 := rfl
  by_cases k : x < 0
  · have k' := Int32.lt_iff_toInt_lt.mp k
    rw [z] at k'
    rw [if_pos k, if_pos k', i_neg (by omega)]
  · have k' := k
    rw [Int32.lt_iff_toInt_lt, z] at k'
    rw [if_neg k, if_neg k']
/-- the class: toward 0, by max or min -/
theorem nearer_eq {x d : Int32} (h1 : -1000000000 ≤ x.toInt) (h2 : x.toInt ≤ 1000000000) (h3 : 0 ≤ d.toInt) (h4 : d.toInt ≤ 99) :
    (0 < x → (if 0 < x - d then x - d else 0) = nearer x d) ∧ (¬ 0 < x → (if x + d < 0 then x + d else 0) = nearer x d) := by
  have z : (0 : Int32).toInt = 0 := rfl
  have ea := iabs_in h1
  have e1 : (x - d).toInt = x.toInt - d.toInt := i_sub (by omega) (by omega)
  have e2 : (x + d).toInt = x.toInt + d.toInt := i_add (by omega) (by omega)
  unfold nearer
  refine ⟨fun h => ?_, fun h => ?_⟩
  · rw [Int32.lt_iff_toInt_lt, z] at h
    have hn : ¬ x < 0 := by rw [Int32.lt_iff_toInt_lt, z]; omega
    rw [if_neg (by omega)] at ea
    rw [if_neg hn]
    have ex : iabs x = x := Int32.toInt_inj.mp ea
    rw [ex]
    by_cases k : d < x
    · have k' := Int32.lt_iff_toInt_lt.mp k
      rw [if_pos k, if_pos (by rw [Int32.lt_iff_toInt_lt, e1, z]; omega)]
    · have k' := k
      rw [Int32.lt_iff_toInt_lt] at k'
      rw [if_neg k, if_neg (by rw [Int32.lt_iff_toInt_lt, e1, z]; omega)]
      apply Int32.toInt_inj.mp
      rw [i_sub (by omega) (by omega), z]
      omega
  · rw [Int32.lt_iff_toInt_lt, z] at h
    by_cases hn : x < 0
    · have hn' := Int32.lt_iff_toInt_lt.mp hn
      rw [z] at hn'
      rw [if_pos (by omega)] at ea
      rw [if_pos hn]
      by_cases k : d < iabs x
      · have k' := Int32.lt_iff_toInt_lt.mp k
        rw [if_pos k, if_pos (by rw [Int32.lt_iff_toInt_lt, e2, z]; omega)]
      · have k' := k
        rw [Int32.lt_iff_toInt_lt] at k'
        rw [if_neg k, if_neg (by rw [Int32.lt_iff_toInt_lt, e2, z]; omega)]
        apply Int32.toInt_inj.mp
        rw [i_add (by omega) (by omega), z, ea]
        omega
    · have hn' := hn
      rw [Int32.lt_iff_toInt_lt, z] at hn'
      have x0 : x = 0 := Int32.toInt_inj.mp (by rw [z]; omega)
      subst x0
      rw [if_neg hn, if_neg (by rw [Int32.lt_iff_toInt_lt, e2, z]; omega)]
      have a0 : iabs 0 = 0 := rfl
      rw [a0, if_neg (by rw [Int32.lt_iff_toInt_lt, z]; omega)]
      rfl
theorem nearer_in {x d : Int32} (h1 : -1000000000 ≤ x.toInt) (h2 : x.toInt ≤ 1000000000) (h3 : 0 ≤ d.toInt) (h4 : d.toInt ≤ 99) :
    (0 ≤ x.toInt → 0 ≤ (nearer x d).toInt ∧ (nearer x d).toInt ≤ x.toInt) ∧ (x.toInt < 0 → x.toInt ≤ (nearer x d).toInt ∧ (nearer x d).toInt ≤ 0) := by
  have z : (0 : Int32).toInt = 0 := rfl
  have e1 : (x - d).toInt = x.toInt - d.toInt := i_sub (by omega) (by omega)
  have e2 : (x + d).toInt = x.toInt + d.toInt := i_add (by omega) (by omega)
  obtain ⟨n1, n2⟩ := nearer_eq h1 h2 h3 h4
  by_cases h : 0 < x
  · have h' := Int32.lt_iff_toInt_lt.mp h
    rw [z] at h'
    rw [← n1 h]
    by_cases k : 0 < x - d
    · have k' := Int32.lt_iff_toInt_lt.mp k
      rw [z, e1] at k'
      rw [if_pos k, e1]; omega
    · rw [if_neg k, z]; omega
  · have h' := h
    rw [Int32.lt_iff_toInt_lt, z] at h'
    rw [← n2 h]
    by_cases k : x + d < 0
    · have k' := Int32.lt_iff_toInt_lt.mp k
      rw [z, e2] at k'
      rw [if_pos k, e2]; omega
    · rw [if_neg k, z]; omega
theorem okL_land {f : Nat → Int32} (h : okL f) : okL (T_land1 f) := by
  obtain ⟨a1, a2, a3, a4, a5, a6⟩ := h
  have hs := slow_in a1 a2 a3 a4
  have hd : (slow (f 7) (f 2) / 20).toInt = (slow (f 7) (f 2)).toInt / 20 := i_div20 hs.1
  have hn := nearer_in a5 a6 (d := slow (f 7) (f 2) / 20) (by omega) (by omega)
  refine ⟨hs.1, hs.2, a3, a4, ?_, ?_⟩
  · show -1000000000 ≤ (nearer (f 8) (slow (f 7) (f 2) / 20)).toInt
    by_cases k : 0 ≤ (f 8).toInt
    · have := hn.1 k; omega
    · have := hn.2 (by omega); omega
  · show (nearer (f 8) (slow (f 7) (f 2) / 20)).toInt ≤ 1000000000
    by_cases k : 0 ≤ (f 8).toInt
    · have := hn.1 k; omega
    · have := hn.2 (by omega); omega
theorem b_t {r : Int32} {c : Prop} [Decidable c] (h : r = if c then 1 else 0) (k : ¬ r = 0) : c := by
  by_cases q : c
  · exact q
  · rw [if_neg q] at h; exact absurd h k
theorem b_f {r : Int32} {c : Prop} [Decidable c] (h : r = if c then 1 else 0) (k : r = 0) : ¬ c := by
  intro q
  rw [if_pos q, k] at h
  exact absurd h (by decide)
theorem lc_out {x : Int32} {k : Nat} (h : x ≤ nI k) (hk : k ≤ x.toNatClampNeg) : k = x.toNatClampNeg := by
  have h1 := x.toNatClampNeg_lt
  have h2 : (nI k).toInt = k := nI_toInt (Nat.lt_of_le_of_lt hk h1)
  rw [Int32.le_iff_toInt_le, h2] at h
  have h3 : x.toNatClampNeg = x.toInt.toNat := rfl
  omega
theorem lc_in {x : Int32} {k : Nat} (h : ¬ x ≤ nI k) (hk : k ≤ x.toNatClampNeg) : k < x.toNatClampNeg := by
  have h1 := x.toNatClampNeg_lt
  have h2 : (nI k).toInt = k := nI_toInt (Nat.lt_of_le_of_lt hk h1)
  rw [Int32.le_iff_toInt_le, h2] at h
  have h3 : x.toNatClampNeg = x.toInt.toNat := rfl
  omega
theorem okL_r {f : Nat → Int32} (h : okL f) : 0 ≤ (slow (f 7) (f 2) / 20).toInt ∧ (slow (f 7) (f 2) / 20).toInt ≤ 99 := by
  have hs := slow_in h.1 h.2.1 h.2.2.1 h.2.2.2.1
  have hd : (slow (f 7) (f 2) / 20).toInt = (slow (f 7) (f 2)).toInt / 20 := i_div20 hs.1
  omega
theorem okL_s {f : Nat → Int32} (h : okL f) : (if 0 < f 7 - f 2 then f 7 - f 2 else 0) = slow (f 7) (f 2) := slow_eq h.1 h.2.1 h.2.2.1 h.2.2.2.1
theorem T_lands_s (n k : Nat) (f1 f : Nat → Int32) (h : T_lands (n - k) f1 = T_lands n f) (hk : k < n) : T_lands (n - (k + 1)) (T_land1 f1) = T_lands n f := by
  rw [← h, show n - k = n - (k + 1) + 1 by omega]
  rfl
theorem T_lands_e (n k : Nat) (f1 f : Nat → Int32) (h : T_lands (n - k) f1 = T_lands n f) (hk : k = n) : f1 = T_lands n f := by
  rw [← h, hk, Nat.sub_self]
  rfl

