/-! A step of a run: what it leaves, and within what it stays. -/
theorem upd_s {f : Nat → Int32} {k : Nat} {x : Int32} : upd f k x k = x := by simp [upd]
theorem upd_n {f : Nat → Int32} {k : Nat} {x : Int32} {j : Nat} (h : j ≠ k) : upd f k x j = f j := by simp [upd, h]
/-- the settings, the number of parts, the parts' values -/
def okS (f : Nat → Int32) : Prop :=
  (10 ≤ (f 0).toInt ∧ (f 0).toInt ≤ 99) ∧ (0 ≤ (f 1).toInt ∧ (f 1).toInt ≤ 20) ∧ (0 ≤ (f 2).toInt ∧ (f 2).toInt ≤ 20) ∧ (1 ≤ (f 3).toInt ∧ (f 3).toInt ≤ 30) ∧ (0 ≤ (f 4).toInt ∧ (f 4).toInt ≤ 20) ∧
  ∀ k, k < 20 → 0 ≤ (f (62 + 5 * k)).toInt ∧ (f (62 + 5 * k)).toInt ≤ 99
/-- a hoop in its run -/
def okH (B : Int) (f : Nat → Int32) : Prop :=
  (0 ≤ (f 7).toInt ∧ (f 7).toInt ≤ 99) ∧ (-B ≤ (f 8).toInt ∧ (f 8).toInt ≤ B) ∧ (0 ≤ (f 9).toInt ∧ (f 9).toInt ≤ 99) ∧ (0 ≤ (f 10).toInt ∧ (f 10).toInt ≤ (f 4).toInt) ∧ (0 ≤ (f 11).toInt ∧ (f 11).toInt ≤ 4)
theorem mn99_in {x : Int32} (h : 0 ≤ x.toInt) : 0 ≤ (mn99 x).toInt ∧ (mn99 x).toInt ≤ 99 := by
  unfold mn99
  by_cases k : x < 99
  · have k' := Int32.lt_iff_toInt_lt.mp k
    have e : (99 : Int32).toInt = 99 := rfl
    rw [if_pos k]; omega
  · rw [if_neg k]
    exact ⟨by decide, by decide⟩
theorem T_drop_fr {h : Int32} {f : Nat → Int32} {j : Nat} (h7 : j ≠ 7) (h8 : j ≠ 8) (h9 : j ≠ 9) : T_drop h f j = f j := by
  unfold T_drop
  rw [upd_n h8, upd_n h9, upd_n h7]
theorem T_land1_fr {f : Nat → Int32} {j : Nat} (h7 : j ≠ 7) (h8 : j ≠ 8) (h9 : j ≠ 9) : T_land1 f j = f j := by
  unfold T_land1
  rw [upd_n h8, upd_n h9, upd_n h7]
theorem T_lands_fr (n : Nat) : ∀ {f : Nat → Int32} {j : Nat}, j ≠ 7 → j ≠ 8 → j ≠ 9 → T_lands n f j = f j := by
  induction n with
  | zero => intro f j _ _ _; rfl
  | succ n ih =>
    intro f j h7 h8 h9
    show T_lands n (T_land1 f) j = f j
    rw [ih h7 h8 h9, T_land1_fr h7 h8 h9]
theorem T_meet_fr {k : Nat} {f : Nat → Int32} {j : Nat} (h7 : j ≠ 7) (h8 : j ≠ 8) (h9 : j ≠ 9) : (T_meet k f).1 j = f j := by
  unfold T_meet
  by_cases a : kindAt f k = 0
  · rw [if_pos a]; exact T_drop_fr h7 h8 h9
  · rw [if_neg a]
    by_cases b : kindAt f k = 1
    · rw [if_pos b]; exact T_lands_fr _ h7 h8 h9
    · rw [if_neg b]
theorem T_meet_how (k : Nat) (f : Nat → Int32) : (T_meet k f).2 = 0 ∨ (T_meet k f).2 = 2 ∨ (T_meet k f).2 = 3 := by
  unfold T_meet
  by_cases a : kindAt f k = 0
  · rw [if_pos a]; exact Or.inl rfl
  · rw [if_neg a]
    by_cases b : kindAt f k = 1
    · rw [if_pos b]
      by_cases d : T_lands (valAt f k).toNatClampNeg f 7 = 0
      · show (if T_lands (valAt f k).toNatClampNeg f 7 = 0 then (3 : Int32) else 0) = 0 ∨ _
        rw [if_pos d]; exact Or.inr (Or.inr rfl)
      · show (if T_lands (valAt f k).toNatClampNeg f 7 = 0 then (3 : Int32) else 0) = 0 ∨ _
        rw [if_neg d]; exact Or.inl rfl
    · rw [if_neg b]
      by_cases d : valAt f k < f 6 + f 9 / 4
      · show (if valAt f k < f 6 + f 9 / 4 then (2 : Int32) else 0) = 0 ∨ _
        rw [if_pos d]; exact Or.inr (Or.inl rfl)
      · show (if valAt f k < f 6 + f 9 / 4 then (2 : Int32) else 0) = 0 ∨ _
        rw [if_neg d]; exact Or.inl rfl
theorem T_pass_fr {k : Nat} {f : Nat → Int32} {g : Int32} {j : Nat} (h7 : j ≠ 7) (h8 : j ≠ 8) (h9 : j ≠ 9) (h10 : j ≠ 10) : (T_pass k f g).1 j = f j := by
  unfold T_pass
  by_cases a : (T_meet k f).2 = 0
  · rw [if_pos a]
    by_cases b : f 0 ≤ iabs ((T_meet k f).1 8)
    · rw [if_pos b]; exact T_meet_fr h7 h8 h9
    · rw [if_neg b]
      show upd (T_meet k f).1 10 (f 10 + 1) j = f j
      rw [upd_n h10]; exact T_meet_fr h7 h8 h9
  · rw [if_neg a]; exact T_meet_fr h7 h8 h9
theorem T_step_fr {f : Nat → Int32} {g : Int32} {j : Nat} (h7 : j ≠ 7) (h8 : j ≠ 8) (h9 : j ≠ 9) (h10 : j ≠ 10) (h11 : j ≠ 11) : (T_step f g).1 j = f j := by
  unfold T_step
  by_cases a : f 10 < f 4
  · rw [if_pos a]
    by_cases b : (T_pass (f 10).toNatClampNeg f g).2.2 = 0
    · rw [if_pos b]
      by_cases d : f 10 + 1 < f 4
      · rw [if_pos d]; exact T_pass_fr h7 h8 h9 h10
      · rw [if_neg d]
        show upd _ 11 4 j = f j
        rw [upd_n h11]; exact T_pass_fr h7 h8 h9 h10
    · rw [if_neg b]
      show upd _ 11 _ j = f j
      rw [upd_n h11]; exact T_pass_fr h7 h8 h9 h10
  · rw [if_neg a]
    show upd f 11 4 j = f j
    rw [upd_n h11]
theorem okH_okL {B : Int} {f : Nat → Int32} (hB : B ≤ 1000000000) (hs : okS f) (h : okH B f) : okL f := by
  obtain ⟨a1, a2, a3, a4, a5⟩ := h
  obtain ⟨s0, s1, s2, s3, s4, s5⟩ := hs
  exact ⟨a1.1, a1.2, s2.1, s2.2, by omega, by omega⟩
/-- a landing keeps speed, lean and wobble within what they were -/
theorem land1_in {f : Nat → Int32} (h : okL f) (h9 : 0 ≤ (f 9).toInt ∧ (f 9).toInt ≤ 99) :
    (0 ≤ (T_land1 f 7).toInt ∧ (T_land1 f 7).toInt ≤ 99) ∧ (0 ≤ (T_land1 f 9).toInt ∧ (T_land1 f 9).toInt ≤ 99) ∧
    (0 ≤ (f 8).toInt → 0 ≤ (T_land1 f 8).toInt ∧ (T_land1 f 8).toInt ≤ (f 8).toInt) ∧ ((f 8).toInt < 0 → (f 8).toInt ≤ (T_land1 f 8).toInt ∧ (T_land1 f 8).toInt ≤ 0) := by
  have hs := slow_in h.1 h.2.1 h.2.2.1 h.2.2.2.1
  have hr := okL_r h
  have e7 : T_land1 f 7 = slow (f 7) (f 2) := by unfold T_land1; rw [upd_n (by decide), upd_n (by decide), upd_s]
  have e9 : T_land1 f 9 = f 9 - f 9 / 4 := by unfold T_land1; rw [upd_n (by decide), upd_s]
  have e8 : T_land1 f 8 = nearer (f 8) (slow (f 7) (f 2) / 20) := by unfold T_land1; rw [upd_s]
  have hn := nearer_in h.2.2.2.2.1 h.2.2.2.2.2 hr.1 hr.2
  have d4 : (f 9 / 4).toInt = (f 9).toInt / 4 := i_div4 h9.1
  have s9 : (f 9 - f 9 / 4).toInt = (f 9).toInt - (f 9 / 4).toInt := i_sub (by omega) (by omega)
  rw [e7, e8, e9]
  refine ⟨hs, ?_, hn⟩
  omega
theorem lands_in (n : Nat) : ∀ {B : Int} {f : Nat → Int32}, okL f → (0 ≤ (f 9).toInt ∧ (f 9).toInt ≤ 99) → (-B ≤ (f 8).toInt ∧ (f 8).toInt ≤ B) →
    (0 ≤ (T_lands n f 7).toInt ∧ (T_lands n f 7).toInt ≤ 99) ∧ (0 ≤ (T_lands n f 9).toInt ∧ (T_lands n f 9).toInt ≤ 99) ∧ (-B ≤ (T_lands n f 8).toInt ∧ (T_lands n f 8).toInt ≤ B) := by
  induction n with
  | zero => intro B f h h9 h8; exact ⟨⟨h.1, h.2.1⟩, h9, h8⟩
  | succ n ih =>
    intro B f h h9 h8
    have q := land1_in h h9
    exact ih (okL_land h) q.2.1 (by
      by_cases k : 0 ≤ (f 8).toInt
      · have := q.2.2.1 k; omega
      · have := q.2.2.2 (by omega); omega)
theorem i_mul4 {x : Int32} (h1 : 0 ≤ x.toInt) (h2 : x.toInt ≤ 99) : (x * 4).toInt = x.toInt * 4 := by
  have e : (4 : Int32).toInt = 4 := rfl
  have h := i_mul (a := x) (b := 4) (by rw [e]; omega) (by rw [e]; omega)
  rw [h, e]
theorem i_mulN {x y : Int32} (h1 : 0 ≤ x.toInt) (h2 : x.toInt ≤ 20) (h3 : 0 ≤ y.toInt) (h4 : y.toInt ≤ 99) : (x * y).toInt = x.toInt * y.toInt ∧ 0 ≤ x.toInt * y.toInt ∧ x.toInt * y.toInt ≤ 1980 := by
  have a1 : 0 ≤ x.toInt * y.toInt := Int.mul_nonneg h1 h3
  have a2 : x.toInt * y.toInt ≤ 20 * 99 := Int.mul_le_mul h2 h4 h3 (by omega)
  exact ⟨i_mul (by omega) (by omega), a1, by omega⟩
theorem drop_in {B : Int} {v : Int32} {f : Nat → Int32} (hB : B ≤ 1000000000) (hs : okS f) (h : okH B f) (hv : 0 ≤ v.toInt ∧ v.toInt ≤ 99) :
    (0 ≤ (T_drop v f 7).toInt ∧ (T_drop v f 7).toInt ≤ 99) ∧ (0 ≤ (T_drop v f 9).toInt ∧ (T_drop v f 9).toInt ≤ 99) ∧ (-(B + 25) ≤ (T_drop v f 8).toInt ∧ (T_drop v f 8).toInt ≤ B + 25) := by
  obtain ⟨a1, a2, a3, a4, a5⟩ := h
  obtain ⟨s0, s1, s2, s3, s4, s5⟩ := hs
  have e7 : T_drop v f 7 = mn99 (f 7 + v * 4) := by unfold T_drop; rw [upd_n (by decide), upd_n (by decide), upd_s]
  have e9 : T_drop v f 9 = mn99 (f 9 + f 1 * v) := by unfold T_drop; rw [upd_n (by decide), upd_s]
  have e8 : T_drop v f 8 = f 8 + (if f 10 - f 10 / 2 * 2 = 0 then mn99 (f 9 + f 1 * v) / 4 else -(mn99 (f 9 + f 1 * v) / 4)) := by unfold T_drop; rw [upd_s]
  have m4 := i_mul4 hv.1 hv.2
  obtain ⟨m1, m2, m3⟩ := i_mulN s1.1 s1.2 hv.1 hv.2
  have p7 : (f 7 + v * 4).toInt = (f 7).toInt + (v * 4).toInt := i_add (by omega) (by omega)
  have p9 : (f 9 + f 1 * v).toInt = (f 9).toInt + (f 1 * v).toInt := i_add (by omega) (by omega)
  have q7 := mn99_in (x := f 7 + v * 4) (by omega)
  have q9 := mn99_in (x := f 9 + f 1 * v) (by omega)
  have d4 : (mn99 (f 9 + f 1 * v) / 4).toInt = (mn99 (f 9 + f 1 * v)).toInt / 4 := i_div4 q9.1
  have n4 : (-(mn99 (f 9 + f 1 * v) / 4)).toInt = -(mn99 (f 9 + f 1 * v) / 4).toInt := i_neg (by omega)
  rw [e7, e8, e9]
  refine ⟨q7, q9, ?_⟩
  by_cases c : f 10 - f 10 / 2 * 2 = 0
  · rw [if_pos c, i_add (by omega) (by omega)]; omega
  · rw [if_neg c, i_add (by omega) (by omega)]; omega
theorem meet_in {B : Int} {k : Nat} {f : Nat → Int32} (hB : B ≤ 1000000000) (hs : okS f) (h : okH B f) (hk : k < 20) (h11 : f 11 = 0) :
    (0 ≤ ((T_meet k f).1 7).toInt ∧ ((T_meet k f).1 7).toInt ≤ 99) ∧ (0 ≤ ((T_meet k f).1 9).toInt ∧ ((T_meet k f).1 9).toInt ≤ 99) ∧ (-(B + 25) ≤ ((T_meet k f).1 8).toInt ∧ ((T_meet k f).1 8).toInt ≤ B + 25) := by
  unfold T_meet
  by_cases a : kindAt f k = 0
  · rw [if_pos a]; exact drop_in hB hs h (hs.2.2.2.2.2 k hk)
  · rw [if_neg a]
    by_cases b : kindAt f k = 1
    · rw [if_pos b]
      have q := lands_in (valAt f k).toNatClampNeg (okH_okL hB hs h) h.2.2.1 h.2.1
      refine ⟨q.1, q.2.1, ?_⟩
      have := q.2.2
      show -(B + 25) ≤ (T_lands (valAt f k).toNatClampNeg f 8).toInt ∧ (T_lands (valAt f k).toNatClampNeg f 8).toInt ≤ B + 25
      omega
    · rw [if_neg b]
      exact ⟨h.1, h.2.2.1, by have := h.2.1; show -(B + 25) ≤ (f 8).toInt ∧ (f 8).toInt ≤ B + 25; omega⟩
theorem nI_rd {x : Int32} {M : Nat} (h1 : 0 ≤ x.toInt) (h2 : x.toInt ≤ M) : x = nI x.toNatClampNeg ∧ x.toNatClampNeg ≤ M ∧ (x.toNatClampNeg : Int) = x.toInt := by
  have h3 : x.toNatClampNeg = x.toInt.toNat := rfl
  have h4 := x.toInt_lt
  have h5 : (x.toNatClampNeg : Int) = x.toInt := by omega
  refine ⟨Int32.toInt_inj.mp ?_, by omega, h5⟩
  rw [nI_toInt (by omega)]
  omega
theorem okH_step {B : Int} {f : Nat → Int32} {g : Int32} (hB : B ≤ 900000000) (hs : okS f) (h : okH B f) (h11 : f 11 = 0) : okH (B + 25) (T_step f g).1 := by
  obtain ⟨s0, s1, s2, s3, s4, s5⟩ := hs
  have hs : okS f := ⟨s0, s1, s2, s3, s4, s5⟩
  obtain ⟨a1, a2, a3, a4, a5⟩ := id h
  have z : (0 : Int32).toInt = 0 := rfl
  have f4 : ∀ {j}, j ≠ 7 → j ≠ 8 → j ≠ 9 → j ≠ 10 → j ≠ 11 → (T_step f g).1 j = f j := fun p q r t u => T_step_fr p q r t u
  unfold T_step
  by_cases a : f 10 < f 4
  · rw [if_pos a]
    have a' := Int32.lt_iff_toInt_lt.mp a
    obtain ⟨e10, l10, i10⟩ := nI_rd (x := f 10) (M := 20) a4.1 (by omega)
    generalize hk : (f 10).toNatClampNeg = k at e10 l10 i10
    have hk20 : k < 20 := by omega
    have m := meet_in (by omega) hs h hk20 h11
    have m10 : (T_meet k f).1 10 = f 10 := T_meet_fr (by decide) (by decide) (by decide)
    have m4 : (T_meet k f).1 4 = f 4 := T_meet_fr (by decide) (by decide) (by decide)
    have m11 : (T_meet k f).1 11 = f 11 := T_meet_fr (by decide) (by decide) (by decide)
    have p1 : (f 10 + 1).toInt = (f 10).toInt + 1 := i_add (by rw [show (1 : Int32).toInt = 1 from rfl]; omega) (by rw [show (1 : Int32).toInt = 1 from rfl]; omega)
    -- what T_pass leaves
    unfold T_pass
    by_cases b : (T_meet k f).2 = 0
    · rw [if_pos b]
      by_cases d : f 0 ≤ iabs ((T_meet k f).1 8)
      · rw [if_pos d]
        rw [if_neg (show ¬ (1 : Int32) = 0 by decide)]
        refine ⟨?_, ?_, ?_, ?_, ?_⟩
        · show 0 ≤ (upd (T_meet k f).1 11 1 7).toInt ∧ (upd (T_meet k f).1 11 1 7).toInt ≤ 99
          rw [upd_n (by decide)]; exact m.1
        · show _ ≤ (upd (T_meet k f).1 11 1 8).toInt ∧ (upd (T_meet k f).1 11 1 8).toInt ≤ _
          rw [upd_n (by decide)]; exact m.2.2
        · show 0 ≤ (upd (T_meet k f).1 11 1 9).toInt ∧ (upd (T_meet k f).1 11 1 9).toInt ≤ 99
          rw [upd_n (by decide)]; exact m.2.1
        · show 0 ≤ (upd (T_meet k f).1 11 1 10).toInt ∧ (upd (T_meet k f).1 11 1 10).toInt ≤ (upd (T_meet k f).1 11 1 4).toInt
          rw [upd_n (by decide), upd_n (by decide), m10, m4]; exact a4
        · show 0 ≤ (upd (T_meet k f).1 11 1 11).toInt ∧ (upd (T_meet k f).1 11 1 11).toInt ≤ 4
          rw [upd_s]; exact ⟨by decide, by decide⟩
      · rw [if_neg d]
        rw [if_pos (show (0 : Int32) = 0 from rfl)]
        by_cases q : f 10 + 1 < f 4
        · rw [if_pos q]
          have q' := Int32.lt_iff_toInt_lt.mp q
          refine ⟨?_, ?_, ?_, ?_, ?_⟩
          · show 0 ≤ (upd (T_meet k f).1 10 (f 10 + 1) 7).toInt ∧ (upd (T_meet k f).1 10 (f 10 + 1) 7).toInt ≤ 99
            rw [upd_n (by decide)]; exact m.1
          · show _ ≤ (upd (T_meet k f).1 10 (f 10 + 1) 8).toInt ∧ (upd (T_meet k f).1 10 (f 10 + 1) 8).toInt ≤ _
            rw [upd_n (by decide)]; exact m.2.2
          · show 0 ≤ (upd (T_meet k f).1 10 (f 10 + 1) 9).toInt ∧ (upd (T_meet k f).1 10 (f 10 + 1) 9).toInt ≤ 99
            rw [upd_n (by decide)]; exact m.2.1
          · show 0 ≤ (upd (T_meet k f).1 10 (f 10 + 1) 10).toInt ∧ (upd (T_meet k f).1 10 (f 10 + 1) 10).toInt ≤ (upd (T_meet k f).1 10 (f 10 + 1) 4).toInt
            rw [upd_s, upd_n (by decide), m4, p1]; omega
          · show 0 ≤ (upd (T_meet k f).1 10 (f 10 + 1) 11).toInt ∧ (upd (T_meet k f).1 10 (f 10 + 1) 11).toInt ≤ 4
            rw [upd_n (by decide), m11]; exact a5
        · rw [if_neg q]
          rw [Int32.lt_iff_toInt_lt] at q
          refine ⟨?_, ?_, ?_, ?_, ?_⟩
          · show 0 ≤ (upd (upd (T_meet k f).1 10 (f 10 + 1)) 11 4 7).toInt ∧ (upd (upd (T_meet k f).1 10 (f 10 + 1)) 11 4 7).toInt ≤ 99
            rw [upd_n (by decide), upd_n (by decide)]; exact m.1
          · show _ ≤ (upd (upd (T_meet k f).1 10 (f 10 + 1)) 11 4 8).toInt ∧ (upd (upd (T_meet k f).1 10 (f 10 + 1)) 11 4 8).toInt ≤ _
            rw [upd_n (by decide), upd_n (by decide)]; exact m.2.2
          · show 0 ≤ (upd (upd (T_meet k f).1 10 (f 10 + 1)) 11 4 9).toInt ∧ (upd (upd (T_meet k f).1 10 (f 10 + 1)) 11 4 9).toInt ≤ 99
            rw [upd_n (by decide), upd_n (by decide)]; exact m.2.1
          · show 0 ≤ (upd (upd (T_meet k f).1 10 (f 10 + 1)) 11 4 10).toInt ∧ (upd (upd (T_meet k f).1 10 (f 10 + 1)) 11 4 10).toInt ≤ (upd (upd (T_meet k f).1 10 (f 10 + 1)) 11 4 4).toInt
            rw [upd_n (by decide), upd_s, upd_n (by decide), upd_n (by decide), m4, p1]; omega
          · show 0 ≤ (upd (upd (T_meet k f).1 10 (f 10 + 1)) 11 4 11).toInt ∧ (upd (upd (T_meet k f).1 10 (f 10 + 1)) 11 4 11).toInt ≤ 4
            rw [upd_s]; exact ⟨by decide, by decide⟩
    · rw [if_neg b]
      rw [if_neg b]
      refine ⟨?_, ?_, ?_, ?_, ?_⟩
      · show 0 ≤ (upd (T_meet k f).1 11 (T_meet k f).2 7).toInt ∧ (upd (T_meet k f).1 11 (T_meet k f).2 7).toInt ≤ 99
        rw [upd_n (by decide)]; exact m.1
      · show _ ≤ (upd (T_meet k f).1 11 (T_meet k f).2 8).toInt ∧ (upd (T_meet k f).1 11 (T_meet k f).2 8).toInt ≤ _
        rw [upd_n (by decide)]; exact m.2.2
      · show 0 ≤ (upd (T_meet k f).1 11 (T_meet k f).2 9).toInt ∧ (upd (T_meet k f).1 11 (T_meet k f).2 9).toInt ≤ 99
        rw [upd_n (by decide)]; exact m.2.1
      · show 0 ≤ (upd (T_meet k f).1 11 (T_meet k f).2 10).toInt ∧ (upd (T_meet k f).1 11 (T_meet k f).2 10).toInt ≤ (upd (T_meet k f).1 11 (T_meet k f).2 4).toInt
        rw [upd_n (by decide), upd_n (by decide), m10, m4]; exact a4
      · show 0 ≤ (upd (T_meet k f).1 11 (T_meet k f).2 11).toInt ∧ (upd (T_meet k f).1 11 (T_meet k f).2 11).toInt ≤ 4
        rw [upd_s]
        rcases T_meet_how k f with q | q | q
        · rw [q]; exact ⟨by decide, by decide⟩
        · rw [q]; exact ⟨by decide, by decide⟩
        · rw [q]; exact ⟨by decide, by decide⟩
  · rw [if_neg a]
    refine ⟨?_, ?_, ?_, ?_, ?_⟩
    · show 0 ≤ (upd f 11 4 7).toInt ∧ (upd f 11 4 7).toInt ≤ 99
      rw [upd_n (by decide)]; exact a1
    · show _ ≤ (upd f 11 4 8).toInt ∧ (upd f 11 4 8).toInt ≤ _
      rw [upd_n (by decide)]; omega
    · show 0 ≤ (upd f 11 4 9).toInt ∧ (upd f 11 4 9).toInt ≤ 99
      rw [upd_n (by decide)]; exact a3
    · show 0 ≤ (upd f 11 4 10).toInt ∧ (upd f 11 4 10).toInt ≤ (upd f 11 4 4).toInt
      rw [upd_n (by decide), upd_n (by decide)]; exact a4
    · show 0 ≤ (upd f 11 4 11).toInt ∧ (upd f 11 4 11).toInt ≤ 4
      rw [upd_s]; exact ⟨by decide, by decide⟩

