/-! HoopStairs$Pad -/
abbrev pdV (ad : Nat → Nat) (pb : Nat) (ln at_ lt nu : Int32) : va_E := .inr (2, [.ref (ad (pb + 1)), .int ln, .int at_, .int lt, .int nu])
/-- the text's sign at a, 0 behind its end -/
def chr_ (pd : Nat → Int32) (n a : Nat) : Int32 := if a < n then pd a else 0
abbrev isDg (x : Int32) : Prop := 48 ≤ x ∧ x ≤ 57
/-- a number at a: where it ends, and what it is -/
def N_end (pd : Nat → Int32) (n a : Nat) : Nat := if isDg (chr_ pd n a) then (if chr_ pd n a - 48 = 0 then a + 1 else if isDg (chr_ pd n (a + 1)) then a + 2 else a + 1) else a
def N_val (pd : Nat → Int32) (n a : Nat) : Int32 := if chr_ pd n a - 48 = 0 then chr_ pd n a - 48 else if isDg (chr_ pd n (a + 1)) then (chr_ pd n a - 48) * 10 + chr_ pd n (a + 1) - 48 else chr_ pd n a - 48
/-- an order at a: is it one, where does it end (or where is the fault), its number -/
abbrev P_ok (pd : Nat → Int32) (n a : Nat) : Prop := if chr_ pd n a = 33 then True else if chr_ pd n a = 60 then True else if chr_ pd n a = 62 then True else if chr_ pd n a = 100 then isDg (chr_ pd n (a + 1)) else if chr_ pd n a = 103 then isDg (chr_ pd n (a + 1)) else if chr_ pd n a = 104 then isDg (chr_ pd n (a + 1)) else if chr_ pd n a = 108 then isDg (chr_ pd n (a + 1)) else if chr_ pd n a = 114 then True else False
def P_end (pd : Nat → Int32) (n a : Nat) : Nat := if chr_ pd n a = 33 then a + 1 else if chr_ pd n a = 60 then a + 1 else if chr_ pd n a = 62 then a + 1 else if chr_ pd n a = 100 then (if isDg (chr_ pd n (a + 1)) then a + 2 else a + 1) else if chr_ pd n a = 103 then N_end pd n (a + 1) else if chr_ pd n a = 104 then N_end pd n (a + 1) else if chr_ pd n a = 108 then (if isDg (chr_ pd n (a + 1)) then a + 2 else a + 1) else if chr_ pd n a = 114 then (if isDg (chr_ pd n (a + 1)) then N_end pd n (a + 1) else a + 1) else a
def P_no (pd : Nat → Int32) (n a : Nat) : Int32 := if chr_ pd n a = 33 then 1 else if chr_ pd n a = 60 then 1 else if chr_ pd n a = 62 then 1 else if chr_ pd n a = 100 then chr_ pd n (a + 1) - 48 else if chr_ pd n a = 103 then N_val pd n (a + 1) else if chr_ pd n a = 104 then N_val pd n (a + 1) else if chr_ pd n a = 108 then chr_ pd n (a + 1) - 48 else if chr_ pd n a = 114 then (if isDg (chr_ pd n (a + 1)) then N_val pd n (a + 1) else 1) else 1
def F_fault (pd : Nat → Int32) (n : Nat) : Nat → Nat → Int32
  | 0, _ => -6
  | k + 1, a => if P_ok pd n a then (if P_end pd n a = n then -6 else if chr_ pd n (P_end pd n a) = 59 then F_fault pd n k (P_end pd n a + 1) else nI (P_end pd n a)) else nI (P_end pd n a)
theorem N_end_ge (pd : Nat → Int32) (n a : Nat) : a ≤ N_end pd n a := by
  unfold N_end
  by_cases h : isDg (chr_ pd n a)
  · rw [if_pos h]
    by_cases h2 : chr_ pd n a - 48 = 0
    · rw [if_pos h2]; omega
    · rw [if_neg h2]
      by_cases h3 : isDg (chr_ pd n (a + 1))
      · rw [if_pos h3]; omega
      · rw [if_neg h3]; omega
  · rw [if_neg h]; exact Nat.le_refl _
theorem chr_lt {pd : Nat → Int32} {n a : Nat} (h : ¬ chr_ pd n a = 0) : a < n := by
  unfold chr_ at h
  by_cases q : a < n
  · exact q
  · rw [if_neg q] at h; exact absurd rfl h
theorem dg_lt {pd : Nat → Int32} {n a : Nat} (h : isDg (chr_ pd n a)) : a < n := chr_lt (fun q => by rw [q] at h; exact absurd h.1 (by decide))
theorem N_end_le {pd : Nat → Int32} {n a : Nat} (h : a ≤ n) : N_end pd n a ≤ n := by
  unfold N_end
  by_cases h1 : isDg (chr_ pd n a)
  · have := dg_lt h1
    rw [if_pos h1]
    by_cases h2 : chr_ pd n a - 48 = 0
    · rw [if_pos h2]; omega
    · rw [if_neg h2]
      by_cases h3 : isDg (chr_ pd n (a + 1))
      · have := dg_lt h3
        rw [if_pos h3]; omega
      · rw [if_neg h3]; omega
  · rw [if_neg h1]; exact h
theorem P_ok_lt {pd : Nat → Int32} {n a : Nat} (h : P_ok pd n a) : a < n ∧ a + 1 ≤ P_end pd n a ∧ P_end pd n a ≤ n := by
  have ha : a < n := chr_lt (fun q => by unfold P_ok at h; rw [q, if_neg (by decide), if_neg (by decide), if_neg (by decide), if_neg (by decide), if_neg (by decide), if_neg (by decide), if_neg (by decide), if_neg (by decide)] at h; exact h)
  refine ⟨ha, ?_, ?_⟩
  · unfold P_ok at h
    unfold P_end
    have hn := N_end_ge pd n (a + 1)
    repeat' split
    all_goals first | omega | simp_all
  · unfold P_ok at h
    unfold P_end
    have hn : N_end pd n (a + 1) ≤ n := N_end_le (by omega)
    have hd : isDg (chr_ pd n (a + 1)) → a + 1 < n := fun q => dg_lt q
    repeat' split
    all_goals first | omega | (have := hd (by assumption); omega) | simp_all
