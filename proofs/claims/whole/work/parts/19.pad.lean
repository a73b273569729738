/-! HoopStairs$Pad -/
abbrev pdV (ad : Nat → Nat) (pb : Nat) (ln at_ lt nu : Int32) : va_E := .inr (2, [.ref (ad (pb + 1)), .int ln, .int at_, .int lt, .int nu])
/-- the text's sign at a, 0 behind its end -/
def chr_ (pd : Nat → Int32) (n a : Nat) : Int32 := if a < n then pd a else 0
abbrev isDg (x : Int32) : Prop := 48 ≤ x ∧ x ≤ 57
/-- a number at a: where it ends, and what it is -/
def N_end (pd : Nat → Int32) (n a : Nat) : Nat := if isDg (chr_ pd n a) then (if chr_ pd n a - 48 = 0 then a + 1 else if isDg (chr_ pd n (a + 1)) then a + 2 else a + 1) else a
def N_val (pd : Nat → Int32) (n a : Nat) : Int32 := if chr_ pd n a - 48 = 0 then chr_ pd n a - 48 else if isDg (chr_ pd n (a + 1)) then (chr_ pd n a - 48) * 10 + chr_ pd n (a + 1) - 48 else chr_ pd n a - 48
/-- an order at a: is it one, where does it end (or where is the fault), its number -/
abbrev P_ok (pd : Nat → Int32) (n a : Nat) : Prop := if chr_ pd n a = 33 then True else if chr_ pd n a = 60 then True else if chr_ pd n a = 62 then True else if chr_ pd n a = 100 then isDg (chr_ pd n (a + 1)) else if chr_ pd n a = 103 then isDg (chr_ pd n (a + 1)) else if chr_ pd n a = 104 then isDg (chr_ pd n (a + 1)) else if chr_ pd n a = 108 then isDg (chr_ pd n (a + 1)) else if chr_ pd n a = 114 then True else False
def P_end (pd : Nat → Int32) (n a : Nat) : Nat := if chr_ pd n a = 33 then a + 1 else if chr_ pd n a = 60 then a + 1 else if chr_ pd n a = 62 then a + 1 else if chr_ pd n a = 100 then (if isDg (chr_ pd n (a + 1)) then a + 2 else a + 1) else if chr_ pd n a = 103 then N_end pd n (a + 1) else if chr_ pd n a = 104 then N_end pd n (a + 1) else if chr_ pd n a = 108 then (if isDg (chr_ pd n (a + 1)) then a + 2 else a + 1) else if chr_ pd n a = 114 then (if isDg (chr_ pd n (a + 1)) then N_end pd n (a + 1) else a + 1) else a
def P_no (pd : Nat → Int32) (n a : Nat) : Int32 := if chr_ pd n a = 33 then 1 else if chr_ pd n a = 60 then 1 else if chr_ pd n a = 62 then 1 else if chr_ pd n a = 100 then chr_ pd n (a + 1) - 48 else if chr_ pd n a = 103 then N_val pd n (a + 1) else if chr_ pd n a = 104 then N_val pd n (a + 1) else if chr_ pd n a = 108 then chr_ pd n (a + 1) - 48 else if chr_ pd n a = 114 then (if isDg (chr_ pd n (a + 1)) then N_val pd n (a + 1) else 1) else 1
def F_fault (pd : Nat → Int32) (n : Nat) : Nat → Nat → Int32
  | 0, _ => -6
  | k + 1, a => if P_ok pd n a then (if P_end pd n a = n then -6 else if chr_ pd n (P_end pd n a) = 59 then F_fault pd n k (P_end pd n a + 1) else nI (P_end pd n a)) else nI (P_end pd n a)
theorem N_end_ge (pd : Nat → Int32) (n a : Nat) : a ≤ N_end pd n a := by
  unfold N_end
  by_cases h : isDg (chr_ pd n a)
  · rw [if_pos h]
    by_cases h2 : chr_ pd n a - 48 = 0
    · rw [if_pos h2]; omega
    · rw [if_neg h2]
      by_cases h3 : isDg (chr_ pd n (a + 1))
      · rw [if_pos h3]; omega
      · rw [if_neg h3]; omega
  · rw [if_neg h]; exact Nat.le_refl _
theorem chr_lt {pd : Nat → Int32} {n a : Nat} (h : ¬ chr_ pd n a = 0) : a < n := by
  unfold chr_ at h
  by_cases q : a < n
  · exact q
  · rw [if_neg q] at h; exact absurd rfl h
theorem dg_lt {pd : Nat → Int32} {n a : Nat} (h : isDg (chr_ pd n a)) : a < n := chr_lt (fun q => by rw [q] at h; exact absurd h.1 (by decide))
theorem N_end_le {pd : Nat → Int32} {n a : Nat} (h : a ≤ n) : N_end pd n a ≤ n := by
  unfold N_end
  by_cases h1 : isDg (chr_ pd n a)
  · have := dg_lt h1
    rw [if_pos h1]
    by_cases h2 : chr_ pd n a - 48 = 0
    · rw [if_pos h2]; omega
    · rw [if_neg h2]
      by_cases h3 : isDg (chr_ pd n (a + 1))
      · have := dg_lt h3
        rw [if_pos h3]; omega
      · rw [if_neg h3]; omega
  · rw [if_neg h1]; exact h
theorem P_ok_lt {pd : Nat → Int32} {n a : Nat} (h : P_ok pd n a) : a < n ∧ a + 1 ≤ P_end pd n a ∧ P_end pd n a ≤ n := by
  have ha : a < n := chr_lt (fun q => by unfold P_ok at h; rw [q, if_neg (by decide), if_neg (by decide), if_neg (by decide), if_neg (by decide), if_neg (by decide), if_neg (by decide), if_neg (by decide), if_neg (by decide)] at h; exact h)
  refine ⟨ha, ?_, ?_⟩
  · unfold P_ok at h
    unfold P_end
    have hn := N_end_ge pd n (a + 1)
    repeat' split
    all_goals first | omega | simp_all
  · unfold P_ok at h
    unfold P_end
    have hn : N_end pd n (a + 1) ≤ n := N_end_le (by omega)
    have hd : isDg (chr_ pd n (a + 1)) → a + 1 < n := fun q => dg_lt q
    repeat' split
    all_goals first | omega | (have := hd (by assumption); omega) | simp_all
set_option maxRecDepth 20000 in
set_option maxHeartbeats 4000000 in
/-- the sign at which the reader stands -/
theorem c_X2_codeHere (l : Launch) (D : va_G) (Y : Nat → ClassId) (ad : Nat → Nat) (N : Nat) (hI : wI ad N) (C : Nat → va_E) (pb : Nat) (hh : pb + 1 < N) (pd : Nat → Int32) (n a : Nat) (lt nu : Int32) (hn : n ≤ 80) (hC : C pb = pdV ad pb (nI n) (nI a) lt nu) (hcd : C (pb + 1) = .inl (Y 0, 80, .inl pd)) (ha : a ≤ 200) : Met l yX2_codeHere (wm yX2_codeHere cX2_codeHere 1 (some .int)) { frames := 0, cells := 0, slots := 0, locals := 0 } (wPc D Y ad N [.ref (ad pb)] C) (wQi D ad N (fun r C' => C' = C ∧ r = chr_ pd n a)) 0 0 (wA ad N) := by
  refine wMet RX2 rfl (by decide +kernel) (Nat.le_of_ble_eq_true rfl) (lv := [(0, .ref (ad pb))]) rfl ?_
  intro p e s m below meth c ls F hr hlocks hP hl
  have hS : va_S (wA ad N) s.heap s.heap [] := va_S.rf
  refine lv_aload_n F.1 F.2.1 dX2_codeHere_0 rfl (lv_at hl 0 rfl) ?_
  refine gf_X2_19 F hP (by omega) hC (v := .int (nI a)) rfl dX2_codeHere_1 ?_
  refine lv_if_lt (tgt := 39) F.1 F.2.1 dX2_codeHere_4 (by decide) (fun c1 => False.elim (nI_pos (by omega) c1)) (fun c1 => ?_)
  refine lv_aload_n F.1 F.2.1 dX2_codeHere_7 rfl (lv_at hl 0 rfl) ?_
  refine gf_X2_19 F hP (by omega) hC (v := .int (nI a)) rfl dX2_codeHere_8 ?_
  refine lv_aload_n F.1 F.2.1 dX2_codeHere_11 rfl (lv_at hl 0 rfl) ?_
  refine gf_X2_15 F hP (by omega) hC (v := .int (nI n)) rfl dX2_codeHere_12 ?_
  refine lv_icmp_ge (tgt := 39) F.1 F.2.1 dX2_codeHere_15 (by decide) (fun c2 => ?_) (fun c2 => ?_)
  · refine lv_iconst (v := 0) F.1 F.2.1 dX2_codeHere_39 (by decide) ?_
    exact w_iret F hr hlocks hP hS dX2_codeHere_40 ⟨rfl, by unfold chr_; rw [if_neg (fun q => nI_ge q (by omega) c2)]⟩
  · refine lv_aload_n F.1 F.2.1 dX2_codeHere_18 rfl (lv_at hl 0 rfl) ?_
    refine gf_X2_19 F hP (by omega) hC (v := .int (nI a)) rfl dX2_codeHere_19 ?_
    refine lv_bipush (v := 80) F.1 F.2.1 dX2_codeHere_22 (by decide) ?_
    refine lv_icmp_ge (tgt := 39) F.1 F.2.1 dX2_codeHere_24 (by decide) (fun c3 => False.elim (nI_ge (b := 80) (by have := Nat.not_le.mp (fun q => c2 (nI_le q (by omega))); omega) (by decide) c3)) (fun c3 => ?_)
    refine lv_aload_n F.1 F.2.1 dX2_codeHere_27 rfl (lv_at hl 0 rfl) ?_
    refine gf_X2_11 F hP (by omega) hC (v := .ref (ad (pb + 1))) rfl dX2_codeHere_28 ?_
    refine lv_aload_n F.1 F.2.1 dX2_codeHere_31 rfl (lv_at hl 0 rfl) ?_
    refine gf_X2_19 F hP (by omega) hC (v := .int (nI a)) rfl dX2_codeHere_32 ?_
    refine w_iald F hP (by omega) hcd (k := a) rfl (by have := Nat.not_le.mp (fun q => c2 (nI_le q (by omega))); omega) (Nat.le_of_ble_eq_true rfl) (v := pd a) rfl dX2_codeHere_35 ?_
    refine lv_goto (tgt := 40) F.1 F.2.1 dX2_codeHere_36 (by decide) ?_
    exact w_iret F hr hlocks hP hS dX2_codeHere_40 ⟨rfl, by unfold chr_; rw [if_pos (Nat.not_le.mp (fun q => c2 (nI_le q (by omega))))]⟩
set_option maxRecDepth 20000 in
set_option maxHeartbeats 4000000 in
/-- is it a digit -/
theorem c_X2_isDigit (l : Launch) (D : va_G) (Y : Nat → ClassId) (ad : Nat → Nat) (N : Nat) (hI : wI ad N) (C : Nat → va_E) (x : Int32) : Met l yX2_isDigit (wm yX2_isDigit cX2_isDigit 1 (some .boolean)) { frames := 0, cells := 0, slots := 0, locals := 0 } (wPc D Y ad N [.int (x)] C) (wQi D ad N (fun r C' => C' = C ∧ r = if isDg x then 1 else 0)) 0 0 (wA ad N) := by
  refine wMet RX2 rfl (by decide +kernel) (Nat.le_of_ble_eq_true rfl) (lv := [(0, .int (x))]) rfl ?_
  intro p e s m below meth c ls F hr hlocks hP hl
  have hS : va_S (wA ad N) s.heap s.heap [] := va_S.rf
  refine lv_iload_n F.1 F.2.1 dX2_isDigit_0 rfl (lv_at hl 0 rfl) ?_
  refine lv_bipush (v := 48) F.1 F.2.1 dX2_isDigit_1 (by decide) ?_
  refine lv_icmp_lt (tgt := 16) F.1 F.2.1 dX2_isDigit_3 (by decide) (fun c1 => ?_) (fun c1 => ?_)
  · refine lv_iconst (v := 0) F.1 F.2.1 dX2_isDigit_16 (by decide) ?_
    exact w_zret F hr hlocks hP hS (Or.inl rfl) dX2_isDigit_17 ⟨rfl, by simp [isDg, c1, i_nle c1]⟩
  · refine lv_iload_n F.1 F.2.1 dX2_isDigit_6 rfl (lv_at hl 0 rfl) ?_
    refine lv_bipush (v := 57) F.1 F.2.1 dX2_isDigit_7 (by decide) ?_
    refine lv_icmp_gt (tgt := 16) F.1 F.2.1 dX2_isDigit_9 (by decide) (fun c2 => ?_) (fun c2 => ?_)
    · refine lv_iconst (v := 0) F.1 F.2.1 dX2_isDigit_16 (by decide) ?_
      exact w_zret F hr hlocks hP hS (Or.inl rfl) dX2_isDigit_17 ⟨rfl, by simp [isDg, c1, i_le c1, c2, i_nle c2]⟩
    · refine lv_iconst (v := 1) F.1 F.2.1 dX2_isDigit_12 (by decide) ?_
      refine lv_goto (tgt := 17) F.1 F.2.1 dX2_isDigit_13 (by decide) ?_
      exact w_zret F hr hlocks hP hS (Or.inr rfl) dX2_isDigit_17 ⟨rfl, by simp [isDg, c1, i_le c1, c2, i_le c2]⟩
set_option maxRecDepth 20000 in
set_option maxHeartbeats 4000000 in
/-- from the start -/
theorem c_X2_startReading (l : Launch) (D : va_G) (Y : Nat → ClassId) (ad : Nat → Nat) (N : Nat) (hI : wI ad N) (C : Nat → va_E) (pb : Nat) (hh : pb + 1 < N) (pd : Nat → Int32) (n : Nat) (x0 : Int32) (lt nu : Int32) (hn : n ≤ 80) (hC : C pb = pdV ad pb (nI n) (x0) lt nu) (hcd : C (pb + 1) = .inl (Y 0, 80, .inl pd)) : Met l yX2_startReading (wm yX2_startReading cX2_startReading 1 none) { frames := 0, cells := 0, slots := 0, locals := 0 } (wPc D Y ad N [.ref (ad pb)] C) (wQv D ad N (fun C' => C' = va_up C pb (pdV ad pb (nI n) 0 lt nu))) 0 0 (wA ad N) := by
  refine wMet RX2 rfl (by decide +kernel) (Nat.le_of_ble_eq_true rfl) (lv := [(0, .ref (ad pb))]) rfl ?_
  intro p e s m below meth c ls F hr hlocks hP hl
  have hS : va_S (wA ad N) s.heap s.heap [] := va_S.rf
  refine lv_aload_n F.1 F.2.1 dX2_startReading_0 rfl (lv_at hl 0 rfl) ?_
  refine lv_iconst (v := 0) F.1 F.2.1 dX2_startReading_1 (by decide) ?_
  refine pf_X2_19 F hI hP hS (by omega) hC (Nat.le_of_ble_eq_true rfl) (C1 := va_up C pb (pdV ad pb (nI n) 0 lt nu)) (fun _ => rfl) dX2_startReading_2 (fun H locs hP hS => ?_)
  exact w_vret F hr hlocks hP hS dX2_startReading_5 rfl
set_option maxRecDepth 20000 in
set_option maxHeartbeats 4000000 in
/-- emptied -/
theorem c_X2_empty (l : Launch) (D : va_G) (Y : Nat → ClassId) (ad : Nat → Nat) (N : Nat) (hI : wI ad N) (C : Nat → va_E) (pb : Nat) (hh : pb + 1 < N) (pd : Nat → Int32) (n : Nat) (x0 : Int32) (lt nu : Int32) (hn : n ≤ 80) (hC : C pb = pdV ad pb (nI n) (x0) lt nu) (hcd : C (pb + 1) = .inl (Y 0, 80, .inl pd)) : Met l yX2_empty (wm yX2_empty cX2_empty 2 (some .int)) { frames := 0, cells := 0, slots := 0, locals := 0 } (wPc D Y ad N [.ref (ad pb)] C) (wQi D ad N (fun r C' => C' = va_up C pb (pdV ad pb 0 x0 lt nu) ∧ r = nI n)) 0 0 (wA ad N) := by
  refine wMet RX2 rfl (by decide +kernel) (Nat.le_of_ble_eq_true rfl) (lv := [(0, .ref (ad pb))]) rfl ?_
  intro p e s m below meth c ls F hr hlocks hP hl
  have hS : va_S (wA ad N) s.heap s.heap [] := va_S.rf
  refine lv_aload_n F.1 F.2.1 dX2_empty_0 rfl (lv_at hl 0 rfl) ?_
  refine gf_X2_15 F hP (by omega) hC (v := .int (nI n)) rfl dX2_empty_1 ?_
  refine lv_istore_n (lv' := [(1, .int (nI n)), (0, .ref (ad pb))]) F.1 F.2.1 dX2_empty_4 rfl hl (by decide) rfl (fun ls hl => ?_)
  refine lv_aload_n F.1 F.2.1 dX2_empty_5 rfl (lv_at hl 1 rfl) ?_
  refine lv_iconst (v := 0) F.1 F.2.1 dX2_empty_6 (by decide) ?_
  refine pf_X2_15 F hI hP hS (by omega) hC (Nat.le_of_ble_eq_true rfl) (C1 := va_up C pb (pdV ad pb 0 x0 lt nu)) (fun _ => rfl) dX2_empty_7 (fun H locs hP hS => ?_)
  refine lv_iload_n F.1 F.2.1 dX2_empty_10 rfl (lv_at hl 0 rfl) ?_
  exact w_iret F hr hlocks hP hS dX2_empty_11 ⟨rfl, rfl⟩
set_option maxRecDepth 20000 in
set_option maxHeartbeats 4000000 in
/-- a digit -/
theorem c_X2_readDigit (l : Launch) (D : va_G) (Y : Nat → ClassId) (ad : Nat → Nat) (N : Nat) (hI : wI ad N) (C : Nat → va_E) (pb : Nat) (hh : pb + 1 < N) (pd : Nat → Int32) (n a : Nat) (lt nu : Int32) (hn : n ≤ 80) (hC : C pb = pdV ad pb (nI n) (nI a) lt nu) (hcd : C (pb + 1) = .inl (Y 0, 80, .inl pd)) (ha : a ≤ 190) : Met l yX2_readDigit (wm yX2_readDigit cX2_readDigit 1 (some .boolean)) { frames := 1, cells := 0, slots := 0, locals := 20 } (wPc D Y ad N [.ref (ad pb)] C) (wQi D ad N (fun r C' => (isDg (chr_ pd n a) → r = 1 ∧ C' = va_up C pb (pdV ad pb (nI n) (nI (a + 1)) lt (chr_ pd n a - 48))) ∧ (¬ isDg (chr_ pd n a) → r = 0 ∧ C' = C))) 0 0 (wA ad N) := by
  refine wMet RX2 rfl (by decide +kernel) (Nat.le_of_ble_eq_true rfl) (lv := [(0, .ref (ad pb))]) rfl ?_
  intro p e s m below meth c ls F hr hlocks hP hl
  have hS : va_S (wA ad N) s.heap s.heap [] := va_S.rf
  refine lv_aload_n F.1 F.2.1 dX2_readDigit_0 rfl (lv_at hl 0 rfl) ?_
  refine w_calli F hP hS (c_X2_codeHere l D Y ad N hI _ pb hh pd n a lt nu hn hC hcd (by omega)) (cwVm 0 F.2.2.2.2.1 (fun _ h => h) mw_604 mw_601 mw_602 mw_603 mw_26 rfl rfl ydX2_codeHere ⟨by decide, by decide⟩) (by omega) hC rfl rfl hl.1 rfl (Nat.le_of_ble_eq_true rfl) dX2_readDigit_1 ⟨Nat.zero_le _, Nat.zero_le _⟩ (fun r C2 H locs hq hP hS => ?_)
  obtain ⟨hq1, hq2⟩ := hq; rw [hq1] at hP; subst hq2
  refine w_calls F hP hS (c_X2_isDigit l D Y ad N hI _ (chr_ pd n a)) (cwSm 1 F.2.2.2.2.1 (fun _ h => h) mw_611 mw_609 mw_610 mw_26 rfl rfl ydX2_isDigit ⟨by decide, by decide⟩) rfl hl.1 rfl (Nat.le_of_ble_eq_true rfl) dX2_readDigit_4 ⟨Nat.zero_le _, Nat.zero_le _⟩ (fun r C2 H locs hq hP hS => ?_)
  obtain ⟨hq1, hbrd1⟩ := hq; rw [hq1] at hP; generalize r = rd1 at hbrd1 ⊢
  refine lv_if_ne (tgt := 12) F.1 F.2.1 dX2_readDigit_7 (by decide) (fun c2 => ?_) (fun c2 => ?_)
  · refine lv_aload_n F.1 F.2.1 dX2_readDigit_12 rfl (lv_at hl 0 rfl) ?_
    refine lv_aload_n F.1 F.2.1 dX2_readDigit_13 rfl (lv_at hl 0 rfl) ?_
    refine w_calli F hP hS (c_X2_codeHere l D Y ad N hI _ pb hh pd n a lt nu hn hC hcd (by omega)) (cwVm 0 F.2.2.2.2.1 (fun _ h => h) mw_604 mw_601 mw_602 mw_603 mw_26 rfl rfl ydX2_codeHere ⟨by decide, by decide⟩) (by omega) hC rfl rfl hl.1 rfl (Nat.le_of_ble_eq_true rfl) dX2_readDigit_14 ⟨Nat.zero_le _, Nat.zero_le _⟩ (fun r C2 H locs hq hP hS => ?_)
    obtain ⟨hq1, hq2⟩ := hq; rw [hq1] at hP; subst hq2
    refine lv_bipush (v := 48) F.1 F.2.1 dX2_readDigit_17 (by decide) ?_
    refine lv_isub F.1 F.2.1 dX2_readDigit_19 ?_
    refine pf_X2_45 F hI hP hS (by omega) hC (Nat.le_of_ble_eq_true rfl) (C1 := va_up C pb (pdV ad pb (nI n) (nI a) lt ((chr_ pd n a) - 48))) (fun _ => rfl) dX2_readDigit_20 (fun H locs hP hS => ?_)
    refine lv_aload_n F.1 F.2.1 dX2_readDigit_23 rfl (lv_at hl 0 rfl) ?_
    refine lv_dup F.1 F.2.1 dX2_readDigit_24 rfl ?_
    refine gf_X2_19 F hP (by omega) (va_up_self _ _ _) (v := .int (nI a)) rfl dX2_readDigit_25 ?_
    refine lv_iconst (v := 1) F.1 F.2.1 dX2_readDigit_28 (by decide) ?_
    refine lv_iadd F.1 F.2.1 dX2_readDigit_29 ?_
    refine lv_topi (fun v3 ev3 => ?_)
    have ev3 : v3 = nI (a + 1) := ev3.trans (nI_succ (a)).symm
    subst ev3
    refine pf_X2_19 F hI hP hS (by omega) (va_up_self _ _ _) (Nat.le_of_ble_eq_true rfl) (C1 := va_up C pb (pdV ad pb (nI n) (nI (a + 1)) lt ((chr_ pd n a) - 48))) up_self dX2_readDigit_30 (fun H locs hP hS => ?_)
    refine lv_iconst (v := 1) F.1 F.2.1 dX2_readDigit_33 (by decide) ?_
    exact w_zret F hr hlocks hP hS (Or.inr rfl) dX2_readDigit_34 ⟨fun _ => ⟨rfl, rfl⟩, fun q => absurd (b_t hbrd1 c2) q⟩
  · refine lv_iconst (v := 0) F.1 F.2.1 dX2_readDigit_10 (by decide) ?_
    exact w_zret F hr hlocks hP hS (Or.inl rfl) dX2_readDigit_11 ⟨fun q => absurd q (b_f hbrd1 c2), fun _ => ⟨rfl, rfl⟩⟩
set_option maxRecDepth 20000 in
set_option maxHeartbeats 4000000 in
/-- a semicolon -/
theorem c_X2_skipSeparator (l : Launch) (D : va_G) (Y : Nat → ClassId) (ad : Nat → Nat) (N : Nat) (hI : wI ad N) (C : Nat → va_E) (pb : Nat) (hh : pb + 1 < N) (pd : Nat → Int32) (n a : Nat) (lt nu : Int32) (hn : n ≤ 80) (hC : C pb = pdV ad pb (nI n) (nI a) lt nu) (hcd : C (pb + 1) = .inl (Y 0, 80, .inl pd)) (ha : a ≤ 190) : Met l yX2_skipSeparator (wm yX2_skipSeparator cX2_skipSeparator 1 (some .boolean)) { frames := 1, cells := 0, slots := 0, locals := 20 } (wPc D Y ad N [.ref (ad pb)] C) (wQi D ad N (fun r C' => (chr_ pd n a = 59 → r = 1 ∧ C' = va_up C pb (pdV ad pb (nI n) (nI (a + 1)) lt nu)) ∧ (¬ chr_ pd n a = 59 → r = 0 ∧ C' = C))) 0 0 (wA ad N) := by
  refine wMet RX2 rfl (by decide +kernel) (Nat.le_of_ble_eq_true rfl) (lv := [(0, .ref (ad pb))]) rfl ?_
  intro p e s m below meth c ls F hr hlocks hP hl
  have hS : va_S (wA ad N) s.heap s.heap [] := va_S.rf
  refine lv_aload_n F.1 F.2.1 dX2_skipSeparator_0 rfl (lv_at hl 0 rfl) ?_
  refine w_calli F hP hS (c_X2_codeHere l D Y ad N hI _ pb hh pd n a lt nu hn hC hcd (by omega)) (cwVm 0 F.2.2.2.2.1 (fun _ h => h) mw_604 mw_601 mw_602 mw_603 mw_26 rfl rfl ydX2_codeHere ⟨by decide, by decide⟩) (by omega) hC rfl rfl hl.1 rfl (Nat.le_of_ble_eq_true rfl) dX2_skipSeparator_1 ⟨Nat.zero_le _, Nat.zero_le _⟩ (fun r C2 H locs hq hP hS => ?_)
  obtain ⟨hq1, hq2⟩ := hq; rw [hq1] at hP; subst hq2
  refine lv_bipush (v := 59) F.1 F.2.1 dX2_skipSeparator_4 (by decide) ?_
  refine lv_icmp_eq (tgt := 11) F.1 F.2.1 dX2_skipSeparator_6 (by decide) (fun c1 => ?_) (fun c1 => ?_)
  · refine lv_aload_n F.1 F.2.1 dX2_skipSeparator_11 rfl (lv_at hl 0 rfl) ?_
    refine lv_dup F.1 F.2.1 dX2_skipSeparator_12 rfl ?_
    refine gf_X2_19 F hP (by omega) hC (v := .int (nI a)) rfl dX2_skipSeparator_13 ?_
    refine lv_iconst (v := 1) F.1 F.2.1 dX2_skipSeparator_16 (by decide) ?_
    refine lv_iadd F.1 F.2.1 dX2_skipSeparator_17 ?_
    refine lv_topi (fun v2 ev2 => ?_)
    have ev2 : v2 = nI (a + 1) := ev2.trans (nI_succ (a)).symm
    subst ev2
    refine pf_X2_19 F hI hP hS (by omega) hC (Nat.le_of_ble_eq_true rfl) (C1 := va_up C pb (pdV ad pb (nI n) (nI (a + 1)) lt nu)) (fun _ => rfl) dX2_skipSeparator_18 (fun H locs hP hS => ?_)
    refine lv_iconst (v := 1) F.1 F.2.1 dX2_skipSeparator_21 (by decide) ?_
    exact w_zret F hr hlocks hP hS (Or.inr rfl) dX2_skipSeparator_22 ⟨fun _ => ⟨rfl, rfl⟩, fun q => absurd c1 q⟩
  · refine lv_iconst (v := 0) F.1 F.2.1 dX2_skipSeparator_9 (by decide) ?_
    exact w_zret F hr hlocks hP hS (Or.inl rfl) dX2_skipSeparator_10 ⟨fun q => absurd q c1, fun _ => ⟨rfl, rfl⟩⟩
