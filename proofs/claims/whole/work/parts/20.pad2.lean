/-! HoopStairs$Pad: numbers, orders, faults -/
set_option maxRecDepth 20000 in
set_option maxHeartbeats 4000000 in
/-- a number -/
theorem c_X2_readNumber (l : Launch) (D : va_G) (Y : Nat → ClassId) (ad : Nat → Nat) (N : Nat) (hI : wI ad N) (C : Nat → va_E) (pb : Nat) (hh : pb + 1 < N) (pd : Nat → Int32) (n a : Nat) (lt nu : Int32) (hn : n ≤ 80) (hC : C pb = pdV ad pb (nI n) (nI a) lt nu) (hcd : C (pb + 1) = .inl (Y 0, 80, .inl pd)) (ha : a ≤ 180) : Met l yX2_readNumber (wm yX2_readNumber cX2_readNumber 1 (some .boolean)) { frames := 2, cells := 0, slots := 0, locals := 40 } (wPc D Y ad N [.ref (ad pb)] C) (wQi D ad N (fun r C' => (isDg (chr_ pd n a) → r = 1 ∧ C' = va_up C pb (pdV ad pb (nI n) (nI (N_end pd n a)) lt (N_val pd n a))) ∧ (¬ isDg (chr_ pd n a) → r = 0 ∧ C' = C))) 0 0 (wA ad N) := by
  refine wMet RX2 rfl (by decide +kernel) (Nat.le_of_ble_eq_true rfl) (lv := [(0, .ref (ad pb))]) rfl ?_
  intro p e s m below meth c ls F hr hlocks hP hl
  have hS : va_S (wA ad N) s.heap s.heap [] := va_S.rf
  refine lv_aload_n F.1 F.2.1 dX2_readNumber_0 rfl (lv_at hl 0 rfl) ?_
  refine w_calli F hP hS (c_X2_readDigit l D Y ad N hI _ pb hh pd n a lt nu hn hC hcd (by omega)) (cwVm 0 F.2.2.2.2.1 (fun _ h => h) mw_608 mw_605 mw_606 mw_607 mw_26 rfl rfl ydX2_readDigit ⟨by decide, by decide⟩) (by omega) hC rfl rfl hl.1 rfl (Nat.le_of_ble_eq_true rfl) dX2_readNumber_1 ⟨Nat.zero_le _, Nat.zero_le _⟩ (fun r C2 H locs hq hP hS => ?_)
  by_cases hd1 : isDg (chr_ pd n a)
  · obtain ⟨hq1, hq2⟩ := hq.1 hd1; rw [hq2] at hP; subst hq1
    refine lv_if_ne (tgt := 9) F.1 F.2.1 dX2_readNumber_4 (by decide) (fun c2 => ?_) (fun c2 => False.elim (by revert c2; decide))
    refine lv_aload_n F.1 F.2.1 dX2_readNumber_9 rfl (lv_at hl 0 rfl) ?_
    refine gf_X2_45 F hP (by omega) (va_up_self _ _ _) (v := .int (chr_ pd n a - 48)) rfl dX2_readNumber_10 ?_
    refine lv_if_eq (tgt := 55) F.1 F.2.1 dX2_readNumber_13 (by decide) (fun c3 => ?_) (fun c3 => ?_)
    · refine lv_iconst (v := 1) F.1 F.2.1 dX2_readNumber_55 (by decide) ?_
      exact w_zret F hr hlocks hP hS (Or.inr rfl) dX2_readNumber_56 ⟨fun _ => ⟨rfl, by unfold N_end N_val; simp only [if_pos hd1, if_pos c3]⟩, fun q => absurd hd1 q⟩
    · refine lv_aload_n F.1 F.2.1 dX2_readNumber_16 rfl (lv_at hl 0 rfl) ?_
      refine w_calli F hP hS (c_X2_codeHere l D Y ad N hI _ pb hh pd n (a + 1) lt (chr_ pd n a - 48) hn (va_up_self _ _ _) ((va_up_ne _ _ (by omega)).trans hcd) (by omega)) (cwVm 0 F.2.2.2.2.1 (fun _ h => h) mw_604 mw_601 mw_602 mw_603 mw_26 rfl rfl ydX2_codeHere ⟨by decide, by decide⟩) (by omega) (va_up_self _ _ _) rfl rfl hl.1 rfl (Nat.le_of_ble_eq_true rfl) dX2_readNumber_17 ⟨Nat.zero_le _, Nat.zero_le _⟩ (fun r C2 H locs hq hP hS => ?_)
      obtain ⟨hq1, hq2⟩ := hq; rw [hq1] at hP; subst hq2
      refine w_calls F hP hS (c_X2_isDigit l D Y ad N hI _ (chr_ pd n (a + 1))) (cwSm 1 F.2.2.2.2.1 (fun _ h => h) mw_611 mw_609 mw_610 mw_26 rfl rfl ydX2_isDigit ⟨by decide, by decide⟩) rfl hl.1 rfl (Nat.le_of_ble_eq_true rfl) dX2_readNumber_20 ⟨Nat.zero_le _, Nat.zero_le _⟩ (fun r C2 H locs hq hP hS => ?_)
      obtain ⟨hq1, hbrd4⟩ := hq; rw [hq1] at hP; generalize r = rd4 at hbrd4 ⊢
      refine lv_if_eq (tgt := 55) F.1 F.2.1 dX2_readNumber_23 (by decide) (fun c5 => ?_) (fun c5 => ?_)
      · refine lv_iconst (v := 1) F.1 F.2.1 dX2_readNumber_55 (by decide) ?_
        exact w_zret F hr hlocks hP hS (Or.inr rfl) dX2_readNumber_56 ⟨fun _ => ⟨rfl, by unfold N_end N_val; simp only [if_pos hd1, if_neg c3, if_neg (b_f hbrd4 c5)]⟩, fun q => absurd hd1 q⟩
      · refine lv_aload_n F.1 F.2.1 dX2_readNumber_26 rfl (lv_at hl 0 rfl) ?_
        refine lv_aload_n F.1 F.2.1 dX2_readNumber_27 rfl (lv_at hl 0 rfl) ?_
        refine gf_X2_45 F hP (by omega) (va_up_self _ _ _) (v := .int (chr_ pd n a - 48)) rfl dX2_readNumber_28 ?_
        refine lv_bipush (v := 10) F.1 F.2.1 dX2_readNumber_31 (by decide) ?_
        refine lv_imul F.1 F.2.1 dX2_readNumber_33 ?_
        refine lv_aload_n F.1 F.2.1 dX2_readNumber_34 rfl (lv_at hl 0 rfl) ?_
        refine w_calli F hP hS (c_X2_codeHere l D Y ad N hI _ pb hh pd n (a + 1) lt (chr_ pd n a - 48) hn (va_up_self _ _ _) ((va_up_ne _ _ (by omega)).trans hcd) (by omega)) (cwVm 0 F.2.2.2.2.1 (fun _ h => h) mw_604 mw_601 mw_602 mw_603 mw_26 rfl rfl ydX2_codeHere ⟨by decide, by decide⟩) (by omega) (va_up_self _ _ _) rfl rfl hl.1 rfl (Nat.le_of_ble_eq_true rfl) dX2_readNumber_35 ⟨Nat.zero_le _, Nat.zero_le _⟩ (fun r C2 H locs hq hP hS => ?_)
        obtain ⟨hq1, hq2⟩ := hq; rw [hq1] at hP; subst hq2
        refine lv_iadd F.1 F.2.1 dX2_readNumber_38 ?_
        refine lv_bipush (v := 48) F.1 F.2.1 dX2_readNumber_39 (by decide) ?_
        refine lv_isub F.1 F.2.1 dX2_readNumber_41 ?_
        refine pf_X2_45 F hI hP hS (by omega) (va_up_self _ _ _) (Nat.le_of_ble_eq_true rfl) (C1 := va_up C pb (pdV ad pb (nI n) (nI (a + 1)) lt ((((chr_ pd n a - 48) * 10) + (chr_ pd n (a + 1))) - 48))) up_self dX2_readNumber_42 (fun H locs hP hS => ?_)
        refine lv_aload_n F.1 F.2.1 dX2_readNumber_45 rfl (lv_at hl 0 rfl) ?_
        refine lv_dup F.1 F.2.1 dX2_readNumber_46 rfl ?_
        refine gf_X2_19 F hP (by omega) (va_up_self _ _ _) (v := .int (nI (a + 1))) rfl dX2_readNumber_47 ?_
        refine lv_iconst (v := 1) F.1 F.2.1 dX2_readNumber_50 (by decide) ?_
        refine lv_iadd F.1 F.2.1 dX2_readNumber_51 ?_
        refine lv_topi (fun v6 ev6 => ?_)
        have ev6 : v6 = nI (a + 2) := ev6.trans (nI_succ (a + 1)).symm
        subst ev6
        refine pf_X2_19 F hI hP hS (by omega) (va_up_self _ _ _) (Nat.le_of_ble_eq_true rfl) (C1 := va_up C pb (pdV ad pb (nI n) (nI (a + 2)) lt ((((chr_ pd n a - 48) * 10) + (chr_ pd n (a + 1))) - 48))) up_self dX2_readNumber_52 (fun H locs hP hS => ?_)
        refine lv_iconst (v := 1) F.1 F.2.1 dX2_readNumber_55 (by decide) ?_
        exact w_zret F hr hlocks hP hS (Or.inr rfl) dX2_readNumber_56 ⟨fun _ => ⟨rfl, by unfold N_end N_val; simp only [if_pos hd1, if_neg c3, if_pos (b_t hbrd4 c5)]⟩, fun q => absurd hd1 q⟩
  · obtain ⟨hq1, hq2⟩ := hq.2 hd1; rw [hq2] at hP; subst hq1
    refine lv_if_ne (tgt := 9) F.1 F.2.1 dX2_readNumber_4 (by decide) (fun c7 => False.elim (by revert c7; decide)) (fun c7 => ?_)
    refine lv_iconst (v := 0) F.1 F.2.1 dX2_readNumber_7 (by decide) ?_
    exact w_zret F hr hlocks hP hS (Or.inl rfl) dX2_readNumber_8 ⟨fun q => absurd q hd1, fun _ => ⟨rfl, rfl⟩⟩
set_option maxRecDepth 20000 in
set_option maxHeartbeats 4000000 in
/-- an order -/
theorem c_X2_readOrder (l : Launch) (D : va_G) (Y : Nat → ClassId) (ad : Nat → Nat) (N : Nat) (hI : wI ad N) (C : Nat → va_E) (pb : Nat) (hh : pb + 1 < N) (pd : Nat → Int32) (n a : Nat) (lt nu : Int32) (hn : n ≤ 80) (hC : C pb = pdV ad pb (nI n) (nI a) lt nu) (hcd : C (pb + 1) = .inl (Y 0, 80, .inl pd)) (ha : a ≤ 100) : Met l yX2_readOrder (wm yX2_readOrder cX2_readOrder 1 (some .boolean)) { frames := 3, cells := 0, slots := 0, locals := 60 } (wPc D Y ad N [.ref (ad pb)] C) (wQi D ad N (fun r C' => (P_ok pd n a → r = 1 ∧ C' = va_up C pb (pdV ad pb (nI n) (nI (P_end pd n a)) (chr_ pd n a) (P_no pd n a))) ∧ (¬ P_ok pd n a → r = 0 ∧ ∃ nu' : Int32, C' = va_up C pb (pdV ad pb (nI n) (nI (P_end pd n a)) (chr_ pd n a) nu')))) 0 0 (wA ad N) := by
  refine wMet RX2 rfl (by decide +kernel) (Nat.le_of_ble_eq_true rfl) (lv := [(0, .ref (ad pb))]) rfl ?_
  intro p e s m below meth c ls F hr hlocks hP hl
  have hS : va_S (wA ad N) s.heap s.heap [] := va_S.rf
  refine lv_aload_n F.1 F.2.1 dX2_readOrder_0 rfl (lv_at hl 0 rfl) ?_
  refine lv_aload_n F.1 F.2.1 dX2_readOrder_1 rfl (lv_at hl 0 rfl) ?_
  refine w_calli F hP hS (c_X2_codeHere l D Y ad N hI _ pb hh pd n a lt nu hn hC hcd (by omega)) (cwVm 0 F.2.2.2.2.1 (fun _ h => h) mw_604 mw_601 mw_602 mw_603 mw_26 rfl rfl ydX2_codeHere ⟨by decide, by decide⟩) (by omega) hC rfl rfl hl.1 rfl (Nat.le_of_ble_eq_true rfl) dX2_readOrder_2 ⟨Nat.zero_le _, Nat.zero_le _⟩ (fun r C2 H locs hq hP hS => ?_)
  obtain ⟨hq1, hq2⟩ := hq; rw [hq1] at hP; subst hq2
  refine pf_X2_42 F hI hP hS (by omega) hC (Nat.le_of_ble_eq_true rfl) (C1 := va_up C pb (pdV ad pb (nI n) (nI a) (chr_ pd n a) nu)) (fun _ => rfl) dX2_readOrder_5 (fun H locs hP hS => ?_)
  refine lv_aload_n F.1 F.2.1 dX2_readOrder_8 rfl (lv_at hl 0 rfl) ?_
  refine lv_iconst (v := 1) F.1 F.2.1 dX2_readOrder_9 (by decide) ?_
  refine pf_X2_45 F hI hP hS (by omega) (va_up_self _ _ _) (Nat.le_of_ble_eq_true rfl) (C1 := va_up C pb (pdV ad pb (nI n) (nI a) (chr_ pd n a) 1)) up_self dX2_readOrder_10 (fun H locs hP hS => ?_)
  refine lv_aload_n F.1 F.2.1 dX2_readOrder_13 rfl (lv_at hl 0 rfl) ?_
  refine gf_X2_42 F hP (by omega) (va_up_self _ _ _) (v := .int (chr_ pd n a)) rfl dX2_readOrder_14 ?_
  by_cases k1 : chr_ pd n a = 33
  · refine lv_lookup (off := 138) (tgt := 155) F.1 F.2.1 dX2_readOrder_17 (by decide) ((by rw [k1]; rfl)) (by decide) ?_
    refine lv_aload_n F.1 F.2.1 dX2_readOrder_155 rfl (lv_at hl 0 rfl) ?_
    refine lv_dup F.1 F.2.1 dX2_readOrder_156 rfl ?_
    refine gf_X2_19 F hP (by omega) (va_up_self _ _ _) (v := .int (nI a)) rfl dX2_readOrder_157 ?_
    refine lv_iconst (v := 1) F.1 F.2.1 dX2_readOrder_160 (by decide) ?_
    refine lv_iadd F.1 F.2.1 dX2_readOrder_161 ?_
    refine lv_topi (fun v2 ev2 => ?_)
    have ev2 : v2 = nI (a + 1) := ev2.trans (nI_succ (a)).symm
    subst ev2
    refine pf_X2_19 F hI hP hS (by omega) (va_up_self _ _ _) (Nat.le_of_ble_eq_true rfl) (C1 := va_up C pb (pdV ad pb (nI n) (nI (a + 1)) (chr_ pd n a) 1)) up_self dX2_readOrder_162 (fun H locs hP hS => ?_)
    refine lv_iconst (v := 1) F.1 F.2.1 dX2_readOrder_165 (by decide) ?_
    exact w_zret F hr hlocks hP hS (Or.inr rfl) dX2_readOrder_166 ⟨fun _ => ⟨rfl, by unfold P_end P_no; simp only [if_pos k1]⟩, fun q => absurd (show P_ok pd n a by unfold P_ok; simp only [if_pos k1]) q⟩
  · by_cases k3 : chr_ pd n a = 60
    · refine lv_lookup (off := 138) (tgt := 155) F.1 F.2.1 dX2_readOrder_17 (by decide) ((lv_osw k1 rfl).trans ((by rw [k3]; rfl))) (by decide) ?_
      refine lv_aload_n F.1 F.2.1 dX2_readOrder_155 rfl (lv_at hl 0 rfl) ?_
      refine lv_dup F.1 F.2.1 dX2_readOrder_156 rfl ?_
      refine gf_X2_19 F hP (by omega) (va_up_self _ _ _) (v := .int (nI a)) rfl dX2_readOrder_157 ?_
      refine lv_iconst (v := 1) F.1 F.2.1 dX2_readOrder_160 (by decide) ?_
      refine lv_iadd F.1 F.2.1 dX2_readOrder_161 ?_
      refine lv_topi (fun v4 ev4 => ?_)
      have ev4 : v4 = nI (a + 1) := ev4.trans (nI_succ (a)).symm
      subst ev4
      refine pf_X2_19 F hI hP hS (by omega) (va_up_self _ _ _) (Nat.le_of_ble_eq_true rfl) (C1 := va_up C pb (pdV ad pb (nI n) (nI (a + 1)) (chr_ pd n a) 1)) up_self dX2_readOrder_162 (fun H locs hP hS => ?_)
      refine lv_iconst (v := 1) F.1 F.2.1 dX2_readOrder_165 (by decide) ?_
      exact w_zret F hr hlocks hP hS (Or.inr rfl) dX2_readOrder_166 ⟨fun _ => ⟨rfl, by unfold P_end P_no; simp only [if_neg k1, if_pos k3]⟩, fun q => absurd (show P_ok pd n a by unfold P_ok; simp only [if_neg k1, if_pos k3]) q⟩
    · by_cases k5 : chr_ pd n a = 62
      · refine lv_lookup (off := 138) (tgt := 155) F.1 F.2.1 dX2_readOrder_17 (by decide) ((lv_osw k1 rfl).trans ((lv_osw k3 rfl).trans ((by rw [k5]; rfl)))) (by decide) ?_
        refine lv_aload_n F.1 F.2.1 dX2_readOrder_155 rfl (lv_at hl 0 rfl) ?_
        refine lv_dup F.1 F.2.1 dX2_readOrder_156 rfl ?_
        refine gf_X2_19 F hP (by omega) (va_up_self _ _ _) (v := .int (nI a)) rfl dX2_readOrder_157 ?_
        refine lv_iconst (v := 1) F.1 F.2.1 dX2_readOrder_160 (by decide) ?_
        refine lv_iadd F.1 F.2.1 dX2_readOrder_161 ?_
        refine lv_topi (fun v6 ev6 => ?_)
        have ev6 : v6 = nI (a + 1) := ev6.trans (nI_succ (a)).symm
        subst ev6
        refine pf_X2_19 F hI hP hS (by omega) (va_up_self _ _ _) (Nat.le_of_ble_eq_true rfl) (C1 := va_up C pb (pdV ad pb (nI n) (nI (a + 1)) (chr_ pd n a) 1)) up_self dX2_readOrder_162 (fun H locs hP hS => ?_)
        refine lv_iconst (v := 1) F.1 F.2.1 dX2_readOrder_165 (by decide) ?_
        exact w_zret F hr hlocks hP hS (Or.inr rfl) dX2_readOrder_166 ⟨fun _ => ⟨rfl, by unfold P_end P_no; simp only [if_neg k1, if_neg k3, if_pos k5]⟩, fun q => absurd (show P_ok pd n a by unfold P_ok; simp only [if_neg k1, if_neg k3, if_pos k5]) q⟩
      · by_cases k7 : chr_ pd n a = 100
        · refine lv_lookup (off := 75) (tgt := 92) F.1 F.2.1 dX2_readOrder_17 (by decide) ((lv_osw k1 rfl).trans ((lv_osw k3 rfl).trans ((lv_osw k5 rfl).trans ((by rw [k7]; rfl))))) (by decide) ?_
          refine lv_aload_n F.1 F.2.1 dX2_readOrder_92 rfl (lv_at hl 0 rfl) ?_
          refine lv_dup F.1 F.2.1 dX2_readOrder_93 rfl ?_
          refine gf_X2_19 F hP (by omega) (va_up_self _ _ _) (v := .int (nI a)) rfl dX2_readOrder_94 ?_
          refine lv_iconst (v := 1) F.1 F.2.1 dX2_readOrder_97 (by decide) ?_
          refine lv_iadd F.1 F.2.1 dX2_readOrder_98 ?_
          refine lv_topi (fun v8 ev8 => ?_)
          have ev8 : v8 = nI (a + 1) := ev8.trans (nI_succ (a)).symm
          subst ev8
          refine pf_X2_19 F hI hP hS (by omega) (va_up_self _ _ _) (Nat.le_of_ble_eq_true rfl) (C1 := va_up C pb (pdV ad pb (nI n) (nI (a + 1)) (chr_ pd n a) 1)) up_self dX2_readOrder_99 (fun H locs hP hS => ?_)
          refine lv_aload_n F.1 F.2.1 dX2_readOrder_102 rfl (lv_at hl 0 rfl) ?_
          refine w_calli F hP hS (c_X2_readDigit l D Y ad N hI _ pb hh pd n (a + 1) (chr_ pd n a) 1 hn (va_up_self _ _ _) ((va_up_ne _ _ (by omega)).trans hcd) (by omega)) (cwVm 0 F.2.2.2.2.1 (fun _ h => h) mw_608 mw_605 mw_606 mw_607 mw_26 rfl rfl ydX2_readDigit ⟨by decide, by decide⟩) (by omega) (va_up_self _ _ _) rfl rfl hl.1 rfl (Nat.le_of_ble_eq_true rfl) dX2_readOrder_103 ⟨Nat.zero_le _, Nat.zero_le _⟩ (fun r C2 H locs hq hP hS => ?_)
          by_cases hd9 : isDg (chr_ pd n (a + 1))
          · obtain ⟨hq1, hq2⟩ := hq.1 hd9; rw [hq2, uu] at hP; subst hq1
            exact w_zret F hr hlocks hP hS (Or.inr rfl) dX2_readOrder_106 ⟨fun _ => ⟨rfl, by unfold P_end P_no; simp only [if_pos hd9, if_neg k1, if_neg k3, if_neg k5, if_pos k7]⟩, fun q => absurd (show P_ok pd n a by unfold P_ok; simp only [if_pos hd9, if_neg k1, if_neg k3, if_neg k5, if_pos k7]; exact hd9) q⟩
          · obtain ⟨hq1, hq2⟩ := hq.2 hd9; rw [hq2] at hP; subst hq1
            exact w_zret F hr hlocks hP hS (Or.inl rfl) dX2_readOrder_106 ⟨fun q => absurd q (show ¬ P_ok pd n a by unfold P_ok; simp only [if_neg hd9, if_neg k1, if_neg k3, if_neg k5, if_pos k7]; exact hd9), fun _ => ⟨rfl, 1, by unfold P_end; simp only [if_neg hd9, if_neg k1, if_neg k3, if_neg k5, if_pos k7, N_end]⟩⟩
        · by_cases k10 : chr_ pd n a = 103
          · refine lv_lookup (off := 90) (tgt := 107) F.1 F.2.1 dX2_readOrder_17 (by decide) ((lv_osw k1 rfl).trans ((lv_osw k3 rfl).trans ((lv_osw k5 rfl).trans ((lv_osw k7 rfl).trans ((by rw [k10]; rfl)))))) (by decide) ?_
            refine lv_aload_n F.1 F.2.1 dX2_readOrder_107 rfl (lv_at hl 0 rfl) ?_
            refine lv_dup F.1 F.2.1 dX2_readOrder_108 rfl ?_
            refine gf_X2_19 F hP (by omega) (va_up_self _ _ _) (v := .int (nI a)) rfl dX2_readOrder_109 ?_
            refine lv_iconst (v := 1) F.1 F.2.1 dX2_readOrder_112 (by decide) ?_
            refine lv_iadd F.1 F.2.1 dX2_readOrder_113 ?_
            refine lv_topi (fun v11 ev11 => ?_)
            have ev11 : v11 = nI (a + 1) := ev11.trans (nI_succ (a)).symm
            subst ev11
            refine pf_X2_19 F hI hP hS (by omega) (va_up_self _ _ _) (Nat.le_of_ble_eq_true rfl) (C1 := va_up C pb (pdV ad pb (nI n) (nI (a + 1)) (chr_ pd n a) 1)) up_self dX2_readOrder_114 (fun H locs hP hS => ?_)
            refine lv_aload_n F.1 F.2.1 dX2_readOrder_117 rfl (lv_at hl 0 rfl) ?_
            refine w_calli F hP hS (c_X2_readNumber l D Y ad N hI _ pb hh pd n (a + 1) (chr_ pd n a) 1 hn (va_up_self _ _ _) ((va_up_ne _ _ (by omega)).trans hcd) (by omega)) (cwVm 0 F.2.2.2.2.1 (fun _ h => h) mw_615 mw_612 mw_613 mw_614 mw_26 rfl rfl ydX2_readNumber ⟨by decide, by decide⟩) (by omega) (va_up_self _ _ _) rfl rfl hl.1 rfl (Nat.le_of_ble_eq_true rfl) dX2_readOrder_118 ⟨Nat.zero_le _, Nat.zero_le _⟩ (fun r C2 H locs hq hP hS => ?_)
            by_cases hd12 : isDg (chr_ pd n (a + 1))
            · obtain ⟨hq1, hq2⟩ := hq.1 hd12; rw [hq2, uu] at hP; subst hq1
              exact w_zret F hr hlocks hP hS (Or.inr rfl) dX2_readOrder_121 ⟨fun _ => ⟨rfl, by unfold P_end P_no; simp only [if_pos hd12, if_neg k1, if_neg k3, if_neg k5, if_neg k7, if_pos k10]⟩, fun q => absurd (show P_ok pd n a by unfold P_ok; simp only [if_pos hd12, if_neg k1, if_neg k3, if_neg k5, if_neg k7, if_pos k10]; exact hd12) q⟩
            · obtain ⟨hq1, hq2⟩ := hq.2 hd12; rw [hq2] at hP; subst hq1
              exact w_zret F hr hlocks hP hS (Or.inl rfl) dX2_readOrder_121 ⟨fun q => absurd q (show ¬ P_ok pd n a by unfold P_ok; simp only [if_neg hd12, if_neg k1, if_neg k3, if_neg k5, if_neg k7, if_pos k10]; exact hd12), fun _ => ⟨rfl, 1, by unfold P_end; simp only [if_neg hd12, if_neg k1, if_neg k3, if_neg k5, if_neg k7, if_pos k10, N_end]⟩⟩
          · by_cases k13 : chr_ pd n a = 104
            · refine lv_lookup (off := 90) (tgt := 107) F.1 F.2.1 dX2_readOrder_17 (by decide) ((lv_osw k1 rfl).trans ((lv_osw k3 rfl).trans ((lv_osw k5 rfl).trans ((lv_osw k7 rfl).trans ((lv_osw k10 rfl).trans ((by rw [k13]; rfl))))))) (by decide) ?_
              refine lv_aload_n F.1 F.2.1 dX2_readOrder_107 rfl (lv_at hl 0 rfl) ?_
              refine lv_dup F.1 F.2.1 dX2_readOrder_108 rfl ?_
              refine gf_X2_19 F hP (by omega) (va_up_self _ _ _) (v := .int (nI a)) rfl dX2_readOrder_109 ?_
              refine lv_iconst (v := 1) F.1 F.2.1 dX2_readOrder_112 (by decide) ?_
              refine lv_iadd F.1 F.2.1 dX2_readOrder_113 ?_
              refine lv_topi (fun v14 ev14 => ?_)
              have ev14 : v14 = nI (a + 1) := ev14.trans (nI_succ (a)).symm
              subst ev14
              refine pf_X2_19 F hI hP hS (by omega) (va_up_self _ _ _) (Nat.le_of_ble_eq_true rfl) (C1 := va_up C pb (pdV ad pb (nI n) (nI (a + 1)) (chr_ pd n a) 1)) up_self dX2_readOrder_114 (fun H locs hP hS => ?_)
              refine lv_aload_n F.1 F.2.1 dX2_readOrder_117 rfl (lv_at hl 0 rfl) ?_
              refine w_calli F hP hS (c_X2_readNumber l D Y ad N hI _ pb hh pd n (a + 1) (chr_ pd n a) 1 hn (va_up_self _ _ _) ((va_up_ne _ _ (by omega)).trans hcd) (by omega)) (cwVm 0 F.2.2.2.2.1 (fun _ h => h) mw_615 mw_612 mw_613 mw_614 mw_26 rfl rfl ydX2_readNumber ⟨by decide, by decide⟩) (by omega) (va_up_self _ _ _) rfl rfl hl.1 rfl (Nat.le_of_ble_eq_true rfl) dX2_readOrder_118 ⟨Nat.zero_le _, Nat.zero_le _⟩ (fun r C2 H locs hq hP hS => ?_)
              by_cases hd15 : isDg (chr_ pd n (a + 1))
              · obtain ⟨hq1, hq2⟩ := hq.1 hd15; rw [hq2, uu] at hP; subst hq1
                exact w_zret F hr hlocks hP hS (Or.inr rfl) dX2_readOrder_121 ⟨fun _ => ⟨rfl, by unfold P_end P_no; simp only [if_pos hd15, if_neg k1, if_neg k3, if_neg k5, if_neg k7, if_neg k10, if_pos k13]⟩, fun q => absurd (show P_ok pd n a by unfold P_ok; simp only [if_pos hd15, if_neg k1, if_neg k3, if_neg k5, if_neg k7, if_neg k10, if_pos k13]; exact hd15) q⟩
              · obtain ⟨hq1, hq2⟩ := hq.2 hd15; rw [hq2] at hP; subst hq1
                exact w_zret F hr hlocks hP hS (Or.inl rfl) dX2_readOrder_121 ⟨fun q => absurd q (show ¬ P_ok pd n a by unfold P_ok; simp only [if_neg hd15, if_neg k1, if_neg k3, if_neg k5, if_neg k7, if_neg k10, if_pos k13]; exact hd15), fun _ => ⟨rfl, 1, by unfold P_end; simp only [if_neg hd15, if_neg k1, if_neg k3, if_neg k5, if_neg k7, if_neg k10, if_pos k13, N_end]⟩⟩
            · by_cases k16 : chr_ pd n a = 108
              · refine lv_lookup (off := 75) (tgt := 92) F.1 F.2.1 dX2_readOrder_17 (by decide) ((lv_osw k1 rfl).trans ((lv_osw k3 rfl).trans ((lv_osw k5 rfl).trans ((lv_osw k7 rfl).trans ((lv_osw k10 rfl).trans ((lv_osw k13 rfl).trans ((by rw [k16]; rfl)))))))) (by decide) ?_
                refine lv_aload_n F.1 F.2.1 dX2_readOrder_92 rfl (lv_at hl 0 rfl) ?_
                refine lv_dup F.1 F.2.1 dX2_readOrder_93 rfl ?_
                refine gf_X2_19 F hP (by omega) (va_up_self _ _ _) (v := .int (nI a)) rfl dX2_readOrder_94 ?_
                refine lv_iconst (v := 1) F.1 F.2.1 dX2_readOrder_97 (by decide) ?_
                refine lv_iadd F.1 F.2.1 dX2_readOrder_98 ?_
                refine lv_topi (fun v17 ev17 => ?_)
                have ev17 : v17 = nI (a + 1) := ev17.trans (nI_succ (a)).symm
                subst ev17
                refine pf_X2_19 F hI hP hS (by omega) (va_up_self _ _ _) (Nat.le_of_ble_eq_true rfl) (C1 := va_up C pb (pdV ad pb (nI n) (nI (a + 1)) (chr_ pd n a) 1)) up_self dX2_readOrder_99 (fun H locs hP hS => ?_)
                refine lv_aload_n F.1 F.2.1 dX2_readOrder_102 rfl (lv_at hl 0 rfl) ?_
                refine w_calli F hP hS (c_X2_readDigit l D Y ad N hI _ pb hh pd n (a + 1) (chr_ pd n a) 1 hn (va_up_self _ _ _) ((va_up_ne _ _ (by omega)).trans hcd) (by omega)) (cwVm 0 F.2.2.2.2.1 (fun _ h => h) mw_608 mw_605 mw_606 mw_607 mw_26 rfl rfl ydX2_readDigit ⟨by decide, by decide⟩) (by omega) (va_up_self _ _ _) rfl rfl hl.1 rfl (Nat.le_of_ble_eq_true rfl) dX2_readOrder_103 ⟨Nat.zero_le _, Nat.zero_le _⟩ (fun r C2 H locs hq hP hS => ?_)
                by_cases hd18 : isDg (chr_ pd n (a + 1))
                · obtain ⟨hq1, hq2⟩ := hq.1 hd18; rw [hq2, uu] at hP; subst hq1
                  exact w_zret F hr hlocks hP hS (Or.inr rfl) dX2_readOrder_106 ⟨fun _ => ⟨rfl, by unfold P_end P_no; simp only [if_pos hd18, if_neg k1, if_neg k3, if_neg k5, if_neg k7, if_neg k10, if_neg k13, if_pos k16]⟩, fun q => absurd (show P_ok pd n a by unfold P_ok; simp only [if_pos hd18, if_neg k1, if_neg k3, if_neg k5, if_neg k7, if_neg k10, if_neg k13, if_pos k16]; exact hd18) q⟩
                · obtain ⟨hq1, hq2⟩ := hq.2 hd18; rw [hq2] at hP; subst hq1
                  exact w_zret F hr hlocks hP hS (Or.inl rfl) dX2_readOrder_106 ⟨fun q => absurd q (show ¬ P_ok pd n a by unfold P_ok; simp only [if_neg hd18, if_neg k1, if_neg k3, if_neg k5, if_neg k7, if_neg k10, if_neg k13, if_pos k16]; exact hd18), fun _ => ⟨rfl, 1, by unfold P_end; simp only [if_neg hd18, if_neg k1, if_neg k3, if_neg k5, if_neg k7, if_neg k10, if_neg k13, if_pos k16, N_end]⟩⟩
              · by_cases k19 : chr_ pd n a = 114
                · refine lv_lookup (off := 105) (tgt := 122) F.1 F.2.1 dX2_readOrder_17 (by decide) ((lv_osw k1 rfl).trans ((lv_osw k3 rfl).trans ((lv_osw k5 rfl).trans ((lv_osw k7 rfl).trans ((lv_osw k10 rfl).trans ((lv_osw k13 rfl).trans ((lv_osw k16 rfl).trans ((by rw [k19]; rfl))))))))) (by decide) ?_
                  refine lv_aload_n F.1 F.2.1 dX2_readOrder_122 rfl (lv_at hl 0 rfl) ?_
                  refine lv_dup F.1 F.2.1 dX2_readOrder_123 rfl ?_
                  refine gf_X2_19 F hP (by omega) (va_up_self _ _ _) (v := .int (nI a)) rfl dX2_readOrder_124 ?_
                  refine lv_iconst (v := 1) F.1 F.2.1 dX2_readOrder_127 (by decide) ?_
                  refine lv_iadd F.1 F.2.1 dX2_readOrder_128 ?_
                  refine lv_topi (fun v20 ev20 => ?_)
                  have ev20 : v20 = nI (a + 1) := ev20.trans (nI_succ (a)).symm
                  subst ev20
                  refine pf_X2_19 F hI hP hS (by omega) (va_up_self _ _ _) (Nat.le_of_ble_eq_true rfl) (C1 := va_up C pb (pdV ad pb (nI n) (nI (a + 1)) (chr_ pd n a) 1)) up_self dX2_readOrder_129 (fun H locs hP hS => ?_)
                  refine lv_aload_n F.1 F.2.1 dX2_readOrder_132 rfl (lv_at hl 0 rfl) ?_
                  refine w_calli F hP hS (c_X2_codeHere l D Y ad N hI _ pb hh pd n (a + 1) (chr_ pd n a) 1 hn (va_up_self _ _ _) ((va_up_ne _ _ (by omega)).trans hcd) (by omega)) (cwVm 0 F.2.2.2.2.1 (fun _ h => h) mw_604 mw_601 mw_602 mw_603 mw_26 rfl rfl ydX2_codeHere ⟨by decide, by decide⟩) (by omega) (va_up_self _ _ _) rfl rfl hl.1 rfl (Nat.le_of_ble_eq_true rfl) dX2_readOrder_133 ⟨Nat.zero_le _, Nat.zero_le _⟩ (fun r C2 H locs hq hP hS => ?_)
                  obtain ⟨hq1, hq2⟩ := hq; rw [hq1] at hP; subst hq2
                  refine w_calls F hP hS (c_X2_isDigit l D Y ad N hI _ (chr_ pd n (a + 1))) (cwSm 1 F.2.2.2.2.1 (fun _ h => h) mw_611 mw_609 mw_610 mw_26 rfl rfl ydX2_isDigit ⟨by decide, by decide⟩) rfl hl.1 rfl (Nat.le_of_ble_eq_true rfl) dX2_readOrder_136 ⟨Nat.zero_le _, Nat.zero_le _⟩ (fun r C2 H locs hq hP hS => ?_)
                  obtain ⟨hq1, hbrd21⟩ := hq; rw [hq1] at hP; generalize r = rd21 at hbrd21 ⊢
                  refine lv_if_eq (tgt := 149) F.1 F.2.1 dX2_readOrder_139 (by decide) (fun c22 => ?_) (fun c22 => ?_)
                  · refine lv_iconst (v := 1) F.1 F.2.1 dX2_readOrder_149 (by decide) ?_
                    refine lv_goto (tgt := 154) F.1 F.2.1 dX2_readOrder_150 (by decide) ?_
                    exact w_zret F hr hlocks hP hS (Or.inr rfl) dX2_readOrder_154 ⟨fun _ => ⟨rfl, by unfold P_end P_no; simp only [if_neg k1, if_neg k3, if_neg k5, if_neg k7, if_neg k10, if_neg k13, if_neg k16, if_pos k19, if_neg (b_f hbrd21 c22)]⟩, fun q => absurd (show P_ok pd n a by unfold P_ok; simp only [if_neg k1, if_neg k3, if_neg k5, if_neg k7, if_neg k10, if_neg k13, if_neg k16, if_pos k19, if_neg (b_f hbrd21 c22)]) q⟩
                  · refine lv_aload_n F.1 F.2.1 dX2_readOrder_142 rfl (lv_at hl 0 rfl) ?_
                    refine w_calli F hP hS (c_X2_readNumber l D Y ad N hI _ pb hh pd n (a + 1) (chr_ pd n a) 1 hn (va_up_self _ _ _) ((va_up_ne _ _ (by omega)).trans hcd) (by omega)) (cwVm 0 F.2.2.2.2.1 (fun _ h => h) mw_615 mw_612 mw_613 mw_614 mw_26 rfl rfl ydX2_readNumber ⟨by decide, by decide⟩) (by omega) (va_up_self _ _ _) rfl rfl hl.1 rfl (Nat.le_of_ble_eq_true rfl) dX2_readOrder_143 ⟨Nat.zero_le _, Nat.zero_le _⟩ (fun r C2 H locs hq hP hS => ?_)
                    by_cases hd23 : isDg (chr_ pd n (a + 1))
                    · obtain ⟨hq1, hq2⟩ := hq.1 hd23; rw [hq2, uu] at hP; subst hq1
                      refine lv_if_eq (tgt := 153) F.1 F.2.1 dX2_readOrder_146 (by decide) (fun c24 => False.elim (by revert c24; decide)) (fun c24 => ?_)
                      refine lv_iconst (v := 1) F.1 F.2.1 dX2_readOrder_149 (by decide) ?_
                      refine lv_goto (tgt := 154) F.1 F.2.1 dX2_readOrder_150 (by decide) ?_
                      exact w_zret F hr hlocks hP hS (Or.inr rfl) dX2_readOrder_154 ⟨fun _ => ⟨rfl, by unfold P_end P_no; simp only [if_pos hd23, if_neg k1, if_neg k3, if_neg k5, if_neg k7, if_neg k10, if_neg k13, if_neg k16, if_pos k19, if_pos (b_t hbrd21 c22)]⟩, fun q => absurd (show P_ok pd n a by unfold P_ok; simp only [if_pos hd23, if_neg k1, if_neg k3, if_neg k5, if_neg k7, if_neg k10, if_neg k13, if_neg k16, if_pos k19, if_pos (b_t hbrd21 c22)]) q⟩
                    · obtain ⟨hq1, hq2⟩ := hq.2 hd23; rw [hq2] at hP; subst hq1
                      refine lv_if_eq (tgt := 153) F.1 F.2.1 dX2_readOrder_146 (by decide) (fun c25 => ?_) (fun c25 => False.elim (by revert c25; decide))
                      refine lv_iconst (v := 0) F.1 F.2.1 dX2_readOrder_153 (by decide) ?_
                      exact w_zret F hr hlocks hP hS (Or.inl rfl) dX2_readOrder_154 (absurd (b_t hbrd21 c22) hd23)
                · refine lv_lookup (off := 150) (tgt := 167) F.1 F.2.1 dX2_readOrder_17 (by decide) ((lv_osw k1 rfl).trans ((lv_osw k3 rfl).trans ((lv_osw k5 rfl).trans ((lv_osw k7 rfl).trans ((lv_osw k10 rfl).trans ((lv_osw k13 rfl).trans ((lv_osw k16 rfl).trans ((lv_osw k19 rfl).trans (rfl))))))))) (by decide) ?_
                  refine lv_iconst (v := 0) F.1 F.2.1 dX2_readOrder_167 (by decide) ?_
                  exact w_zret F hr hlocks hP hS (Or.inl rfl) dX2_readOrder_168 ⟨fun q => absurd q (show ¬ P_ok pd n a by unfold P_ok; simp only [if_neg k1, if_neg k3, if_neg k5, if_neg k7, if_neg k10, if_neg k13, if_neg k16, if_neg k19]; exact id), fun _ => ⟨rfl, 1, by unfold P_end; simp only [if_neg k1, if_neg k3, if_neg k5, if_neg k7, if_neg k10, if_neg k13, if_neg k16, if_neg k19]⟩⟩
