/-! HoopStairs$Stair, RunLog, Settings: the rest -/
def T_okp (kd v : Int32) : Prop := 0 ≤ kd ∧ kd ≤ 2 ∧ 1 ≤ v ∧ v ≤ (if kd = 2 then 99 else 9)
def T_oks (x : Int32) : Prop := 1 ≤ x ∧ x ≤ 60
theorem ne_col {q5 f : Nat → Int32} {k we : Nat} (h6 : ∀ k, k < 20 → q5 k = f (61 + 5 * k + (we + 1))) (j : Nat) (hj : j < 20) : upd q5 k (f (62 + 5 * k + we) + 1) j = upd f (62 + 5 * k + we) (f (62 + 5 * k + we) + 1) (61 + 5 * j + (we + 1)) := by
  by_cases a : j = k
  · rw [a, upd_s, show 61 + 5 * k + (we + 1) = 62 + 5 * k + we by omega, upd_s]
  · rw [upd_n a, upd_n (by omega)]
    exact h6 j hj
set_option maxRecDepth 20000 in
set_option maxHeartbeats 4000000 in
/-- may a part be so -/
theorem c_X5_allows (l : Launch) (D : va_G) (Y : Nat → ClassId) (ad : Nat → Nat) (N : Nat) (hI : wI ad N) (C : Nat → va_E) (kd v : Int32) : Met l yX5_allows (wm yX5_allows cX5_allows 2 (some .boolean)) { frames := 0, cells := 0, slots := 0, locals := 0 } (wPc D Y ad N [.int (kd), .int (v)] C) (wQi D ad N (fun r C' => C' = C ∧ r = if 0 ≤ kd ∧ kd ≤ 2 ∧ 1 ≤ v ∧ v ≤ (if kd = 2 then 99 else 9) then 1 else 0)) 0 0 (wA ad N) := by
  refine wMet RX5 rfl (by decide +kernel) (Nat.le_of_ble_eq_true rfl) (lv := [(0, .int (kd)), (1, .int (v))]) rfl ?_
  intro p e s m below meth c ls F hr hlocks hP hl
  have hS : va_S (wA ad N) s.heap s.heap [] := va_S.rf
  refine lv_iload_n F.1 F.2.1 dX5_allows_0 rfl (lv_at hl 0 rfl) ?_
  refine lv_if_lt (tgt := 14) F.1 F.2.1 dX5_allows_1 (by decide) (fun c1 => ?_) (fun c1 => ?_)
  · refine lv_iconst (v := 0) F.1 F.2.1 dX5_allows_14 (by decide) ?_
    exact w_zret F hr hlocks hP hS (Or.inl rfl) dX5_allows_15 ⟨rfl, by simp [c1, i_nle c1]⟩
  · refine lv_iload_n F.1 F.2.1 dX5_allows_4 rfl (lv_at hl 0 rfl) ?_
    refine lv_iconst (v := 2) F.1 F.2.1 dX5_allows_5 (by decide) ?_
    refine lv_icmp_gt (tgt := 14) F.1 F.2.1 dX5_allows_6 (by decide) (fun c2 => ?_) (fun c2 => ?_)
    · refine lv_iconst (v := 0) F.1 F.2.1 dX5_allows_14 (by decide) ?_
      exact w_zret F hr hlocks hP hS (Or.inl rfl) dX5_allows_15 ⟨rfl, by simp [c1, i_le c1, c2, i_nle c2]⟩
    · refine lv_iload_n F.1 F.2.1 dX5_allows_9 rfl (lv_at hl 1 rfl) ?_
      refine lv_iconst (v := 1) F.1 F.2.1 dX5_allows_10 (by decide) ?_
      refine lv_icmp_ge (tgt := 16) F.1 F.2.1 dX5_allows_11 (by decide) (fun c3 => ?_) (fun c3 => ?_)
      · refine lv_iload_n F.1 F.2.1 dX5_allows_16 rfl (lv_at hl 1 rfl) ?_
        refine lv_iload_n F.1 F.2.1 dX5_allows_17 rfl (lv_at hl 0 rfl) ?_
        refine lv_iconst (v := 2) F.1 F.2.1 dX5_allows_18 (by decide) ?_
        refine lv_icmp_ne (tgt := 27) F.1 F.2.1 dX5_allows_19 (by decide) (fun c4 => ?_) (fun c4 => ?_)
        · refine lv_bipush (v := 9) F.1 F.2.1 dX5_allows_27 (by decide) ?_
          refine lv_icmp_gt (tgt := 36) F.1 F.2.1 dX5_allows_29 (by decide) (fun c5 => ?_) (fun c5 => ?_)
          · refine lv_iconst (v := 0) F.1 F.2.1 dX5_allows_36 (by decide) ?_
            exact w_zret F hr hlocks hP hS (Or.inl rfl) dX5_allows_37 ⟨rfl, by simp [c1, i_le c1, c2, i_le c2, c3, i_nlt c3, c4, c5, i_nle c5]⟩
          · refine lv_iconst (v := 1) F.1 F.2.1 dX5_allows_32 (by decide) ?_
            refine lv_goto (tgt := 37) F.1 F.2.1 dX5_allows_33 (by decide) ?_
            exact w_zret F hr hlocks hP hS (Or.inr rfl) dX5_allows_37 ⟨rfl, by simp [c1, i_le c1, c2, i_le c2, c3, i_nlt c3, c4, c5, i_le c5]⟩
        · refine lv_bipush (v := 99) F.1 F.2.1 dX5_allows_22 (by decide) ?_
          refine lv_goto (tgt := 29) F.1 F.2.1 dX5_allows_24 (by decide) ?_
          refine lv_icmp_gt (tgt := 36) F.1 F.2.1 dX5_allows_29 (by decide) (fun c6 => ?_) (fun c6 => ?_)
          · refine lv_iconst (v := 0) F.1 F.2.1 dX5_allows_36 (by decide) ?_
            exact w_zret F hr hlocks hP hS (Or.inl rfl) dX5_allows_37 ⟨rfl, by simp [c1, i_le c1, c2, i_le c2, c3, i_nlt c3, c4, c6, i_nle c6]⟩
          · refine lv_iconst (v := 1) F.1 F.2.1 dX5_allows_32 (by decide) ?_
            refine lv_goto (tgt := 37) F.1 F.2.1 dX5_allows_33 (by decide) ?_
            exact w_zret F hr hlocks hP hS (Or.inr rfl) dX5_allows_37 ⟨rfl, by simp [c1, i_le c1, c2, i_le c2, c3, i_nlt c3, c4, c6, i_le c6]⟩
      · refine lv_iconst (v := 0) F.1 F.2.1 dX5_allows_14 (by decide) ?_
        exact w_zret F hr hlocks hP hS (Or.inl rfl) dX5_allows_15 ⟨rfl, by simp [c1, i_le c1, c2, i_le c2, c3, i_lt c3]⟩
set_option maxRecDepth 20000 in
set_option maxHeartbeats 4000000 in
/-- may a hoop be so -/
theorem c_X1_allows (l : Launch) (D : va_G) (Y : Nat → ClassId) (ad : Nat → Nat) (N : Nat) (hI : wI ad N) (C : Nat → va_E) (x : Int32) : Met l yX1_allows (wm yX1_allows cX1_allows 1 (some .boolean)) { frames := 0, cells := 0, slots := 0, locals := 0 } (wPc D Y ad N [.int (x)] C) (wQi D ad N (fun r C' => C' = C ∧ r = if 1 ≤ x ∧ x ≤ 60 then 1 else 0)) 0 0 (wA ad N) := by
  refine wMet RX1 rfl (by decide +kernel) (Nat.le_of_ble_eq_true rfl) (lv := [(0, .int (x))]) rfl ?_
  intro p e s m below meth c ls F hr hlocks hP hl
  have hS : va_S (wA ad N) s.heap s.heap [] := va_S.rf
  refine lv_iload_n F.1 F.2.1 dX1_allows_0 rfl (lv_at hl 0 rfl) ?_
  refine lv_iconst (v := 1) F.1 F.2.1 dX1_allows_1 (by decide) ?_
  refine lv_icmp_lt (tgt := 15) F.1 F.2.1 dX1_allows_2 (by decide) (fun c1 => ?_) (fun c1 => ?_)
  · refine lv_iconst (v := 0) F.1 F.2.1 dX1_allows_15 (by decide) ?_
    exact w_zret F hr hlocks hP hS (Or.inl rfl) dX1_allows_16 ⟨rfl, by simp [c1, i_nle c1]⟩
  · refine lv_iload_n F.1 F.2.1 dX1_allows_5 rfl (lv_at hl 0 rfl) ?_
    refine lv_bipush (v := 60) F.1 F.2.1 dX1_allows_6 (by decide) ?_
    refine lv_icmp_gt (tgt := 15) F.1 F.2.1 dX1_allows_8 (by decide) (fun c2 => ?_) (fun c2 => ?_)
    · refine lv_iconst (v := 0) F.1 F.2.1 dX1_allows_15 (by decide) ?_
      exact w_zret F hr hlocks hP hS (Or.inl rfl) dX1_allows_16 ⟨rfl, by simp [c1, i_le c1, c2, i_nle c2]⟩
    · refine lv_iconst (v := 1) F.1 F.2.1 dX1_allows_11 (by decide) ?_
      refine lv_goto (tgt := 16) F.1 F.2.1 dX1_allows_12 (by decide) ?_
      exact w_zret F hr hlocks hP hS (Or.inr rfl) dX1_allows_16 ⟨rfl, by simp [c1, i_le c1, c2, i_le c2]⟩
set_option maxRecDepth 20000 in
set_option maxHeartbeats 4000000 in
/-- is there a run -/
theorem c_X3_has (l : Launch) (D : va_G) (Y : Nat → ClassId) (ad : Nat → Nat) (N : Nat) (hI : wI ad N) (C : Nat → va_E) (st : Nat) (hh : st < N) (gr : Nat) (n : Int32) (hC : C st = .inr (3, [.ref gr, .int n])) (x : Int32) : Met l yX3_has (wm yX3_has cX3_has 2 (some .boolean)) { frames := 0, cells := 0, slots := 0, locals := 0 } (wPc D Y ad N [.ref (ad st), .int (x)] C) (wQi D ad N (fun r C' => C' = C ∧ r = if 0 ≤ x ∧ x < n ∧ x < 10 then 1 else 0)) 0 0 (wA ad N) := by
  refine wMet RX3 rfl (by decide +kernel) (Nat.le_of_ble_eq_true rfl) (lv := [(0, .ref (ad st)), (1, .int (x))]) rfl ?_
  intro p e s m below meth c ls F hr hlocks hP hl
  have hS : va_S (wA ad N) s.heap s.heap [] := va_S.rf
  refine lv_iload_n F.1 F.2.1 dX3_has_0 rfl (lv_at hl 1 rfl) ?_
  refine lv_if_lt (tgt := 22) F.1 F.2.1 dX3_has_1 (by decide) (fun c1 => ?_) (fun c1 => ?_)
  · refine lv_iconst (v := 0) F.1 F.2.1 dX3_has_22 (by decide) ?_
    exact w_zret F hr hlocks hP hS (Or.inl rfl) dX3_has_23 ⟨rfl, by simp [c1, i_nle c1]⟩
  · refine lv_iload_n F.1 F.2.1 dX3_has_4 rfl (lv_at hl 1 rfl) ?_
    refine lv_aload_n F.1 F.2.1 dX3_has_5 rfl (lv_at hl 0 rfl) ?_
    refine gf_X3_14 F hP hh hC (v := .int (n)) rfl dX3_has_6 ?_
    refine lv_icmp_ge (tgt := 22) F.1 F.2.1 dX3_has_9 (by decide) (fun c2 => ?_) (fun c2 => ?_)
    · refine lv_iconst (v := 0) F.1 F.2.1 dX3_has_22 (by decide) ?_
      exact w_zret F hr hlocks hP hS (Or.inl rfl) dX3_has_23 ⟨rfl, by simp [c1, i_le c1, c2, i_nlt c2]⟩
    · refine lv_iload_n F.1 F.2.1 dX3_has_12 rfl (lv_at hl 1 rfl) ?_
      refine lv_bipush (v := 10) F.1 F.2.1 dX3_has_13 (by decide) ?_
      refine lv_icmp_ge (tgt := 22) F.1 F.2.1 dX3_has_15 (by decide) (fun c3 => ?_) (fun c3 => ?_)
      · refine lv_iconst (v := 0) F.1 F.2.1 dX3_has_22 (by decide) ?_
        exact w_zret F hr hlocks hP hS (Or.inl rfl) dX3_has_23 ⟨rfl, by simp [c1, i_le c1, c2, i_lt c2, c3, i_nlt c3]⟩
      · refine lv_iconst (v := 1) F.1 F.2.1 dX3_has_18 (by decide) ?_
        refine lv_goto (tgt := 23) F.1 F.2.1 dX3_has_19 (by decide) ?_
        exact w_zret F hr hlocks hP hS (Or.inr rfl) dX3_has_23 ⟨rfl, by simp [c1, i_le c1, c2, i_lt c2, c3, i_lt c3]⟩
set_option maxRecDepth 20000 in
set_option maxHeartbeats 4000000 in
/-- something of a run -/
theorem c_X3_entry (l : Launch) (D : va_G) (Y : Nat → ClassId) (ad : Nat → Nat) (N : Nat) (hI : wI ad N) (C : Nat → va_E) (st : Nat) (hh : st + 5 < N) (f : Nat → Int32) (hs : isLog Y ad C st f) (k j : Nat) (hk : k < 10) (hkn : nI k < f 20) (hj : j < 4) : Met l yX3_entry (wm yX3_entry cX3_entry 3 (some .int)) { frames := 1, cells := 0, slots := 0, locals := 21 } (wPc D Y ad N [.ref (ad st), .int (nI k), .int (nI j)] C) (wQi D ad N (fun r C' => C' = C ∧ r = f (21 + 4 * k + j))) 0 0 (wA ad N) := by
  obtain ⟨qg, hg, hgq⟩ := hs.2.1
  obtain ⟨q, h1, h1q⟩ := hs.2.2 j hj
  refine wMet RX3 rfl (by decide +kernel) (Nat.le_of_ble_eq_true rfl) (lv := [(0, .ref (ad st)), (1, .int (nI k)), (2, .int (nI j))]) rfl ?_
  intro p e s m below meth c ls F hr hlocks hP hl
  have hS : va_S (wA ad N) s.heap s.heap [] := va_S.rf
  refine lv_aload_n F.1 F.2.1 dX3_entry_0 rfl (lv_at hl 0 rfl) ?_
  refine lv_iload_n F.1 F.2.1 dX3_entry_1 rfl (lv_at hl 1 rfl) ?_
  refine w_calli F hP hS (c_X3_has l D Y ad N hI _ st (by omega) _ _ hs.1 (nI k)) (cwVm 1 F.2.2.2.2.1 (fun _ h => h) mw_469 mw_474 mw_467 mw_468 mw_48 rfl rfl ydX3_has ⟨by decide, by decide⟩) (by omega) hs.1 rfl rfl hl.1 rfl (Nat.le_of_ble_eq_true rfl) dX3_entry_2 ⟨Nat.zero_le _, Nat.zero_le _⟩ (fun r C2 H locs hq hP hS => ?_)
  obtain ⟨hq1, hq2⟩ := hq; rw [hq1] at hP
  rw [(if_pos ⟨nI_pos' (by omega), hkn, nI_lt hk (by decide)⟩)] at hq2; subst hq2
  refine lv_if_eq (tgt := 17) F.1 F.2.1 dX3_entry_5 (by decide) (fun c1 => False.elim (absurd c1 (by decide))) (fun c1 => ?_)
  refine lv_iload_n F.1 F.2.1 dX3_entry_8 rfl (lv_at hl 2 rfl) ?_
  refine lv_if_lt (tgt := 17) F.1 F.2.1 dX3_entry_9 (by decide) (fun c2 => False.elim (nI_pos (by omega) c2)) (fun c2 => ?_)
  refine lv_iload_n F.1 F.2.1 dX3_entry_12 rfl (lv_at hl 2 rfl) ?_
  refine lv_iconst (v := 4) F.1 F.2.1 dX3_entry_13 (by decide) ?_
  refine lv_icmp_lt (tgt := 19) F.1 F.2.1 dX3_entry_14 (by decide) (fun c3 => ?_) (fun c3 => False.elim (c3 (nI_lt hj (by decide))))
  refine lv_aload_n F.1 F.2.1 dX3_entry_19 rfl (lv_at hl 0 rfl) ?_
  refine gf_X3_11 F hP (by omega) hs.1 (v := .ref (ad (st + 1))) rfl dX3_entry_20 ?_
  refine lv_iload_n F.1 F.2.1 dX3_entry_23 rfl (lv_at hl 2 rfl) ?_
  refine w_gald F hP (by omega) hg (k := j) rfl hj (Nat.le_of_ble_eq_true rfl) (v := ad (st + 2 + j)) (hgq j hj) dX3_entry_24 ?_
  refine lv_iload_n F.1 F.2.1 dX3_entry_25 rfl (lv_at hl 1 rfl) ?_
  refine w_iald F hP (by omega) h1 (k := k) rfl hk (Nat.le_of_ble_eq_true rfl) (v := f (21 + 4 * k + j)) (h1q k hk) dX3_entry_26 ?_
  exact w_iret F hr hlocks hP hS dX3_entry_27 ⟨rfl, rfl⟩
set_option maxRecDepth 20000 in
set_option maxHeartbeats 4000000 in
/-- a hoop ended at a part -/
theorem c_X5_noteEnd (l : Launch) (D : va_G) (Y : Nat → ClassId) (ad : Nat → Nat) (N : Nat) (hI : wI ad N) (C : Nat → va_E) (st : Nat) (hh : st + 6 < N) (f : Nat → Int32) (hs : isStair Y ad C st f) (k we : Nat) (hk : k < 20) (hkn : nI k < f 4) (he : 1 ≤ we) (he3 : we ≤ 3) : Met l yX5_noteEnd (wm yX5_noteEnd cX5_noteEnd 3 none) { frames := 1, cells := 0, slots := 0, locals := 21 } (wPc D Y ad N [.ref (ad st), .int (nI k), .int (nI we)] C) (wQv D ad N (fun C' => isStair Y ad C' st (upd f (62 + 5 * k + we) (f (62 + 5 * k + we) + 1)) ∧ ∀ j, j < st ∨ st + 7 ≤ j → C' j = C j)) 0 0 (wA ad N) := by
  obtain ⟨qs, hqs, hqs1⟩ := hs.2.1
  obtain ⟨q5, h5, h6⟩ := hs.2.2 (we + 1) (by omega)
  refine wMet RX5 rfl (by decide +kernel) (Nat.le_of_ble_eq_true rfl) (lv := [(0, .ref (ad st)), (1, .int (nI k)), (2, .int (nI we))]) rfl ?_
  intro p e s m below meth c ls F hr hlocks hP hl
  have hS : va_S (wA ad N) s.heap s.heap [] := va_S.rf
  refine lv_aload_n F.1 F.2.1 dX5_noteEnd_0 rfl (lv_at hl 0 rfl) ?_
  refine lv_iload_n F.1 F.2.1 dX5_noteEnd_1 rfl (lv_at hl 1 rfl) ?_
  refine w_calli F hP hS (c_X5_has l D Y ad N hI _ st (by omega) _ _ hs.1 (nI k)) (cwVm 1 F.2.2.2.2.1 (fun _ h => h) mw_234 mw_243 mw_232 mw_233 mw_42 rfl rfl ydX5_has ⟨by decide, by decide⟩) (by omega) hs.1 rfl rfl hl.1 rfl (Nat.le_of_ble_eq_true rfl) dX5_noteEnd_2 ⟨Nat.zero_le _, Nat.zero_le _⟩ (fun r C2 H locs hq hP hS => ?_)
  obtain ⟨hq1, hq2⟩ := hq; rw [hq1] at hP
  rw [(if_pos ⟨nI_pos' (by omega), hkn, nI_lt hk (by decide)⟩)] at hq2; subst hq2
  refine lv_if_eq (tgt := 34) F.1 F.2.1 dX5_noteEnd_5 (by decide) (fun c1 => False.elim (absurd c1 (by decide))) (fun c1 => ?_)
  refine lv_iload_n F.1 F.2.1 dX5_noteEnd_8 rfl (lv_at hl 2 rfl) ?_
  refine lv_iconst (v := 1) F.1 F.2.1 dX5_noteEnd_9 (by decide) ?_
  refine lv_icmp_lt (tgt := 34) F.1 F.2.1 dX5_noteEnd_10 (by decide) (fun c2 => False.elim (i_nlt (nI_le (a := 1) he (by omega)) c2)) (fun c2 => ?_)
  refine lv_iload_n F.1 F.2.1 dX5_noteEnd_13 rfl (lv_at hl 2 rfl) ?_
  refine lv_iconst (v := 3) F.1 F.2.1 dX5_noteEnd_14 (by decide) ?_
  refine lv_icmp_gt (tgt := 34) F.1 F.2.1 dX5_noteEnd_15 (by decide) (fun c3 => False.elim (i_nlt (nI_le (b := 3) he3 (by decide)) c3)) (fun c3 => ?_)
  refine lv_aload_n F.1 F.2.1 dX5_noteEnd_18 rfl (lv_at hl 0 rfl) ?_
  refine gf_X5_11 F hP (by omega) hs.1 (v := .ref (ad (st + 1))) rfl dX5_noteEnd_19 ?_
  refine lv_iconst (v := 2) F.1 F.2.1 dX5_noteEnd_22 (by decide) ?_
  refine lv_iload_n F.1 F.2.1 dX5_noteEnd_23 rfl (lv_at hl 2 rfl) ?_
  refine lv_iadd F.1 F.2.1 dX5_noteEnd_24 ?_
  refine lv_iconst (v := 1) F.1 F.2.1 dX5_noteEnd_25 (by decide) ?_
  refine lv_isub F.1 F.2.1 dX5_noteEnd_26 ?_
  refine w_gald F hP (by omega) hqs (k := we + 1) (by rw [show (2 : Int32) = nI 2 from rfl, nI_add]; exact (pk_sub (b := 1) (by omega)).trans (congrArg nI (by omega))) (by omega) (Nat.le_of_ble_eq_true rfl) (v := ad (st + 2 + (we + 1))) (hqs1 _ (by omega)) dX5_noteEnd_27 ?_
  refine lv_iload_n F.1 F.2.1 dX5_noteEnd_28 rfl (lv_at hl 1 rfl) ?_
  refine lv_dup2_11 F.1 F.2.1 dX5_noteEnd_29 rfl rfl ?_
  refine w_iald F hP (by omega) h5 (k := k) rfl hk (Nat.le_of_ble_eq_true rfl) (v := f (62 + 5 * k + we)) ((h6 k hk).trans (congrArg f (by omega))) dX5_noteEnd_30 ?_
  refine lv_iconst (v := 1) F.1 F.2.1 dX5_noteEnd_31 (by decide) ?_
  refine lv_iadd F.1 F.2.1 dX5_noteEnd_32 ?_
  refine w_iast F hI hP hS (by omega) h5 (k := k) rfl hk (by decide) (C1 := va_up C (st + 2 + (we + 1)) (.inl (Y 0, 20, .inl (upd q5 k (f (62 + 5 * k + we) + 1))))) (fun j => rfl) dX5_noteEnd_33 (fun H locs hP hS => ?_)
  exact w_vret F hr hlocks hP hS dX5_noteEnd_34 ⟨⟨by rw [va_up_ne _ _ (by omega), upd_n (by omega)]; exact hs.1, ⟨qs, by rw [va_up_ne _ _ (by omega)]; exact hqs, hqs1⟩, isGrid_up hs.2.2 (ne_col h6) (fun c j hc hne hj => upd_n (by omega))⟩, fun j hj => va_up_ne _ _ (by omega)⟩
set_option maxRecDepth 20000 in
set_option maxHeartbeats 4000000 in
/-- a hoop passed -/
theorem c_X5_noteEnd_p (l : Launch) (D : va_G) (Y : Nat → ClassId) (ad : Nat → Nat) (N : Nat) (hI : wI ad N) (C : Nat → va_E) (st : Nat) (hh : st < N) (gr : Nat) (n : Int32) (hC : C st = .inr (5, [.ref gr, .int n])) (x : Int32) : Met l yX5_noteEnd (wm yX5_noteEnd cX5_noteEnd 3 none) { frames := 1, cells := 0, slots := 0, locals := 21 } (wPc D Y ad N [.ref (ad st), .int (x), .int (4)] C) (wQv D ad N (fun C' => C' = C)) 0 0 (wA ad N) := by
  refine wMet RX5 rfl (by decide +kernel) (Nat.le_of_ble_eq_true rfl) (lv := [(0, .ref (ad st)), (1, .int (x)), (2, .int (4))]) rfl ?_
  intro p e s m below meth c ls F hr hlocks hP hl
  have hS : va_S (wA ad N) s.heap s.heap [] := va_S.rf
  refine lv_aload_n F.1 F.2.1 dX5_noteEnd_0 rfl (lv_at hl 0 rfl) ?_
  refine lv_iload_n F.1 F.2.1 dX5_noteEnd_1 rfl (lv_at hl 1 rfl) ?_
  refine w_calli F hP hS (c_X5_has l D Y ad N hI _ st hh _ _ hC x) (cwVm 1 F.2.2.2.2.1 (fun _ h => h) mw_234 mw_243 mw_232 mw_233 mw_42 rfl rfl ydX5_has ⟨by decide, by decide⟩) hh hC rfl rfl hl.1 rfl (Nat.le_of_ble_eq_true rfl) dX5_noteEnd_2 ⟨Nat.zero_le _, Nat.zero_le _⟩ (fun r C2 H locs hq hP hS => ?_)
  obtain ⟨hq1, hq2⟩ := hq; rw [hq1] at hP
  refine lv_if_eq (tgt := 34) F.1 F.2.1 dX5_noteEnd_5 (by decide) (fun c1 => ?_) (fun c1 => ?_)
  · exact w_vret F hr hlocks hP hS dX5_noteEnd_34 rfl
  · refine lv_iload_n F.1 F.2.1 dX5_noteEnd_8 rfl (lv_at hl 2 rfl) ?_
    refine lv_iconst (v := 1) F.1 F.2.1 dX5_noteEnd_9 (by decide) ?_
    refine lv_icmp_lt (tgt := 34) F.1 F.2.1 dX5_noteEnd_10 (by decide) (fun c2 => False.elim (absurd c2 (by decide))) (fun c2 => ?_)
    refine lv_iload_n F.1 F.2.1 dX5_noteEnd_13 rfl (lv_at hl 2 rfl) ?_
    refine lv_iconst (v := 3) F.1 F.2.1 dX5_noteEnd_14 (by decide) ?_
    refine lv_icmp_gt (tgt := 34) F.1 F.2.1 dX5_noteEnd_15 (by decide) (fun c3 => ?_) (fun c3 => False.elim (absurd (show (3 : Int32) < 4 by decide) c3))
    exact w_vret F hr hlocks hP hS dX5_noteEnd_34 rfl
set_option maxRecDepth 20000 in
set_option maxHeartbeats 4000000 in
/-- the sum of a kind -/
theorem c_X5_sumOf (l : Launch) (D : va_G) (Y : Nat → ClassId) (ad : Nat → Nat) (N : Nat) (hI : wI ad N) (C : Nat → va_E) (st : Nat) (hh : st + 6 < N) (f : Nat → Int32) (hs : isStair Y ad C st f) (ho : okS f) (kd : Int32) : Met l yX5_sumOf (wm yX5_sumOf cX5_sumOf 4 (some .int)) { frames := 2, cells := 0, slots := 0, locals := 43 } (wPc D Y ad N [.ref (ad st), .int (kd)] C) (wQi D ad N (fun r C' => C' = C ∧ r = T_sum kd f (f 4).toNatClampNeg)) 0 0 (wA ad N) := by
  refine wMet RX5 rfl (by decide +kernel) (Nat.le_of_ble_eq_true rfl) (lv := [(0, .ref (ad st)), (1, .int (kd))]) rfl ?_
  intro p e s m below meth c ls F hr hlocks hP hl
  have hS : va_S (wA ad N) s.heap s.heap [] := va_S.rf
  refine lv_iconst (v := 0) F.1 F.2.1 dX5_sumOf_0 (by decide) ?_
  refine lv_istore_n (lv' := [(2, .int (0)), (0, .ref (ad st)), (1, .int (kd))]) F.1 F.2.1 dX5_sumOf_1 rfl hl (by decide) rfl (fun ls hl => ?_)
  refine lv_iconst (v := 0) F.1 F.2.1 dX5_sumOf_2 (by decide) ?_
  refine lv_istore_n (lv' := [(3, .int (0)), (2, .int (0)), (0, .ref (ad st)), (1, .int (kd))]) F.1 F.2.1 dX5_sumOf_3 rfl hl (by decide) rfl (fun ls hl => ?_)
  refine w_loop (Inv := fun j ls C' => ∃ k : Nat, j = (f 4).toNatClampNeg - k ∧ k ≤ (f 4).toNatClampNeg ∧ lv_has ls 4 [(3, .int (nI k)), (2, .int (T_sum kd f k)), (0, .ref (ad st)), (1, .int (kd))] ∧ C' = C) ?_ (f 4).toNatClampNeg ⟨0, rfl, Nat.zero_le _, lv_sub hl [0, 1, 2, 3] rfl, rfl⟩ hP hS
  intro j ih H locs ls C1 hInv hP hS
  obtain ⟨k, hi, hk, hl, hC1⟩ := hInv
  rw [hC1] at hP
  refine lv_iload_n F.1 F.2.1 dX5_sumOf_4 rfl (lv_at hl 0 rfl) ?_
  refine lv_aload_n F.1 F.2.1 dX5_sumOf_5 rfl (lv_at hl 2 rfl) ?_
  refine gf_X5_14 F hP (by omega) hs.1 (v := .int (f 4)) rfl dX5_sumOf_6 ?_
  refine lv_icmp_ge (tgt := 37) F.1 F.2.1 dX5_sumOf_9 (by decide) (fun c1 => ?_) (fun c1 => ?_)
  · refine lv_iload_n F.1 F.2.1 dX5_sumOf_37 rfl (lv_at hl 1 rfl) ?_
    exact w_iret F hr hlocks hP hS dX5_sumOf_38 ⟨rfl, by rw [lc_out c1 hk]⟩
  · have hkm := lc_in c1 hk
    have hk20 : k < 20 := by have := m20 ho; omega
    have hkn : nI k < f 4 := i_lt c1
    refine lv_aload_n F.1 F.2.1 dX5_sumOf_12 rfl (lv_at hl 2 rfl) ?_
    refine lv_iload_n F.1 F.2.1 dX5_sumOf_13 rfl (lv_at hl 0 rfl) ?_
    refine lv_iconst (v := 0) F.1 F.2.1 dX5_sumOf_14 (by decide) ?_
    refine w_calli F hP hS (c_X5_entry l D Y ad N hI _ st hh f hs k 0 hk20 hkn (by decide)) (cwVm 2 F.2.2.2.2.1 (fun _ h => h) mw_300 mw_492 mw_298 mw_299 mw_42 rfl rfl ydX5_entry ⟨by decide, by decide⟩) (by omega) hs.1 rfl rfl hl.1 rfl (Nat.le_of_ble_eq_true rfl) dX5_sumOf_15 ⟨Nat.zero_le _, Nat.zero_le _⟩ (fun r C2 H locs hq hP hS => ?_)
    obtain ⟨hq1, hq2⟩ := hq; rw [hq1] at hP
    have hq2 : r = kindAt f k := hq2.trans (congrArg f (by omega))
    subst hq2
    refine lv_iload_n F.1 F.2.1 dX5_sumOf_18 rfl (lv_at hl 3 rfl) ?_
    refine lv_icmp_ne (tgt := 31) F.1 F.2.1 dX5_sumOf_19 (by decide) (fun c2 => ?_) (fun c2 => ?_)
    · refine lv_iinc (v := (nI k) + 1) (lv' := [(3, .int ((nI k) + 1)), (2, .int (T_sum kd f k)), (0, .ref (ad st)), (1, .int (kd))]) F.1 F.2.1 dX5_sumOf_31 hl (k := 0) rfl rfl (by decide) rfl (fun ls hl => ?_)
      refine lv_goto (tgt := 4) F.1 F.2.1 dX5_sumOf_34 (by decide) ?_
      exact ih _ (by omega) _ _ _ C ⟨k + 1, rfl, hkm, (by rw [nI_succ, show T_sum kd f (k + 1) = T_sum kd f k from if_neg c2]; exact lv_sub hl [0, 1, 2, 3] rfl), rfl⟩ hP hS
    · refine lv_iload_n F.1 F.2.1 dX5_sumOf_22 rfl (lv_at hl 1 rfl) ?_
      refine lv_aload_n F.1 F.2.1 dX5_sumOf_23 rfl (lv_at hl 2 rfl) ?_
      refine lv_iload_n F.1 F.2.1 dX5_sumOf_24 rfl (lv_at hl 0 rfl) ?_
      refine lv_iconst (v := 1) F.1 F.2.1 dX5_sumOf_25 (by decide) ?_
      refine w_calli F hP hS (c_X5_entry l D Y ad N hI _ st hh f hs k 1 hk20 hkn (by decide)) (cwVm 2 F.2.2.2.2.1 (fun _ h => h) mw_300 mw_492 mw_298 mw_299 mw_42 rfl rfl ydX5_entry ⟨by decide, by decide⟩) (by omega) hs.1 rfl rfl hl.1 rfl (Nat.le_of_ble_eq_true rfl) dX5_sumOf_26 ⟨Nat.zero_le _, Nat.zero_le _⟩ (fun r C2 H locs hq hP hS => ?_)
      obtain ⟨hq1, hq2⟩ := hq; rw [hq1] at hP
      have hq2 : r = valAt f k := hq2.trans (congrArg f (by omega))
      subst hq2
      refine lv_iadd F.1 F.2.1 dX5_sumOf_29 ?_
      refine lv_istore_n (lv' := [(2, .int ((T_sum kd f k) + (valAt f k))), (3, .int (nI k)), (0, .ref (ad st)), (1, .int (kd))]) F.1 F.2.1 dX5_sumOf_30 rfl hl (by decide) rfl (fun ls hl => ?_)
      refine lv_iinc (v := (nI k) + 1) (lv' := [(3, .int ((nI k) + 1)), (2, .int ((T_sum kd f k) + (valAt f k))), (0, .ref (ad st)), (1, .int (kd))]) F.1 F.2.1 dX5_sumOf_31 hl (k := 1) rfl rfl (by decide) rfl (fun ls hl => ?_)
      refine lv_goto (tgt := 4) F.1 F.2.1 dX5_sumOf_34 (by decide) ?_
      exact ih _ (by omega) _ _ _ C ⟨k + 1, rfl, hkm, (by rw [nI_succ, show T_sum kd f (k + 1) = T_sum kd f k + valAt f k from if_pos c2]; exact lv_sub hl [0, 1, 2, 3] rfl), rfl⟩ hP hS
set_option maxRecDepth 20000 in
set_option maxHeartbeats 4000000 in
/-- the narrowest gate -/
theorem c_X5_narrowestGate (l : Launch) (D : va_G) (Y : Nat → ClassId) (ad : Nat → Nat) (N : Nat) (hI : wI ad N) (C : Nat → va_E) (st : Nat) (hh : st + 6 < N) (f : Nat → Int32) (hs : isStair Y ad C st f) (ho : okS f) : Met l yX5_narrowestGate (wm yX5_narrowestGate cX5_narrowestGate 4 (some .int)) { frames := 2, cells := 0, slots := 0, locals := 43 } (wPc D Y ad N [.ref (ad st)] C) (wQi D ad N (fun r C' => C' = C ∧ r = T_least f (f 4).toNatClampNeg)) 0 0 (wA ad N) := by
  refine wMet RX5 rfl (by decide +kernel) (Nat.le_of_ble_eq_true rfl) (lv := [(0, .ref (ad st))]) rfl ?_
  intro p e s m below meth c ls F hr hlocks hP hl
  have hS : va_S (wA ad N) s.heap s.heap [] := va_S.rf
  refine lv_iconst (v := 0) F.1 F.2.1 dX5_narrowestGate_0 (by decide) ?_
  refine lv_istore_n (lv' := [(1, .int (0)), (0, .ref (ad st))]) F.1 F.2.1 dX5_narrowestGate_1 rfl hl (by decide) rfl (fun ls hl => ?_)
  refine lv_iconst (v := 0) F.1 F.2.1 dX5_narrowestGate_2 (by decide) ?_
  refine lv_istore_n (lv' := [(2, .int (0)), (1, .int (0)), (0, .ref (ad st))]) F.1 F.2.1 dX5_narrowestGate_3 rfl hl (by decide) rfl (fun ls hl => ?_)
  refine w_loop (Inv := fun j ls C' => ∃ k : Nat, j = (f 4).toNatClampNeg - k ∧ k ≤ (f 4).toNatClampNeg ∧ lv_has ls 4 [(2, .int (nI k)), (1, .int (T_least f k)), (0, .ref (ad st))] ∧ C' = C) ?_ (f 4).toNatClampNeg ⟨0, rfl, Nat.zero_le _, lv_sub hl [0, 1, 2] rfl, rfl⟩ hP hS
  intro j ih H locs ls C1 hInv hP hS
  obtain ⟨k, hi, hk, hl, hC1⟩ := hInv
  rw [hC1] at hP
  refine lv_iload_n F.1 F.2.1 dX5_narrowestGate_4 rfl (lv_at hl 0 rfl) ?_
  refine lv_aload_n F.1 F.2.1 dX5_narrowestGate_5 rfl (lv_at hl 2 rfl) ?_
  refine gf_X5_14 F hP (by omega) hs.1 (v := .int (f 4)) rfl dX5_narrowestGate_6 ?_
  refine lv_icmp_ge (tgt := 46) F.1 F.2.1 dX5_narrowestGate_9 (by decide) (fun c1 => ?_) (fun c1 => ?_)
  · refine lv_iload_n F.1 F.2.1 dX5_narrowestGate_46 rfl (lv_at hl 1 rfl) ?_
    exact w_iret F hr hlocks hP hS dX5_narrowestGate_47 ⟨rfl, by rw [lc_out c1 hk]⟩
  · have hkm := lc_in c1 hk
    have hk20 : k < 20 := by have := m20 ho; omega
    have hkn : nI k < f 4 := i_lt c1
    refine lv_aload_n F.1 F.2.1 dX5_narrowestGate_12 rfl (lv_at hl 2 rfl) ?_
    refine lv_iload_n F.1 F.2.1 dX5_narrowestGate_13 rfl (lv_at hl 0 rfl) ?_
    refine lv_iconst (v := 1) F.1 F.2.1 dX5_narrowestGate_14 (by decide) ?_
    refine w_calli F hP hS (c_X5_entry l D Y ad N hI _ st hh f hs k 1 hk20 hkn (by decide)) (cwVm 2 F.2.2.2.2.1 (fun _ h => h) mw_300 mw_492 mw_298 mw_299 mw_42 rfl rfl ydX5_entry ⟨by decide, by decide⟩) (by omega) hs.1 rfl rfl hl.1 rfl (Nat.le_of_ble_eq_true rfl) dX5_narrowestGate_15 ⟨Nat.zero_le _, Nat.zero_le _⟩ (fun r C2 H locs hq hP hS => ?_)
    obtain ⟨hq1, hq2⟩ := hq; rw [hq1] at hP
    have hq2 : r = valAt f k := hq2.trans (congrArg f (by omega))
    subst hq2
    refine lv_istore_n (lv' := [(3, .int (valAt f k)), (2, .int (nI k)), (1, .int (T_least f k)), (0, .ref (ad st))]) F.1 F.2.1 dX5_narrowestGate_18 rfl hl (by decide) rfl (fun ls hl => ?_)
    refine lv_aload_n F.1 F.2.1 dX5_narrowestGate_19 rfl (lv_at hl 3 rfl) ?_
    refine lv_iload_n F.1 F.2.1 dX5_narrowestGate_20 rfl (lv_at hl 1 rfl) ?_
    refine lv_iconst (v := 0) F.1 F.2.1 dX5_narrowestGate_21 (by decide) ?_
    refine w_calli F hP hS (c_X5_entry l D Y ad N hI _ st hh f hs k 0 hk20 hkn (by decide)) (cwVm 2 F.2.2.2.2.1 (fun _ h => h) mw_300 mw_492 mw_298 mw_299 mw_42 rfl rfl ydX5_entry ⟨by decide, by decide⟩) (by omega) hs.1 rfl rfl hl.1 rfl (Nat.le_of_ble_eq_true rfl) dX5_narrowestGate_22 ⟨Nat.zero_le _, Nat.zero_le _⟩ (fun r C2 H locs hq hP hS => ?_)
    obtain ⟨hq1, hq2⟩ := hq; rw [hq1] at hP
    have hq2 : r = kindAt f k := hq2.trans (congrArg f (by omega))
    subst hq2
    refine lv_iconst (v := 2) F.1 F.2.1 dX5_narrowestGate_25 (by decide) ?_
    refine lv_icmp_ne (tgt := 40) F.1 F.2.1 dX5_narrowestGate_26 (by decide) (fun c2 => ?_) (fun c2 => ?_)
    · refine lv_iinc (v := (nI k) + 1) (lv' := [(2, .int ((nI k) + 1)), (3, .int (valAt f k)), (1, .int (T_least f k)), (0, .ref (ad st))]) F.1 F.2.1 dX5_narrowestGate_40 hl (k := 1) rfl rfl (by decide) rfl (fun ls hl => ?_)
      refine lv_goto (tgt := 4) F.1 F.2.1 dX5_narrowestGate_43 (by decide) ?_
      exact ih _ (by omega) _ _ _ C ⟨k + 1, rfl, hkm, (by rw [nI_succ, show T_least f (k + 1) = T_least f k from if_neg (fun q => c2 q.1)]; exact lv_sub hl [0, 2, 3] rfl), rfl⟩ hP hS
    · refine lv_iload_n F.1 F.2.1 dX5_narrowestGate_29 rfl (lv_at hl 2 rfl) ?_
      refine lv_if_eq (tgt := 38) F.1 F.2.1 dX5_narrowestGate_30 (by decide) (fun c3 => ?_) (fun c3 => ?_)
      · refine lv_iload_n F.1 F.2.1 dX5_narrowestGate_38 rfl (lv_at hl 0 rfl) ?_
        refine lv_istore_n (lv' := [(1, .int (valAt f k)), (3, .int (valAt f k)), (2, .int (nI k)), (0, .ref (ad st))]) F.1 F.2.1 dX5_narrowestGate_39 rfl hl (by decide) rfl (fun ls hl => ?_)
        refine lv_iinc (v := (nI k) + 1) (lv' := [(2, .int ((nI k) + 1)), (1, .int (valAt f k)), (3, .int (valAt f k)), (0, .ref (ad st))]) F.1 F.2.1 dX5_narrowestGate_40 hl (k := 2) rfl rfl (by decide) rfl (fun ls hl => ?_)
        refine lv_goto (tgt := 4) F.1 F.2.1 dX5_narrowestGate_43 (by decide) ?_
        exact ih _ (by omega) _ _ _ C ⟨k + 1, rfl, hkm, (by rw [nI_succ, show T_least f (k + 1) = valAt f k from if_pos ⟨c2, Or.inl c3⟩]; exact lv_sub hl [0, 1, 3] rfl), rfl⟩ hP hS
      · refine lv_iload_n F.1 F.2.1 dX5_narrowestGate_33 rfl (lv_at hl 0 rfl) ?_
        refine lv_iload_n F.1 F.2.1 dX5_narrowestGate_34 rfl (lv_at hl 2 rfl) ?_
        refine lv_icmp_ge (tgt := 40) F.1 F.2.1 dX5_narrowestGate_35 (by decide) (fun c4 => ?_) (fun c4 => ?_)
        · refine lv_iinc (v := (nI k) + 1) (lv' := [(2, .int ((nI k) + 1)), (3, .int (valAt f k)), (1, .int (T_least f k)), (0, .ref (ad st))]) F.1 F.2.1 dX5_narrowestGate_40 hl (k := 1) rfl rfl (by decide) rfl (fun ls hl => ?_)
          refine lv_goto (tgt := 4) F.1 F.2.1 dX5_narrowestGate_43 (by decide) ?_
          exact ih _ (by omega) _ _ _ C ⟨k + 1, rfl, hkm, (by rw [nI_succ, show T_least f (k + 1) = T_least f k from if_neg (fun q => q.2.elim c3 (i_nlt c4))]; exact lv_sub hl [0, 2, 3] rfl), rfl⟩ hP hS
        · refine lv_iload_n F.1 F.2.1 dX5_narrowestGate_38 rfl (lv_at hl 0 rfl) ?_
          refine lv_istore_n (lv' := [(1, .int (valAt f k)), (3, .int (valAt f k)), (2, .int (nI k)), (0, .ref (ad st))]) F.1 F.2.1 dX5_narrowestGate_39 rfl hl (by decide) rfl (fun ls hl => ?_)
          refine lv_iinc (v := (nI k) + 1) (lv' := [(2, .int ((nI k) + 1)), (1, .int (valAt f k)), (3, .int (valAt f k)), (0, .ref (ad st))]) F.1 F.2.1 dX5_narrowestGate_40 hl (k := 2) rfl rfl (by decide) rfl (fun ls hl => ?_)
          refine lv_goto (tgt := 4) F.1 F.2.1 dX5_narrowestGate_43 (by decide) ?_
          exact ih _ (by omega) _ _ _ C ⟨k + 1, rfl, hkm, (by rw [nI_succ, show T_least f (k + 1) = valAt f k from if_pos ⟨c2, Or.inr (i_lt c4)⟩]; exact lv_sub hl [0, 1, 3] rfl), rfl⟩ hP hS

