/-! HoopStairs$State: its methods -/
set_option maxRecDepth 20000 in
set_option maxHeartbeats 4000000 in
/-- may a part come -/
theorem c_X6_partError (l : Launch) (D : va_G) (Y : Nat → ClassId) (ad : Nat → Nat) (N : Nat) (hI : wI ad N) (C : Nat → va_E) (b : Nat) (hh : b + 17 < N) (f : Nat → Int32) (g : Int32) (hs : isState Y ad C b f g) (x kd v : Int32) : Met l yX6_partError (wm yX6_partError cX6_partError 4 (some .int)) { frames := 1, cells := 0, slots := 0, locals := 21 } (wPc D Y ad N [.ref (ad b), .int (x), .int (kd), .int (v)] C) (wQi D ad N (fun r C' => C' = C ∧ r = T_pe x kd v f)) 0 0 (wA ad N) := by
  refine wMet RX6 rfl (by decide +kernel) (Nat.le_of_ble_eq_true rfl) (lv := [(0, .ref (ad b)), (1, .int (x)), (2, .int (kd)), (3, .int (v))]) rfl ?_
  intro p e s m below meth c ls F hr hlocks hP hl
  have hS : va_S (wA ad N) s.heap s.heap [] := va_S.rf
  refine lv_iload_n F.1 F.2.1 dX6_partError_0 rfl (lv_at hl 1 rfl) ?_
  refine lv_if_lt (tgt := 15) F.1 F.2.1 dX6_partError_1 (by decide) (fun c1 => ?_) (fun c1 => ?_)
  · refine lv_iconst (v := (-1)) F.1 F.2.1 dX6_partError_15 (by decide) ?_
    exact w_iret F hr hlocks hP hS dX6_partError_16 ⟨rfl, by unfold T_pe; rw [if_neg (fun q => i_nle c1 q.1)]⟩
  · refine lv_iload_n F.1 F.2.1 dX6_partError_4 rfl (lv_at hl 1 rfl) ?_
    refine lv_aload_n F.1 F.2.1 dX6_partError_5 rfl (lv_at hl 0 rfl) ?_
    refine gf_X6_21 F hP (by omega) hs.1 (v := .ref (ad (b + 3))) rfl dX6_partError_6 ?_
    refine gf_X6_69 F hP (by omega) hs.2.2.1.1 (v := .int (f 4)) rfl dX6_partError_9 ?_
    refine lv_icmp_le (tgt := 17) F.1 F.2.1 dX6_partError_12 (by decide) (fun c2 => ?_) (fun c2 => ?_)
    · refine lv_iload_n F.1 F.2.1 dX6_partError_17 rfl (lv_at hl 2 rfl) ?_
      refine lv_iload_n F.1 F.2.1 dX6_partError_18 rfl (lv_at hl 3 rfl) ?_
      refine w_calls F hP hS (c_X5_allows l D Y ad N hI _ kd v) (cwSm 2 F.2.2.2.2.1 (fun _ h => h) mw_199 mw_197 mw_198 mw_42 rfl rfl ydX5_allows ⟨by decide, by decide⟩) rfl hl.1 rfl (Nat.le_of_ble_eq_true rfl) dX6_partError_19 ⟨Nat.zero_le _, Nat.zero_le _⟩ (fun r C2 H locs hq hP hS => ?_)
      obtain ⟨hq1, hbrr3⟩ := hq; rw [hq1] at hP; generalize r = rr3 at hbrr3 ⊢
      refine lv_if_ne (tgt := 28) F.1 F.2.1 dX6_partError_22 (by decide) (fun c4 => ?_) (fun c4 => ?_)
      · refine lv_aload_n F.1 F.2.1 dX6_partError_28 rfl (lv_at hl 0 rfl) ?_
        refine gf_X6_21 F hP (by omega) hs.1 (v := .ref (ad (b + 3))) rfl dX6_partError_29 ?_
        refine gf_X6_69 F hP (by omega) hs.2.2.1.1 (v := .int (f 4)) rfl dX6_partError_32 ?_
        refine lv_bipush (v := 20) F.1 F.2.1 dX6_partError_35 (by decide) ?_
        refine lv_icmp_lt (tgt := 45) F.1 F.2.1 dX6_partError_37 (by decide) (fun c5 => ?_) (fun c5 => ?_)
        · refine lv_iconst (v := 0) F.1 F.2.1 dX6_partError_45 (by decide) ?_
          exact w_iret F hr hlocks hP hS dX6_partError_46 ⟨rfl, by unfold T_pe; rw [if_pos ⟨i_le c1, c2⟩, if_pos (b_t hbrr3 c4), if_neg (i_nle c5)]⟩
        · refine lv_bipush (v := (-4)) F.1 F.2.1 dX6_partError_40 (by decide) ?_
          refine lv_goto (tgt := 46) F.1 F.2.1 dX6_partError_42 (by decide) ?_
          exact w_iret F hr hlocks hP hS dX6_partError_46 ⟨rfl, by unfold T_pe; rw [if_pos ⟨i_le c1, c2⟩, if_pos (b_t hbrr3 c4), if_pos (i_le c5)]⟩
      · refine lv_bipush (v := (-2)) F.1 F.2.1 dX6_partError_25 (by decide) ?_
        exact w_iret F hr hlocks hP hS dX6_partError_27 ⟨rfl, by unfold T_pe; rw [if_pos ⟨i_le c1, c2⟩, if_neg (b_f hbrr3 c4)]⟩
    · refine lv_iconst (v := (-1)) F.1 F.2.1 dX6_partError_15 (by decide) ?_
      exact w_iret F hr hlocks hP hS dX6_partError_16 ⟨rfl, by unfold T_pe; rw [if_neg (fun q => c2 q.2)]⟩
set_option maxRecDepth 20000 in
set_option maxHeartbeats 4000000 in
/-- may it roll -/
theorem c_X6_rollError (l : Launch) (D : va_G) (Y : Nat → ClassId) (ad : Nat → Nat) (N : Nat) (hI : wI ad N) (C : Nat → va_E) (b : Nat) (hh : b + 17 < N) (f : Nat → Int32) (g : Int32) (hs : isState Y ad C b f g) (x : Int32) (hz : f 5 = 0 ∨ f 5 = 1) : Met l yX6_rollError (wm yX6_rollError cX6_rollError 2 (some .int)) { frames := 1, cells := 0, slots := 0, locals := 20 } (wPc D Y ad N [.ref (ad b), .int (x)] C) (wQi D ad N (fun r C' => C' = C ∧ r = if 1 ≤ x ∧ x ≤ 20 then (if f 5 = 1 ∧ f 11 = 0 then 0 else -5) else -2)) 0 0 (wA ad N) := by
  refine wMet RX6 rfl (by decide +kernel) (Nat.le_of_ble_eq_true rfl) (lv := [(0, .ref (ad b)), (1, .int (x))]) rfl ?_
  intro p e s m below meth c ls F hr hlocks hP hl
  have hS : va_S (wA ad N) s.heap s.heap [] := va_S.rf
  refine lv_iload_n F.1 F.2.1 dX6_rollError_0 rfl (lv_at hl 1 rfl) ?_
  refine lv_iconst (v := 1) F.1 F.2.1 dX6_rollError_1 (by decide) ?_
  refine lv_icmp_lt (tgt := 11) F.1 F.2.1 dX6_rollError_2 (by decide) (fun c1 => ?_) (fun c1 => ?_)
  · refine lv_bipush (v := (-2)) F.1 F.2.1 dX6_rollError_11 (by decide) ?_
    exact w_iret F hr hlocks hP hS dX6_rollError_13 ⟨rfl, by rw [if_neg (fun q => i_nle c1 q.1)]⟩
  · refine lv_iload_n F.1 F.2.1 dX6_rollError_5 rfl (lv_at hl 1 rfl) ?_
    refine lv_bipush (v := 20) F.1 F.2.1 dX6_rollError_6 (by decide) ?_
    refine lv_icmp_le (tgt := 14) F.1 F.2.1 dX6_rollError_8 (by decide) (fun c2 => ?_) (fun c2 => ?_)
    · refine lv_aload_n F.1 F.2.1 dX6_rollError_14 rfl (lv_at hl 0 rfl) ?_
      refine gf_X6_28 F hP (by omega) hs.1 (v := .ref (ad (b + 10))) rfl dX6_rollError_15 ?_
      refine w_calli F hP hS (c_X1_rolls l D Y ad N hI _ (b + 10) (by omega) (f 5) (f 6) (f 7) (f 8) (f 9) (f 10) (f 11) (f 12) (f 13) g hs.2.2.2.1 hz) (cwVm 0 F.2.2.2.2.1 (fun _ h => h) mw_286 mw_283 mw_284 mw_285 mw_30 rfl rfl ydX1_rolls ⟨by decide, by decide⟩) (by omega) hs.2.2.2.1 rfl rfl hl.1 rfl (Nat.le_of_ble_eq_true rfl) dX6_rollError_18 ⟨Nat.zero_le _, Nat.zero_le _⟩ (fun r C2 H locs hq hP hS => ?_)
      obtain ⟨hq1, hbrr3⟩ := hq; rw [hq1] at hP; generalize r = rr3 at hbrr3 ⊢
      refine lv_if_eq (tgt := 28) F.1 F.2.1 dX6_rollError_21 (by decide) (fun c4 => ?_) (fun c4 => ?_)
      · refine lv_bipush (v := (-5)) F.1 F.2.1 dX6_rollError_28 (by decide) ?_
        exact w_iret F hr hlocks hP hS dX6_rollError_30 ⟨rfl, by rw [if_pos ⟨i_le c1, c2⟩, if_neg (b_f hbrr3 c4)]⟩
      · refine lv_iconst (v := 0) F.1 F.2.1 dX6_rollError_24 (by decide) ?_
        refine lv_goto (tgt := 30) F.1 F.2.1 dX6_rollError_25 (by decide) ?_
        exact w_iret F hr hlocks hP hS dX6_rollError_30 ⟨rfl, by rw [if_pos ⟨i_le c1, c2⟩, if_pos (b_t hbrr3 c4)]⟩
    · refine lv_bipush (v := (-2)) F.1 F.2.1 dX6_rollError_11 (by decide) ?_
      exact w_iret F hr hlocks hP hS dX6_rollError_13 ⟨rfl, by rw [if_neg (fun q => c2 q.2)]⟩
set_option maxRecDepth 20000 in
set_option maxHeartbeats 4000000 in
/-- may it be tapped -/
theorem c_X6_tapError (l : Launch) (D : va_G) (Y : Nat → ClassId) (ad : Nat → Nat) (N : Nat) (hI : wI ad N) (C : Nat → va_E) (b : Nat) (hh : b + 17 < N) (f : Nat → Int32) (g : Int32) (hs : isState Y ad C b f g) (x : Int32) (hz : f 5 = 0 ∨ f 5 = 1) : Met l yX6_tapError (wm yX6_tapError cX6_tapError 2 (some .int)) { frames := 1, cells := 0, slots := 0, locals := 20 } (wPc D Y ad N [.ref (ad b), .int (x)] C) (wQi D ad N (fun r C' => C' = C ∧ r = if x = 0 ∨ x = 1 then (if f 5 = 1 ∧ f 11 = 0 then 0 else -5) else -2)) 0 0 (wA ad N) := by
  refine wMet RX6 rfl (by decide +kernel) (Nat.le_of_ble_eq_true rfl) (lv := [(0, .ref (ad b)), (1, .int (x))]) rfl ?_
  intro p e s m below meth c ls F hr hlocks hP hl
  have hS : va_S (wA ad N) s.heap s.heap [] := va_S.rf
  refine lv_iload_n F.1 F.2.1 dX6_tapError_0 rfl (lv_at hl 1 rfl) ?_
  refine lv_if_eq (tgt := 12) F.1 F.2.1 dX6_tapError_1 (by decide) (fun c1 => ?_) (fun c1 => ?_)
  · refine lv_aload_n F.1 F.2.1 dX6_tapError_12 rfl (lv_at hl 0 rfl) ?_
    refine gf_X6_28 F hP (by omega) hs.1 (v := .ref (ad (b + 10))) rfl dX6_tapError_13 ?_
    refine w_calli F hP hS (c_X1_rolls l D Y ad N hI _ (b + 10) (by omega) (f 5) (f 6) (f 7) (f 8) (f 9) (f 10) (f 11) (f 12) (f 13) g hs.2.2.2.1 hz) (cwVm 0 F.2.2.2.2.1 (fun _ h => h) mw_286 mw_283 mw_284 mw_285 mw_30 rfl rfl ydX1_rolls ⟨by decide, by decide⟩) (by omega) hs.2.2.2.1 rfl rfl hl.1 rfl (Nat.le_of_ble_eq_true rfl) dX6_tapError_16 ⟨Nat.zero_le _, Nat.zero_le _⟩ (fun r C2 H locs hq hP hS => ?_)
    obtain ⟨hq1, hbrr2⟩ := hq; rw [hq1] at hP; generalize r = rr2 at hbrr2 ⊢
    refine lv_if_eq (tgt := 26) F.1 F.2.1 dX6_tapError_19 (by decide) (fun c3 => ?_) (fun c3 => ?_)
    · refine lv_bipush (v := (-5)) F.1 F.2.1 dX6_tapError_26 (by decide) ?_
      exact w_iret F hr hlocks hP hS dX6_tapError_28 ⟨rfl, by rw [if_pos (Or.inl c1), if_neg (b_f hbrr2 c3)]⟩
    · refine lv_iconst (v := 0) F.1 F.2.1 dX6_tapError_22 (by decide) ?_
      refine lv_goto (tgt := 28) F.1 F.2.1 dX6_tapError_23 (by decide) ?_
      exact w_iret F hr hlocks hP hS dX6_tapError_28 ⟨rfl, by rw [if_pos (Or.inl c1), if_pos (b_t hbrr2 c3)]⟩
  · refine lv_iload_n F.1 F.2.1 dX6_tapError_4 rfl (lv_at hl 1 rfl) ?_
    refine lv_iconst (v := 1) F.1 F.2.1 dX6_tapError_5 (by decide) ?_
    refine lv_icmp_eq (tgt := 12) F.1 F.2.1 dX6_tapError_6 (by decide) (fun c4 => ?_) (fun c4 => ?_)
    · refine lv_aload_n F.1 F.2.1 dX6_tapError_12 rfl (lv_at hl 0 rfl) ?_
      refine gf_X6_28 F hP (by omega) hs.1 (v := .ref (ad (b + 10))) rfl dX6_tapError_13 ?_
      refine w_calli F hP hS (c_X1_rolls l D Y ad N hI _ (b + 10) (by omega) (f 5) (f 6) (f 7) (f 8) (f 9) (f 10) (f 11) (f 12) (f 13) g hs.2.2.2.1 hz) (cwVm 0 F.2.2.2.2.1 (fun _ h => h) mw_286 mw_283 mw_284 mw_285 mw_30 rfl rfl ydX1_rolls ⟨by decide, by decide⟩) (by omega) hs.2.2.2.1 rfl rfl hl.1 rfl (Nat.le_of_ble_eq_true rfl) dX6_tapError_16 ⟨Nat.zero_le _, Nat.zero_le _⟩ (fun r C2 H locs hq hP hS => ?_)
      obtain ⟨hq1, hbrr5⟩ := hq; rw [hq1] at hP; generalize r = rr5 at hbrr5 ⊢
      refine lv_if_eq (tgt := 26) F.1 F.2.1 dX6_tapError_19 (by decide) (fun c6 => ?_) (fun c6 => ?_)
      · refine lv_bipush (v := (-5)) F.1 F.2.1 dX6_tapError_26 (by decide) ?_
        exact w_iret F hr hlocks hP hS dX6_tapError_28 ⟨rfl, by rw [if_pos (Or.inr c4), if_neg (b_f hbrr5 c6)]⟩
      · refine lv_iconst (v := 0) F.1 F.2.1 dX6_tapError_22 (by decide) ?_
        refine lv_goto (tgt := 28) F.1 F.2.1 dX6_tapError_23 (by decide) ?_
        exact w_iret F hr hlocks hP hS dX6_tapError_28 ⟨rfl, by rw [if_pos (Or.inr c4), if_pos (b_t hbrr5 c6)]⟩
    · refine lv_bipush (v := (-2)) F.1 F.2.1 dX6_tapError_9 (by decide) ?_
      exact w_iret F hr hlocks hP hS dX6_tapError_11 ⟨rfl, by rw [if_neg (fun q => q.elim c1 c4)]⟩
set_option maxRecDepth 20000 in
set_option maxHeartbeats 4000000 in
/-- may it be pushed -/
theorem c_X6_pushError (l : Launch) (D : va_G) (Y : Nat → ClassId) (ad : Nat → Nat) (N : Nat) (hI : wI ad N) (C : Nat → va_E) (b : Nat) (hh : b + 17 < N) (f : Nat → Int32) (g : Int32) (hs : isState Y ad C b f g) (hz : f 5 = 0 ∨ f 5 = 1) : Met l yX6_pushError (wm yX6_pushError cX6_pushError 1 (some .int)) { frames := 1, cells := 0, slots := 0, locals := 20 } (wPc D Y ad N [.ref (ad b)] C) (wQi D ad N (fun r C' => C' = C ∧ r = if f 5 = 1 ∧ f 11 = 0 then 0 else -5)) 0 0 (wA ad N) := by
  refine wMet RX6 rfl (by decide +kernel) (Nat.le_of_ble_eq_true rfl) (lv := [(0, .ref (ad b))]) rfl ?_
  intro p e s m below meth c ls F hr hlocks hP hl
  have hS : va_S (wA ad N) s.heap s.heap [] := va_S.rf
  refine lv_aload_n F.1 F.2.1 dX6_pushError_0 rfl (lv_at hl 0 rfl) ?_
  refine gf_X6_28 F hP (by omega) hs.1 (v := .ref (ad (b + 10))) rfl dX6_pushError_1 ?_
  refine w_calli F hP hS (c_X1_rolls l D Y ad N hI _ (b + 10) (by omega) (f 5) (f 6) (f 7) (f 8) (f 9) (f 10) (f 11) (f 12) (f 13) g hs.2.2.2.1 hz) (cwVm 0 F.2.2.2.2.1 (fun _ h => h) mw_286 mw_283 mw_284 mw_285 mw_30 rfl rfl ydX1_rolls ⟨by decide, by decide⟩) (by omega) hs.2.2.2.1 rfl rfl hl.1 rfl (Nat.le_of_ble_eq_true rfl) dX6_pushError_4 ⟨Nat.zero_le _, Nat.zero_le _⟩ (fun r C2 H locs hq hP hS => ?_)
  obtain ⟨hq1, hbrr1⟩ := hq; rw [hq1] at hP; generalize r = rr1 at hbrr1 ⊢
  refine lv_if_eq (tgt := 14) F.1 F.2.1 dX6_pushError_7 (by decide) (fun c2 => ?_) (fun c2 => ?_)
  · refine lv_bipush (v := (-5)) F.1 F.2.1 dX6_pushError_14 (by decide) ?_
    exact w_iret F hr hlocks hP hS dX6_pushError_16 ⟨rfl, by rw [if_neg (b_f hbrr1 c2)]⟩
  · refine lv_iconst (v := 0) F.1 F.2.1 dX6_pushError_10 (by decide) ?_
    refine lv_goto (tgt := 16) F.1 F.2.1 dX6_pushError_11 (by decide) ?_
    exact w_iret F hr hlocks hP hS dX6_pushError_16 ⟨rfl, by rw [if_pos (b_t hbrr1 c2)]⟩
set_option maxRecDepth 20000 in
set_option maxHeartbeats 4000000 in
/-- a part comes or goes, and the hoop with it -/
theorem c_X6_addPart (l : Launch) (D : va_G) (Y : Nat → ClassId) (ad : Nat → Nat) (N : Nat) (hI : wI ad N) (C : Nat → va_E) (b : Nat) (hh : b + 17 < N) (f : Nat → Int32) (g : Int32) (hs : isState Y ad C b f g) (kp n : Nat) (kd v : Int32) (hk : kp ≤ n) (hn : n < 20) (h4 : f 4 = nI n) (x : Int32) (ex : x = nI kp) : Met l yX6_addPart (wm yX6_addPart cX6_addPart 4 (some .int)) { frames := 2, cells := 0, slots := 0, locals := 48 } (wPc D Y ad N [.ref (ad b), .int x, .int kd, .int v] C) (wQi D ad N (fun r C' => r = T_insert kp kd v f 4 ∧ isState Y ad C' b (T_insert kp kd v f) g ∧ ∀ j, j < b ∨ b + 18 ≤ j → C' j = C j)) 0 0 (wA ad N) := by
  subst ex
  refine wMet RX6 rfl (by decide +kernel) (Nat.le_of_ble_eq_true rfl) (lv := [(0, .ref (ad b)), (1, .int (nI kp)), (2, .int (kd)), (3, .int (v))]) rfl ?_
  intro p e s m below meth c ls F hr hlocks hP hl
  have hS : va_S (wA ad N) s.heap s.heap [] := va_S.rf
  refine lv_aload_n F.1 F.2.1 dX6_addPart_0 rfl (lv_at hl 0 rfl) ?_
  refine gf_X6_21 F hP (by omega) hs.1 (v := .ref (ad (b + 3))) rfl dX6_addPart_1 ?_
  refine lv_iload_n F.1 F.2.1 dX6_addPart_4 rfl (lv_at hl 1 rfl) ?_
  refine lv_iload_n F.1 F.2.1 dX6_addPart_5 rfl (lv_at hl 2 rfl) ?_
  refine lv_iload_n F.1 F.2.1 dX6_addPart_6 rfl (lv_at hl 3 rfl) ?_
  refine w_callv F hP hS (c_X5_insert l D Y ad N hI _ (b + 3) (by omega) f hs.2.2.1 kp n kd v hk hn h4) (cwVm 3 F.2.2.2.2.1 (fun _ h => h) mw_207 mw_204 mw_205 mw_206 mw_42 rfl rfl ydX5_insert ⟨by decide, by decide⟩) (by omega) hs.2.2.1.1 rfl rfl hl.1 rfl (Nat.le_of_ble_eq_true rfl) dX6_addPart_7 ⟨Nat.zero_le _, Nat.zero_le _⟩ (fun K1 H locs hq1 hP hS => ?_)
  have ob1 : K1 b = stO ad b (f 14) (f 19) := (hq1.2 _ (by omega)).trans hs.1
  have se1 : isSett Y ad K1 (b + 1) f := isSett_same hs.2.1 (fun j a z => hq1.2 j (by omega))
  have st1 : isStair Y ad K1 (b + 3) (T_insert kp kd v f) := hq1.1
  have hp1 : K1 (b + 10) = hpR f g := (hq1.2 _ (by omega)).trans hs.2.2.2.1
  have lg1 : isLog Y ad K1 (b + 11) f := isLog_same hs.2.2.2.2.1 (fun j a z => hq1.2 j (by omega))
  have en1 : isEnd Y K1 (b + 17) f := isEnd_same hs.2.2.2.2.2 (hq1.2 _ (by omega))
  have fr1 : ∀ j, j < b ∨ b + 18 ≤ j → K1 j = C j := fun j hj => (hq1.2 j (by omega)).trans ((fun _ _ => rfl) j hj)
  refine lv_aload_n F.1 F.2.1 dX6_addPart_10 rfl (lv_at hl 0 rfl) ?_
  refine gf_X6_28 F hP (by omega) ob1 (v := .ref (ad (b + 10))) rfl dX6_addPart_11 ?_
  refine w_callv F hP hS (c_X1_vanish l D Y ad N hI _ (b + 10) (by omega) (f 5) (f 6) (f 7) (f 8) (f 9) (f 10) (f 11) (f 12) (f 13) g hp1) (cwVm 0 F.2.2.2.2.1 (fun _ h => h) mw_211 mw_208 mw_209 mw_210 mw_30 rfl rfl ydX1_vanish ⟨by decide, by decide⟩) (by omega) hp1 rfl rfl hl.1 rfl (Nat.le_of_ble_eq_true rfl) dX6_addPart_14 ⟨Nat.zero_le _, Nat.zero_le _⟩ (fun K2 H locs hq2 hP hS => ?_)
  have sf2 : ∀ j, j ≠ b + 10 → K2 j = K1 j := fun j hj => by rw [hq2, va_up_ne _ _ hj]
  have ob2 : K2 b = stO ad b (f 14) (f 19) := (sf2 _ (by omega)).trans ob1
  have se2 : isSett Y ad K2 (b + 1) f := isSett_same se1 (fun j a z => sf2 j (by omega))
  have st2 : isStair Y ad K2 (b + 3) (T_insert kp kd v f) := isStair_same st1 (fun j a z => sf2 j (by omega))
  have hp2 : K2 (b + 10) = hpR (upd f 5 0) g := by rw [hq2]; exact va_up_self _ _ _
  have lg2 : isLog Y ad K2 (b + 11) f := isLog_same lg1 (fun j a z => sf2 j (by omega))
  have en2 : isEnd Y K2 (b + 17) f := isEnd_same en1 (sf2 _ (by omega))
  have fr2 : ∀ j, j < b ∨ b + 18 ≤ j → K2 j = C j := fun j hj => (sf2 j (by omega)).trans (fr1 j hj)
  refine lv_aload_n F.1 F.2.1 dX6_addPart_17 rfl (lv_at hl 0 rfl) ?_
  refine gf_X6_21 F hP (by omega) ob2 (v := .ref (ad (b + 3))) rfl dX6_addPart_18 ?_
  refine gf_X6_69 F hP (by omega) st2.1 (v := .int ((T_insert kp kd v f) 4)) rfl dX6_addPart_21 ?_
  exact w_iret F hr hlocks hP hS dX6_addPart_24 ⟨rfl, (isState_mk (F := T_insert kp kd v f) ob2 (ins_out (by decide) (by decide) (by decide)) (ins_out (by decide) (by decide) (by decide)) se2 (fun q hq => ins_out (by omega) (by omega) (by omega)) st2 rfl (fun q hq _ => rfl) hp2 (fun q hq hq2 => ins_hp hq hq2) lg2 (fun q hq hq2 => ins_out (by omega) (by omega) (by omega)) en2 (fun q hq hq2 => ins_out (by omega) (by omega) (by omega))), fr2⟩
set_option maxRecDepth 20000 in
set_option maxHeartbeats 4000000 in
/-- a part comes or goes, and the hoop with it -/
theorem c_X6_removePart (l : Launch) (D : va_G) (Y : Nat → ClassId) (ad : Nat → Nat) (N : Nat) (hI : wI ad N) (C : Nat → va_E) (b : Nat) (hh : b + 17 < N) (f : Nat → Int32) (g : Int32) (hs : isState Y ad C b f g) (kp n : Nat) (hk : kp < n) (hn : n ≤ 20) (h4 : f 4 = nI n) (x : Int32) (ex : x = nI kp) : Met l yX6_removePart (wm yX6_removePart cX6_removePart 2 (some .int)) { frames := 2, cells := 0, slots := 0, locals := 46 } (wPc D Y ad N [.ref (ad b), .int x] C) (wQi D ad N (fun r C' => r = T_remove kp f 4 ∧ isState Y ad C' b (T_remove kp f) g ∧ ∀ j, j < b ∨ b + 18 ≤ j → C' j = C j)) 0 0 (wA ad N) := by
  subst ex
  refine wMet RX6 rfl (by decide +kernel) (Nat.le_of_ble_eq_true rfl) (lv := [(0, .ref (ad b)), (1, .int (nI kp))]) rfl ?_
  intro p e s m below meth c ls F hr hlocks hP hl
  have hS : va_S (wA ad N) s.heap s.heap [] := va_S.rf
  refine lv_aload_n F.1 F.2.1 dX6_removePart_0 rfl (lv_at hl 0 rfl) ?_
  refine gf_X6_21 F hP (by omega) hs.1 (v := .ref (ad (b + 3))) rfl dX6_removePart_1 ?_
  refine lv_iload_n F.1 F.2.1 dX6_removePart_4 rfl (lv_at hl 1 rfl) ?_
  refine w_callv F hP hS (c_X5_remove l D Y ad N hI _ (b + 3) (by omega) f hs.2.2.1 kp n hk hn h4) (cwVm 1 F.2.2.2.2.1 (fun _ h => h) mw_242 mw_239 mw_240 mw_241 mw_42 rfl rfl ydX5_remove ⟨by decide, by decide⟩) (by omega) hs.2.2.1.1 rfl rfl hl.1 rfl (Nat.le_of_ble_eq_true rfl) dX6_removePart_5 ⟨Nat.zero_le _, Nat.zero_le _⟩ (fun K1 H locs hq1 hP hS => ?_)
  have ob1 : K1 b = stO ad b (f 14) (f 19) := (hq1.2 _ (by omega)).trans hs.1
  have se1 : isSett Y ad K1 (b + 1) f := isSett_same hs.2.1 (fun j a z => hq1.2 j (by omega))
  have st1 : isStair Y ad K1 (b + 3) (T_remove kp f) := hq1.1
  have hp1 : K1 (b + 10) = hpR f g := (hq1.2 _ (by omega)).trans hs.2.2.2.1
  have lg1 : isLog Y ad K1 (b + 11) f := isLog_same hs.2.2.2.2.1 (fun j a z => hq1.2 j (by omega))
  have en1 : isEnd Y K1 (b + 17) f := isEnd_same hs.2.2.2.2.2 (hq1.2 _ (by omega))
  have fr1 : ∀ j, j < b ∨ b + 18 ≤ j → K1 j = C j := fun j hj => (hq1.2 j (by omega)).trans ((fun _ _ => rfl) j hj)
  refine lv_aload_n F.1 F.2.1 dX6_removePart_8 rfl (lv_at hl 0 rfl) ?_
  refine gf_X6_28 F hP (by omega) ob1 (v := .ref (ad (b + 10))) rfl dX6_removePart_9 ?_
  refine w_callv F hP hS (c_X1_vanish l D Y ad N hI _ (b + 10) (by omega) (f 5) (f 6) (f 7) (f 8) (f 9) (f 10) (f 11) (f 12) (f 13) g hp1) (cwVm 0 F.2.2.2.2.1 (fun _ h => h) mw_211 mw_208 mw_209 mw_210 mw_30 rfl rfl ydX1_vanish ⟨by decide, by decide⟩) (by omega) hp1 rfl rfl hl.1 rfl (Nat.le_of_ble_eq_true rfl) dX6_removePart_12 ⟨Nat.zero_le _, Nat.zero_le _⟩ (fun K2 H locs hq2 hP hS => ?_)
  have sf2 : ∀ j, j ≠ b + 10 → K2 j = K1 j := fun j hj => by rw [hq2, va_up_ne _ _ hj]
  have ob2 : K2 b = stO ad b (f 14) (f 19) := (sf2 _ (by omega)).trans ob1
  have se2 : isSett Y ad K2 (b + 1) f := isSett_same se1 (fun j a z => sf2 j (by omega))
  have st2 : isStair Y ad K2 (b + 3) (T_remove kp f) := isStair_same st1 (fun j a z => sf2 j (by omega))
  have hp2 : K2 (b + 10) = hpR (upd f 5 0) g := by rw [hq2]; exact va_up_self _ _ _
  have lg2 : isLog Y ad K2 (b + 11) f := isLog_same lg1 (fun j a z => sf2 j (by omega))
  have en2 : isEnd Y K2 (b + 17) f := isEnd_same en1 (sf2 _ (by omega))
  have fr2 : ∀ j, j < b ∨ b + 18 ≤ j → K2 j = C j := fun j hj => (sf2 j (by omega)).trans (fr1 j hj)
  refine lv_aload_n F.1 F.2.1 dX6_removePart_15 rfl (lv_at hl 0 rfl) ?_
  refine gf_X6_21 F hP (by omega) ob2 (v := .ref (ad (b + 3))) rfl dX6_removePart_16 ?_
  refine gf_X6_69 F hP (by omega) st2.1 (v := .int ((T_remove kp f) 4)) rfl dX6_removePart_19 ?_
  exact w_iret F hr hlocks hP hS dX6_removePart_22 ⟨rfl, (isState_mk (F := T_remove kp f) ob2 (rem_out (by decide) (by decide) (by decide)) (rem_out (by decide) (by decide) (by decide)) se2 (fun q hq => rem_out (by omega) (by omega) (by omega)) st2 rfl (fun q hq _ => rfl) hp2 (fun q hq hq2 => rem_hp hq hq2) lg2 (fun q hq hq2 => rem_out (by omega) (by omega) (by omega)) en2 (fun q hq hq2 => rem_out (by omega) (by omega) (by omega))), fr2⟩
def T_run (x : Int32) (f : Nat → Int32) : Nat → Int32 := upd (T_begin x f) 14 (f 14 + 1)
theorem begin_out {x : Int32} {f : Nat → Int32} {q : Nat} (h : q < 5 ∨ 13 < q) : T_begin x f q = f q := by
  unfold T_begin
  rw [upd_n (by omega), upd_n (by omega), upd_n (by omega), upd_n (by omega), upd_n (by omega), upd_n (by omega), upd_n (by omega), upd_n (by omega), upd_n (by omega)]
theorem run_out {x : Int32} {f : Nat → Int32} {q : Nat} (h : q < 5 ∨ 13 < q) (h14 : q ≠ 14) : T_run x f q = f q := by
  unfold T_run
  rw [upd_n h14, begin_out h]
theorem begin_hp {x : Int32} {f : Nat → Int32} : hpV 1 x 10 0 0 0 0 0 0 0 = hpR (T_begin x f) 0 := by simp [T_begin, upd, hpR, hpV]
def T_tapp (x : Int32) (f : Nat → Int32) : Nat → Int32 := upd (T_tap x f) 19 (f 19 + 1)
theorem tap_out {x : Int32} {f : Nat → Int32} {q : Nat} (h : q ≠ 8 ∧ q ≠ 9 ∧ q ≠ 12) : T_tap x f q = f q := by
  unfold T_tap
  rw [upd_n h.2.2, upd_n h.2.1, upd_n h.1]
theorem tapp_out {x : Int32} {f : Nat → Int32} {q : Nat} (h : q ≠ 8 ∧ q ≠ 9 ∧ q ≠ 12) (h19 : q ≠ 19) : T_tapp x f q = f q := by
  unfold T_tapp
  rw [upd_n h19, tap_out h]
theorem tap_hp {x g : Int32} {f : Nat → Int32} : hpV (f 5) (f 6) (f 7) (f 8 + (if x = 0 then f 3 else -f 3)) (mn99 (f 9 + 2)) (f 10) (f 11) (f 12 + 1) (f 13) g = hpR (T_tap x f) g := by simp [T_tap, upd, hpR, hpV]
theorem push_hp {g : Int32} {f : Nat → Int32} : hpV (f 5) (f 6) (mn99 (f 7 + 5)) (f 8) (f 9) (f 10) (f 11) (f 12) (f 13 + 1) g = hpR (T_push f) g := by simp [T_push, upd, hpR, hpV]
theorem push_out {f : Nat → Int32} {q : Nat} (h : q ≠ 7 ∧ q ≠ 13) : T_push f q = f q := by
  unfold T_push
  rw [upd_n h.2, upd_n h.1]
set_option maxRecDepth 20000 in
set_option maxHeartbeats 4000000 in
/-- a run begins -/
theorem c_X6_beginRun (l : Launch) (D : va_G) (Y : Nat → ClassId) (ad : Nat → Nat) (N : Nat) (hI : wI ad N) (C : Nat → va_E) (b : Nat) (hh : b + 17 < N) (f : Nat → Int32) (g : Int32) (hs : isState Y ad C b f g) (x : Int32) : Met l yX6_beginRun (wm yX6_beginRun cX6_beginRun 2 (some .int)) { frames := 1, cells := 0, slots := 0, locals := 21 } (wPc D Y ad N [.ref (ad b), .int (x)] C) (wQi D ad N (fun r C' => r = f 14 + 1 ∧ isState Y ad C' b (T_run x f) 0 ∧ ∀ j, j < b ∨ b + 18 ≤ j → C' j = C j)) 0 0 (wA ad N) := by
  refine wMet RX6 rfl (by decide +kernel) (Nat.le_of_ble_eq_true rfl) (lv := [(0, .ref (ad b)), (1, .int (x))]) rfl ?_
  intro p e s m below meth c ls F hr hlocks hP hl
  have hS : va_S (wA ad N) s.heap s.heap [] := va_S.rf
  refine lv_aload_n F.1 F.2.1 dX6_beginRun_0 rfl (lv_at hl 0 rfl) ?_
  refine gf_X6_28 F hP (by omega) hs.1 (v := .ref (ad (b + 10))) rfl dX6_beginRun_1 ?_
  refine lv_iload_n F.1 F.2.1 dX6_beginRun_4 rfl (lv_at hl 1 rfl) ?_
  refine w_callv F hP hS (c_X1_begin l D Y ad N hI _ (b + 10) (by omega) (f 5) (f 6) (f 7) (f 8) (f 9) (f 10) (f 11) (f 12) (f 13) g hs.2.2.2.1 x) (cwVm 1 F.2.2.2.2.1 (fun _ h => h) mw_266 mw_263 mw_264 mw_265 mw_30 rfl rfl ydX1_begin ⟨by decide, by decide⟩) (by omega) hs.2.2.2.1 rfl rfl hl.1 rfl (Nat.le_of_ble_eq_true rfl) dX6_beginRun_5 ⟨Nat.zero_le _, Nat.zero_le _⟩ (fun K1 H locs hq1 hP hS => ?_)
  have sf1 : ∀ j, j ≠ b + 10 → K1 j = C j := fun j hj => by rw [hq1, va_up_ne _ _ hj]
  have ob1 : K1 b = stO ad b (f 14) (f 19) := (sf1 _ (by omega)).trans hs.1
  have se1 : isSett Y ad K1 (b + 1) f := isSett_same hs.2.1 (fun j a z => sf1 j (by omega))
  have st1 : isStair Y ad K1 (b + 3) f := isStair_same hs.2.2.1 (fun j a z => sf1 j (by omega))
  have hp1 : K1 (b + 10) = hpR (T_begin x f) 0 := by rw [hq1]; exact (va_up_self _ _ _).trans begin_hp
  have lg1 : isLog Y ad K1 (b + 11) f := isLog_same hs.2.2.2.2.1 (fun j a z => sf1 j (by omega))
  have en1 : isEnd Y K1 (b + 17) f := isEnd_same hs.2.2.2.2.2 (sf1 _ (by omega))
  have fr1 : ∀ j, j < b ∨ b + 18 ≤ j → K1 j = C j := fun j hj => (sf1 j (by omega)).trans ((fun _ _ => rfl) j hj)
  refine lv_aload_n F.1 F.2.1 dX6_beginRun_8 rfl (lv_at hl 0 rfl) ?_
  refine lv_dup F.1 F.2.1 dX6_beginRun_9 rfl ?_
  refine gf_X6_43 F hP (by omega) ob1 (v := .int (f 14)) rfl dX6_beginRun_10 ?_
  refine lv_iconst (v := 1) F.1 F.2.1 dX6_beginRun_13 (by decide) ?_
  refine lv_iadd F.1 F.2.1 dX6_beginRun_14 ?_
  obtain ⟨K2, eK2⟩ : ∃ z, z = va_up K1 b (stO ad b ((f 14) + 1) (f 19)) := ⟨_, rfl⟩
  refine pf_X6_43 F hI hP hS (by omega) ob1 (Nat.le_of_ble_eq_true rfl) (C1 := K2) (fun j => (congrFun eK2 j).symm) dX6_beginRun_15 (fun H locs hP hS => ?_)
  have sf2 : ∀ j, j ≠ b → K2 j = K1 j := fun j hj => by rw [eK2, va_up_ne _ _ hj]
  have ob2 : K2 b = stO ad b ((f 14) + 1) (f 19) := by rw [eK2]; exact va_up_self _ _ _
  have se2 : isSett Y ad K2 (b + 1) f := isSett_same se1 (fun j a z => sf2 j (by omega))
  have st2 : isStair Y ad K2 (b + 3) f := isStair_same st1 (fun j a z => sf2 j (by omega))
  have hp2 : K2 (b + 10) = hpR (T_begin x f) 0 := (sf2 _ (by omega)).trans hp1
  have lg2 : isLog Y ad K2 (b + 11) f := isLog_same lg1 (fun j a z => sf2 j (by omega))
  have en2 : isEnd Y K2 (b + 17) f := isEnd_same en1 (sf2 _ (by omega))
  have fr2 : ∀ j, j < b ∨ b + 18 ≤ j → K2 j = C j := fun j hj => (sf2 j (by omega)).trans (fr1 j hj)
  refine lv_aload_n F.1 F.2.1 dX6_beginRun_18 rfl (lv_at hl 0 rfl) ?_
  refine gf_X6_43 F hP (by omega) ob2 (v := .int ((f 14) + 1)) rfl dX6_beginRun_19 ?_
  exact w_iret F hr hlocks hP hS dX6_beginRun_22 ⟨rfl, (isState_mk (F := T_run x f) ob2 upd_s (run_out (by decide) (by decide)) se2 (fun q hq => run_out (by omega) (by omega)) st2 (run_out (by decide) (by decide)) (fun q hq _ => run_out (by omega) (by omega)) hp2 (fun q hq hq2 => upd_n (by omega)) lg2 (fun q hq _ => run_out (by omega) (by omega)) en2 (fun q hq _ => run_out (by omega) (by omega))), fr2⟩
set_option maxRecDepth 20000 in
set_option maxHeartbeats 4000000 in
/-- a tap -/
theorem c_X6_tapFrom (l : Launch) (D : va_G) (Y : Nat → ClassId) (ad : Nat → Nat) (N : Nat) (hI : wI ad N) (C : Nat → va_E) (b : Nat) (hh : b + 17 < N) (f : Nat → Int32) (g : Int32) (hs : isState Y ad C b f g) (x : Int32) : Met l yX6_tapFrom (wm yX6_tapFrom cX6_tapFrom 2 (some .int)) { frames := 3, cells := 0, slots := 0, locals := 60 } (wPc D Y ad N [.ref (ad b), .int (x)] C) (wQi D ad N (fun r C' => r = T_tapp x f 8 + 500 ∧ isState Y ad C' b (T_tapp x f) g ∧ ∀ j, j < b ∨ b + 18 ≤ j → C' j = C j)) 0 0 (wA ad N) := by
  refine wMet RX6 rfl (by decide +kernel) (Nat.le_of_ble_eq_true rfl) (lv := [(0, .ref (ad b)), (1, .int (x))]) rfl ?_
  intro p e s m below meth c ls F hr hlocks hP hl
  have hS : va_S (wA ad N) s.heap s.heap [] := va_S.rf
  refine lv_aload_n F.1 F.2.1 dX6_tapFrom_0 rfl (lv_at hl 0 rfl) ?_
  refine gf_X6_28 F hP (by omega) hs.1 (v := .ref (ad (b + 10))) rfl dX6_tapFrom_1 ?_
  refine lv_iload_n F.1 F.2.1 dX6_tapFrom_4 rfl (lv_at hl 1 rfl) ?_
  refine lv_aload_n F.1 F.2.1 dX6_tapFrom_5 rfl (lv_at hl 0 rfl) ?_
  refine gf_X6_12 F hP (by omega) hs.1 (v := .ref (ad (b + 1))) rfl dX6_tapFrom_6 ?_
  refine lv_iconst (v := 3) F.1 F.2.1 dX6_tapFrom_9 (by decide) ?_
  refine w_calli F hP hS (c_X4_value l D Y ad N hI _ (b + 1) (by omega) f hs.2.1 3 (by decide)) (cwVm 1 F.2.2.2.2.1 (fun _ h => h) mw_172 mw_405 mw_170 mw_171 mw_38 rfl rfl ydX4_value ⟨by decide, by decide⟩) (by omega) hs.2.1.1 rfl rfl hl.1 rfl (Nat.le_of_ble_eq_true rfl) dX6_tapFrom_10 ⟨Nat.zero_le _, Nat.zero_le _⟩ (fun r C2 H locs hq hP hS => ?_)
  obtain ⟨hq1, hq2⟩ := hq; rw [hq1] at hP
  subst hq2
  refine w_callv F hP hS (c_X1_takeTap l D Y ad N hI _ (b + 10) (by omega) (f 5) (f 6) (f 7) (f 8) (f 9) (f 10) (f 11) (f 12) (f 13) g hs.2.2.2.1 x (f 3)) (cwVm 2 F.2.2.2.2.1 (fun _ h => h) mw_409 mw_406 mw_407 mw_408 mw_30 rfl rfl ydX1_takeTap ⟨by decide, by decide⟩) (by omega) hs.2.2.2.1 rfl rfl hl.1 rfl (Nat.le_of_ble_eq_true rfl) dX6_tapFrom_13 ⟨Nat.zero_le _, Nat.zero_le _⟩ (fun K1 H locs hq1 hP hS => ?_)
  have sf1 : ∀ j, j ≠ b + 10 → K1 j = C j := fun j hj => by rw [hq1, va_up_ne _ _ hj]
  have ob1 : K1 b = stO ad b (f 14) (f 19) := (sf1 _ (by omega)).trans hs.1
  have se1 : isSett Y ad K1 (b + 1) f := isSett_same hs.2.1 (fun j a z => sf1 j (by omega))
  have st1 : isStair Y ad K1 (b + 3) f := isStair_same hs.2.2.1 (fun j a z => sf1 j (by omega))
  have hp1 : K1 (b + 10) = hpR (T_tap x f) g := by rw [hq1]; exact (va_up_self _ _ _).trans tap_hp
  have lg1 : isLog Y ad K1 (b + 11) f := isLog_same hs.2.2.2.2.1 (fun j a z => sf1 j (by omega))
  have en1 : isEnd Y K1 (b + 17) f := isEnd_same hs.2.2.2.2.2 (sf1 _ (by omega))
  have fr1 : ∀ j, j < b ∨ b + 18 ≤ j → K1 j = C j := fun j hj => (sf1 j (by omega)).trans ((fun _ _ => rfl) j hj)
  refine lv_aload_n F.1 F.2.1 dX6_tapFrom_16 rfl (lv_at hl 0 rfl) ?_
  refine lv_dup F.1 F.2.1 dX6_tapFrom_17 rfl ?_
  refine gf_X6_47 F hP (by omega) ob1 (v := .int (f 19)) rfl dX6_tapFrom_18 ?_
  refine lv_iconst (v := 1) F.1 F.2.1 dX6_tapFrom_21 (by decide) ?_
  refine lv_iadd F.1 F.2.1 dX6_tapFrom_22 ?_
  obtain ⟨K2, eK2⟩ : ∃ z, z = va_up K1 b (stO ad b (f 14) ((f 19) + 1)) := ⟨_, rfl⟩
  refine pf_X6_47 F hI hP hS (by omega) ob1 (Nat.le_of_ble_eq_true rfl) (C1 := K2) (fun j => (congrFun eK2 j).symm) dX6_tapFrom_23 (fun H locs hP hS => ?_)
  have sf2 : ∀ j, j ≠ b → K2 j = K1 j := fun j hj => by rw [eK2, va_up_ne _ _ hj]
  have ob2 : K2 b = stO ad b (f 14) ((f 19) + 1) := by rw [eK2]; exact va_up_self _ _ _
  have se2 : isSett Y ad K2 (b + 1) f := isSett_same se1 (fun j a z => sf2 j (by omega))
  have st2 : isStair Y ad K2 (b + 3) f := isStair_same st1 (fun j a z => sf2 j (by omega))
  have hp2 : K2 (b + 10) = hpR (T_tap x f) g := (sf2 _ (by omega)).trans hp1
  have lg2 : isLog Y ad K2 (b + 11) f := isLog_same lg1 (fun j a z => sf2 j (by omega))
  have en2 : isEnd Y K2 (b + 17) f := isEnd_same en1 (sf2 _ (by omega))
  have fr2 : ∀ j, j < b ∨ b + 18 ≤ j → K2 j = C j := fun j hj => (sf2 j (by omega)).trans (fr1 j hj)
  refine lv_aload_n F.1 F.2.1 dX6_tapFrom_26 rfl (lv_at hl 0 rfl) ?_
  refine gf_X6_28 F hP (by omega) ob2 (v := .ref (ad (b + 10))) rfl dX6_tapFrom_27 ?_
  refine gf_X6_120 F hP (by omega) hp2 (v := .int ((T_tap x f) 8)) rfl dX6_tapFrom_30 ?_
  refine lv_sipush (v := 500) F.1 F.2.1 dX6_tapFrom_33 (by decide) ?_
  refine lv_iadd F.1 F.2.1 dX6_tapFrom_36 ?_
  exact w_iret F hr hlocks hP hS dX6_tapFrom_37 ⟨by unfold T_tapp; rw [upd_n (by decide)], (isState_mk (F := T_tapp x f) ob2 (tapp_out (by decide) (by decide)) upd_s se2 (fun q hq => tapp_out (by omega) (by omega)) st2 (tapp_out (by decide) (by decide)) (fun q hq _ => tapp_out (by omega) (by omega)) hp2 (fun q hq hq2 => upd_n (by omega)) lg2 (fun q hq _ => tapp_out (by omega) (by omega)) en2 (fun q hq _ => tapp_out (by omega) (by omega))), fr2⟩
set_option maxRecDepth 20000 in
set_option maxHeartbeats 4000000 in
/-- a push -/
theorem c_X6_pushOn (l : Launch) (D : va_G) (Y : Nat → ClassId) (ad : Nat → Nat) (N : Nat) (hI : wI ad N) (C : Nat → va_E) (b : Nat) (hh : b + 17 < N) (f : Nat → Int32) (g : Int32) (hs : isState Y ad C b f g) : Met l yX6_pushOn (wm yX6_pushOn cX6_pushOn 1 (some .int)) { frames := 3, cells := 0, slots := 0, locals := 58 } (wPc D Y ad N [.ref (ad b)] C) (wQi D ad N (fun r C' => r = T_push f 7 ∧ isState Y ad C' b (T_push f) g ∧ ∀ j, j < b ∨ b + 18 ≤ j → C' j = C j)) 0 0 (wA ad N) := by
  refine wMet RX6 rfl (by decide +kernel) (Nat.le_of_ble_eq_true rfl) (lv := [(0, .ref (ad b))]) rfl ?_
  intro p e s m below meth c ls F hr hlocks hP hl
  have hS : va_S (wA ad N) s.heap s.heap [] := va_S.rf
  refine lv_aload_n F.1 F.2.1 dX6_pushOn_0 rfl (lv_at hl 0 rfl) ?_
  refine gf_X6_28 F hP (by omega) hs.1 (v := .ref (ad (b + 10))) rfl dX6_pushOn_1 ?_
  refine w_callv F hP hS (c_X1_takePush l D Y ad N hI _ (b + 10) (by omega) (f 5) (f 6) (f 7) (f 8) (f 9) (f 10) (f 11) (f 12) (f 13) g hs.2.2.2.1) (cwVm 0 F.2.2.2.2.1 (fun _ h => h) mw_433 mw_430 mw_431 mw_432 mw_30 rfl rfl ydX1_takePush ⟨by decide, by decide⟩) (by omega) hs.2.2.2.1 rfl rfl hl.1 rfl (Nat.le_of_ble_eq_true rfl) dX6_pushOn_4 ⟨Nat.zero_le _, Nat.zero_le _⟩ (fun K1 H locs hq1 hP hS => ?_)
  have sf1 : ∀ j, j ≠ b + 10 → K1 j = C j := fun j hj => by rw [hq1, va_up_ne _ _ hj]
  have ob1 : K1 b = stO ad b (f 14) (f 19) := (sf1 _ (by omega)).trans hs.1
  have se1 : isSett Y ad K1 (b + 1) f := isSett_same hs.2.1 (fun j a z => sf1 j (by omega))
  have st1 : isStair Y ad K1 (b + 3) f := isStair_same hs.2.2.1 (fun j a z => sf1 j (by omega))
  have hp1 : K1 (b + 10) = hpR (T_push f) g := by rw [hq1]; exact (va_up_self _ _ _).trans push_hp
  have lg1 : isLog Y ad K1 (b + 11) f := isLog_same hs.2.2.2.2.1 (fun j a z => sf1 j (by omega))
  have en1 : isEnd Y K1 (b + 17) f := isEnd_same hs.2.2.2.2.2 (sf1 _ (by omega))
  have fr1 : ∀ j, j < b ∨ b + 18 ≤ j → K1 j = C j := fun j hj => (sf1 j (by omega)).trans ((fun _ _ => rfl) j hj)
  refine lv_aload_n F.1 F.2.1 dX6_pushOn_7 rfl (lv_at hl 0 rfl) ?_
  refine gf_X6_28 F hP (by omega) ob1 (v := .ref (ad (b + 10))) rfl dX6_pushOn_8 ?_
  refine gf_X6_126 F hP (by omega) hp1 (v := .int ((T_push f) 7)) rfl dX6_pushOn_11 ?_
  exact w_iret F hr hlocks hP hS dX6_pushOn_14 ⟨rfl, (isState_mk (F := T_push f) ob1 (push_out (by decide)) (push_out (by decide)) se1 (fun q hq => push_out (by omega)) st1 (push_out (by decide)) (fun q hq _ => push_out (by omega)) hp1 (fun q hq _ => rfl) lg1 (fun q hq _ => push_out (by omega)) en1 (fun q hq _ => push_out (by omega))), fr1⟩

