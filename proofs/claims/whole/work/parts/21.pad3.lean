/-! HoopStairs$Pad: the fault, signs out of a number -/
/-- the k-th of eight signs in a number, from the last -/
def BYc (c : Int64) (y : Int32) : Int32 := ((c.toUInt64 >>> (y.toInt64.toUInt64 &&& Int64.toUInt64 63)).toInt64 &&& 255).toInt32
def BY (c : Int64) (k : Nat) : Int32 := BYc c (8 * nI k)
def M_ends (c : Int64) : Nat → Prop
  | 0 => False
  | k + 1 => M_ends c k ∨ BY c k = 0
def M_right (c : Int64) : Nat → Prop
  | 0 => True
  | k + 1 => M_right c k ∧ (M_ends c (k + 1) → BY c k = 0) ∧ (¬ M_ends c (k + 1) → 33 ≤ BY c k ∧ BY c k ≤ 126)
noncomputable def M_many (c : Int64) : Nat → Nat
  | 0 => 0
  | k + 1 => if BY c k = 0 then M_many c k else M_many c k + 1
theorem M_many_le (c : Int64) : ∀ k, M_many c k ≤ k
  | 0 => Nat.le_refl 0
  | k + 1 => by
    have := M_many_le c k
    show (if BY c k = 0 then M_many c k else M_many c k + 1) ≤ k + 1
    by_cases h : BY c k = 0
    · rw [if_pos h]; omega
    · rw [if_neg h]; omega
theorem M_right_mono {c : Int64} {i : Nat} (d : Nat) (h : ¬ M_right c i) : ¬ M_right c (i + d) := by
  induction d with
  | zero => exact h
  | succ d ih => exact fun q => ih q.1
/-- the signs of c, m of them, behind the n of pd -/
def APP (pd : Nat → Int32) (c : Int64) (n m : Nat) : Nat → Nat → Int32
  | 0 => pd
  | k + 1 => upd (APP pd c n m k) (n + k) (BY c (m - (k + 1)))
theorem neg_q {q : Nat} (h : nI q - 1 < 0) (hq : q < 1000) : q = 0 := by
  cases q with
  | zero => rfl
  | succ q => rw [nI_pred] at h; exact absurd h (nI_pos (by omega))
set_option maxRecDepth 20000 in
set_option maxHeartbeats 4000000 in
/-- a sign out of a number -/
theorem c_X2_codeIn (l : Launch) (D : va_G) (Y : Nat → ClassId) (ad : Nat → Nat) (N : Nat) (hI : wI ad N) (C : Nat → va_E) (ch : Int64) (x : Int32) : Met l yX2_codeIn (wm yX2_codeIn cX2_codeIn 3 (some .int)) { frames := 0, cells := 0, slots := 0, locals := 0 } (wPc D Y ad N [.long (ch), .int (x)] C) (wQi D ad N (fun r C' => C' = C ∧ r = BYc ch (8 * x))) 0 0 (wA ad N) := by
  refine wMet RX2 rfl (by decide +kernel) (Nat.le_of_ble_eq_true rfl) (lv := [(0, .long (ch)), (2, .int (x))]) rfl ?_
  intro p e s m below meth c ls F hr hlocks hP hl
  have hS : va_S (wA ad N) s.heap s.heap [] := va_S.rf
  refine lv_lload_n F.1 F.2.1 dX2_codeIn_0 rfl (lv_at hl 0 rfl) ?_
  refine lv_bipush (v := 8) F.1 F.2.1 dX2_codeIn_1 (by decide) ?_
  refine lv_iload_n F.1 F.2.1 dX2_codeIn_3 rfl (lv_at hl 1 rfl) ?_
  refine lv_imul F.1 F.2.1 dX2_codeIn_4 ?_
  refine lv_lushr F.1 F.2.1 dX2_codeIn_5 rfl ?_
  refine lv_ldc2 F.1 F.2.1 F.2.2.2.1 (F.2.2.2.2.1 _ mw_561) dX2_codeIn_6 ?_
  refine lv_land F.1 F.2.1 dX2_codeIn_9 ?_
  refine lv_l2i F.1 F.2.1 dX2_codeIn_10 rfl ?_
  exact w_iret F hr hlocks hP hS dX2_codeIn_11 ⟨rfl, rfl⟩
noncomputable def M_cnt (c : Int64) : Int32 := by classical exact if M_right c 8 then nI (M_many c 8) else 0
set_option maxRecDepth 20000 in
set_option maxHeartbeats 4000000 in
/-- how many signs -/
theorem c_X2_charactersIn (l : Launch) (D : va_G) (Y : Nat → ClassId) (ad : Nat → Nat) (N : Nat) (hI : wI ad N) (C : Nat → va_E) (ch : Int64) : Met l yX2_charactersIn (wm yX2_charactersIn cX2_charactersIn 5 (some .int)) { frames := 1, cells := 0, slots := 0, locals := 22 } (wPc D Y ad N [.long (ch)] C) (wQi D ad N (fun r C' => C' = C ∧ r = M_cnt ch)) 0 0 (wA ad N) := by
  refine wMet RX2 rfl (by decide +kernel) (Nat.le_of_ble_eq_true rfl) (lv := [(0, .long (ch))]) rfl ?_
  intro p e s m below meth c ls F hr hlocks hP hl
  have hS : va_S (wA ad N) s.heap s.heap [] := va_S.rf
  refine lv_iconst (v := 0) F.1 F.2.1 dX2_charactersIn_0 (by decide) ?_
  refine lv_istore_n (lv' := [(2, .int (0)), (0, .long (ch))]) F.1 F.2.1 dX2_charactersIn_1 rfl hl (by decide) rfl (fun ls hl => ?_)
  refine lv_iconst (v := 0) F.1 F.2.1 dX2_charactersIn_2 (by decide) ?_
  refine lv_istore_n (lv' := [(3, .int (0)), (2, .int (0)), (0, .long (ch))]) F.1 F.2.1 dX2_charactersIn_3 rfl hl (by decide) rfl (fun ls hl => ?_)
  refine w_loop (Inv := fun j ls C' => ∃ i : Nat, j = 8 - i ∧ i ≤ 8 ∧ lv_has ls 5 [(3, .int (nI i)), (2, .int (nI (M_many ch i))), (0, .long ch)] ∧ C' = C ∧ M_right ch i ∧ (M_ends ch i ↔ M_many ch i < i)) ?_ 8 ⟨0, rfl, by decide, lv_sub hl [0, 1, 2] rfl, rfl, trivial, ⟨fun h => h.elim, fun h => absurd h (Nat.not_lt_zero _)⟩⟩ hP hS
  intro j ih H locs ls C1 hInv hP hS
  obtain ⟨i, hi, hi8, hl, hC1, hR, hE⟩ := hInv
  rw [hC1] at hP
  have hml := M_many_le ch i
  refine lv_iload_n F.1 F.2.1 dX2_charactersIn_4 rfl (lv_at hl 0 rfl) ?_
  refine lv_bipush (v := 8) F.1 F.2.1 dX2_charactersIn_5 (by decide) ?_
  refine lv_icmp_ge (tgt := 55) F.1 F.2.1 dX2_charactersIn_7 (by decide) (fun c1 => ?_) (fun c1 => ?_)
  · refine lv_iload_n F.1 F.2.1 dX2_charactersIn_55 rfl (lv_at hl 1 rfl) ?_
    exact w_iret F hr hlocks hP hS dX2_charactersIn_56 ⟨rfl, by unfold M_cnt; have h8 := (Nat.le_antisymm hi8 (Nat.not_lt.mp (fun q => nI_ge (b := 8) q (by decide) c1))); subst h8; rw [if_pos hR]⟩
  · have hin : i < 8 := Nat.not_le.mp (fun q => c1 (nI_le q (by omega)))
    refine lv_lload_n F.1 F.2.1 dX2_charactersIn_10 rfl (lv_at hl 2 rfl) ?_
    refine lv_iload_n F.1 F.2.1 dX2_charactersIn_11 rfl (lv_at hl 0 rfl) ?_
    refine w_calls F hP hS (c_X2_codeIn l D Y ad N hI _ ch (nI i)) (cwSm 2 F.2.2.2.2.1 (fun _ h => h) mw_560 mw_558 mw_559 mw_26 rfl rfl ydX2_codeIn ⟨by decide, by decide⟩) rfl hl.1 rfl (Nat.le_of_ble_eq_true rfl) dX2_charactersIn_12 ⟨Nat.zero_le _, Nat.zero_le _⟩ (fun r C2 H locs hq hP hS => ?_)
    obtain ⟨hq1, hq2⟩ := hq; rw [hq1] at hP
    have hq2 : r = BY ch i := hq2
    subst hq2
    refine lv_istore (lv' := [(4, .int (BY ch i)), (3, .int (nI i)), (2, .int (nI (M_many ch i))), (0, .long (ch))]) F.1 F.2.1 dX2_charactersIn_15 hl (by decide) rfl (fun ls hl => ?_)
    refine lv_iload F.1 F.2.1 dX2_charactersIn_17 (lv_at hl 0 rfl) ?_
    refine lv_if_ne (tgt := 25) F.1 F.2.1 dX2_charactersIn_19 (by decide) (fun c2 => ?_) (fun c2 => ?_)
    · refine lv_iload_n F.1 F.2.1 dX2_charactersIn_25 rfl (lv_at hl 2 rfl) ?_
      refine lv_iload_n F.1 F.2.1 dX2_charactersIn_26 rfl (lv_at hl 1 rfl) ?_
      refine lv_icmp_lt (tgt := 44) F.1 F.2.1 dX2_charactersIn_27 (by decide) (fun c3 => ?_) (fun c3 => ?_)
      · refine lv_iconst (v := 0) F.1 F.2.1 dX2_charactersIn_44 (by decide) ?_
        exact w_iret F hr hlocks hP hS dX2_charactersIn_45 ⟨rfl, by unfold M_cnt; rw [if_neg (by have := M_right_mono (8 - (i + 1)) (show ¬ M_right ch (i + 1) from fun q => absurd (q.2.1 (Or.inl (hE.mpr (Nat.not_le.mp (fun t => i_nlt (nI_le t (by omega)) c3))))) c2); rw [show i + 1 + (8 - (i + 1)) = 8 by omega] at this; exact this)]⟩
      · refine lv_iload F.1 F.2.1 dX2_charactersIn_30 (lv_at hl 0 rfl) ?_
        refine lv_bipush (v := 33) F.1 F.2.1 dX2_charactersIn_32 (by decide) ?_
        refine lv_icmp_lt (tgt := 44) F.1 F.2.1 dX2_charactersIn_34 (by decide) (fun c4 => ?_) (fun c4 => ?_)
        · refine lv_iconst (v := 0) F.1 F.2.1 dX2_charactersIn_44 (by decide) ?_
          exact w_iret F hr hlocks hP hS dX2_charactersIn_45 ⟨rfl, by unfold M_cnt; rw [if_neg (by have := M_right_mono (8 - (i + 1)) (show ¬ M_right ch (i + 1) from fun q => i_nle c4 (q.2.2 (fun t => t.elim (fun u => by have := hE.mp u; have := Nat.not_lt.mp (fun q => c3 (nI_lt q (by omega))); omega) c2)).1); rw [show i + 1 + (8 - (i + 1)) = 8 by omega] at this; exact this)]⟩
        · refine lv_iload F.1 F.2.1 dX2_charactersIn_37 (lv_at hl 0 rfl) ?_
          refine lv_bipush (v := 126) F.1 F.2.1 dX2_charactersIn_39 (by decide) ?_
          refine lv_icmp_le (tgt := 46) F.1 F.2.1 dX2_charactersIn_41 (by decide) (fun c5 => ?_) (fun c5 => ?_)
          · refine lv_iinc (v := (nI (M_many ch i)) + 1) (lv' := [(2, .int ((nI (M_many ch i)) + 1)), (4, .int (BY ch i)), (3, .int (nI i)), (0, .long (ch))]) F.1 F.2.1 dX2_charactersIn_46 hl (k := 2) rfl rfl (by decide) rfl (fun ls hl => ?_)
            refine lv_iinc (v := (nI i) + 1) (lv' := [(3, .int ((nI i) + 1)), (2, .int ((nI (M_many ch i)) + 1)), (4, .int (BY ch i)), (0, .long (ch))]) F.1 F.2.1 dX2_charactersIn_49 hl (k := 2) rfl rfl (by decide) rfl (fun ls hl => ?_)
            refine lv_goto (tgt := 4) F.1 F.2.1 dX2_charactersIn_52 (by decide) ?_
            have hm : M_many ch (i + 1) = M_many ch i + 1 := if_neg c2
            have hfi : M_many ch i = i := by have := Nat.not_lt.mp (fun q => c3 (nI_lt q (by omega))); omega
            have hnE : ¬ M_ends ch i := fun q => by have := hE.mp q; omega
            exact ih _ (by omega) _ _ _ C ⟨i + 1, rfl, hin, (by rw [nI_succ, hm, nI_succ]; exact lv_sub hl [0, 1, 3] rfl), rfl, ⟨hR, fun q => absurd q (fun t => t.elim hnE c2), fun _ => ⟨i_le c4, c5⟩⟩, ⟨fun q => absurd q (fun t => t.elim hnE c2), fun q => by rw [hm] at q; omega⟩⟩ hP hS
          · refine lv_iconst (v := 0) F.1 F.2.1 dX2_charactersIn_44 (by decide) ?_
            exact w_iret F hr hlocks hP hS dX2_charactersIn_45 ⟨rfl, by unfold M_cnt; rw [if_neg (by have := M_right_mono (8 - (i + 1)) (show ¬ M_right ch (i + 1) from fun q => c5 (q.2.2 (fun t => t.elim (fun u => by have := hE.mp u; have := Nat.not_lt.mp (fun q => c3 (nI_lt q (by omega))); omega) c2)).2); rw [show i + 1 + (8 - (i + 1)) = 8 by omega] at this; exact this)]⟩
    · refine lv_goto (tgt := 49) F.1 F.2.1 dX2_charactersIn_22 (by decide) ?_
      refine lv_iinc (v := (nI i) + 1) (lv' := [(3, .int ((nI i) + 1)), (4, .int (BY ch i)), (2, .int (nI (M_many ch i))), (0, .long (ch))]) F.1 F.2.1 dX2_charactersIn_49 hl (k := 1) rfl rfl (by decide) rfl (fun ls hl => ?_)
      refine lv_goto (tgt := 4) F.1 F.2.1 dX2_charactersIn_52 (by decide) ?_
      have hm : M_many ch (i + 1) = M_many ch i := if_pos c2
      exact ih _ (by omega) _ _ _ C ⟨i + 1, rfl, hin, (by rw [nI_succ, hm]; exact lv_sub hl [0, 2, 3] rfl), rfl, ⟨hR, fun _ => c2, fun q => absurd (Or.inr c2) q⟩, ⟨fun _ => by rw [hm]; omega, fun _ => Or.inr c2⟩⟩ hP hS
set_option maxRecDepth 20000 in
set_option maxHeartbeats 4000000 in
/-- the fault -/
theorem c_X2_firstFault (l : Launch) (D : va_G) (Y : Nat → ClassId) (ad : Nat → Nat) (N : Nat) (hI : wI ad N) (C : Nat → va_E) (pb : Nat) (hh : pb + 1 < N) (pd : Nat → Int32) (n : Nat) (x0 : Int32) (lt nu : Int32) (hn : n ≤ 80) (hC : C pb = pdV ad pb (nI n) (x0) lt nu) (hcd : C (pb + 1) = .inl (Y 0, 80, .inl pd)) : Met l yX2_firstFault (wm yX2_firstFault cX2_firstFault 2 (some .int)) { frames := 4, cells := 0, slots := 0, locals := 80 } (wPc D Y ad N [.ref (ad pb)] C) (wQi D ad N (fun r C' => r = F_fault pd n 80 0 ∧ ∃ x1 x2 x3 : Int32, C' = va_up C pb (pdV ad pb (nI n) x1 x2 x3))) 0 0 (wA ad N) := by
  refine wMet RX2 rfl (by decide +kernel) (Nat.le_of_ble_eq_true rfl) (lv := [(0, .ref (ad pb))]) rfl ?_
  intro p e s m below meth c ls F hr hlocks hP hl
  have hS : va_S (wA ad N) s.heap s.heap [] := va_S.rf
  refine lv_aload_n F.1 F.2.1 dX2_firstFault_0 rfl (lv_at hl 0 rfl) ?_
  refine w_callv F hP hS (c_X2_startReading l D Y ad N hI _ pb hh pd n x0 lt nu hn hC hcd) (cwVm 0 F.2.2.2.2.1 (fun _ h => h) mw_594 mw_591 mw_592 mw_593 mw_26 rfl rfl ydX2_startReading ⟨by decide, by decide⟩) (by omega) hC rfl rfl hl.1 rfl (Nat.le_of_ble_eq_true rfl) dX2_firstFault_1 ⟨Nat.zero_le _, Nat.zero_le _⟩ (fun C2 H locs hq hP hS => ?_)
  subst hq
  refine lv_iconst (v := 0) F.1 F.2.1 dX2_firstFault_4 (by decide) ?_
  refine lv_istore_n (lv' := [(1, .int (0)), (0, .ref (ad pb))]) F.1 F.2.1 dX2_firstFault_5 rfl hl (by decide) rfl (fun ls hl => ?_)
  refine w_loop (Inv := fun j ls C' => ∃ (i a : Nat) (lt nu : Int32), j = 80 - i ∧ 2 * i ≤ a ∧ a ≤ n ∧ lv_has ls 2 [(1, .int (nI i)), (0, .ref (ad pb))] ∧ C' = va_up C pb (pdV ad pb (nI n) (nI a) lt nu) ∧ F_fault pd n (80 - i) a = F_fault pd n 80 0) ?_ 80 ⟨0, 0, lt, nu, rfl, by decide, Nat.zero_le _, lv_sub hl [0, 1] rfl, rfl, rfl⟩ hP hS
  intro j ih H locs ls C1 hInv hP hS
  obtain ⟨i, a, lt, nu, hi, hia, han, hl, rfl, hF⟩ := hInv
  rw [show 80 - i = 80 - (i + 1) + 1 by omega] at hF
  refine lv_iload_n F.1 F.2.1 dX2_firstFault_6 rfl (lv_at hl 0 rfl) ?_
  refine lv_bipush (v := 80) F.1 F.2.1 dX2_firstFault_7 (by decide) ?_
  refine lv_icmp_ge (tgt := 49) F.1 F.2.1 dX2_firstFault_9 (by decide) (fun c1 => False.elim (nI_ge (b := 80) (by omega) (by decide) c1)) (fun c1 => ?_)
  refine lv_aload_n F.1 F.2.1 dX2_firstFault_12 rfl (lv_at hl 1 rfl) ?_
  refine w_calli F hP hS (c_X2_readOrder l D Y ad N hI _ pb hh pd n a lt nu hn (va_up_self _ _ _) ((va_up_ne _ _ (by omega)).trans hcd) (by omega)) (cwVm 0 F.2.2.2.2.1 (fun _ h => h) mw_598 mw_595 mw_596 mw_597 mw_26 rfl rfl ydX2_readOrder ⟨by decide, by decide⟩) (by omega) (va_up_self _ _ _) rfl rfl hl.1 rfl (Nat.le_of_ble_eq_true rfl) dX2_firstFault_13 ⟨Nat.zero_le _, Nat.zero_le _⟩ (fun r C2 H locs hq hP hS => ?_)
  by_cases hd2 : P_ok pd n a
  · obtain ⟨hq1, hq2⟩ := hq.1 hd2; rw [hq2, uu] at hP; subst hq1
    have hpl := P_ok_lt hd2
    refine lv_if_eq (tgt := 49) F.1 F.2.1 dX2_firstFault_16 (by decide) (fun c3 => False.elim (by revert c3; decide)) (fun c3 => ?_)
    refine lv_aload_n F.1 F.2.1 dX2_firstFault_19 rfl (lv_at hl 1 rfl) ?_
    refine gf_X2_19 F hP (by omega) (va_up_self _ _ _) (v := .int (nI (P_end pd n a))) rfl dX2_firstFault_20 ?_
    refine lv_aload_n F.1 F.2.1 dX2_firstFault_23 rfl (lv_at hl 1 rfl) ?_
    refine gf_X2_15 F hP (by omega) (va_up_self _ _ _) (v := .int (nI n)) rfl dX2_firstFault_24 ?_
    refine lv_icmp_ne (tgt := 33) F.1 F.2.1 dX2_firstFault_27 (by decide) (fun c4 => ?_) (fun c4 => ?_)
    · refine lv_aload_n F.1 F.2.1 dX2_firstFault_33 rfl (lv_at hl 1 rfl) ?_
      refine w_calli F hP hS (c_X2_skipSeparator l D Y ad N hI _ pb hh pd n (P_end pd n a) (chr_ pd n a) (P_no pd n a) hn (va_up_self _ _ _) ((va_up_ne _ _ (by omega)).trans hcd) (by omega)) (cwVm 0 F.2.2.2.2.1 (fun _ h => h) mw_619 mw_616 mw_617 mw_618 mw_26 rfl rfl ydX2_skipSeparator ⟨by decide, by decide⟩) (by omega) (va_up_self _ _ _) rfl rfl hl.1 rfl (Nat.le_of_ble_eq_true rfl) dX2_firstFault_34 ⟨Nat.zero_le _, Nat.zero_le _⟩ (fun r C2 H locs hq hP hS => ?_)
      by_cases hd5 : chr_ pd n (P_end pd n a) = 59
      · obtain ⟨hq1, hq2⟩ := hq.1 hd5; rw [hq2, uu] at hP; subst hq1
        refine lv_if_ne (tgt := 43) F.1 F.2.1 dX2_firstFault_37 (by decide) (fun c6 => ?_) (fun c6 => False.elim (by revert c6; decide))
        refine lv_iinc (v := (nI i) + 1) (lv' := [(1, .int ((nI i) + 1)), (0, .ref (ad pb))]) F.1 F.2.1 dX2_firstFault_43 hl (k := 0) rfl rfl (by decide) rfl (fun ls hl => ?_)
        refine lv_goto (tgt := 6) F.1 F.2.1 dX2_firstFault_46 (by decide) ?_
        have hF : (if P_ok pd n a then (if P_end pd n a = n then (-6 : Int32) else if chr_ pd n (P_end pd n a) = 59 then F_fault pd n (80 - (i + 1)) (P_end pd n a + 1) else nI (P_end pd n a)) else nI (P_end pd n a)) = F_fault pd n 80 0 := hF
        rw [if_pos hd2, if_neg (fun q => c4 (by rw [q])), if_pos hd5] at hF
        have hlt : P_end pd n a < n := chr_lt (fun q => by rw [hd5] at q; exact absurd q (by decide))
        exact ih _ (by omega) _ _ _ _ ⟨i + 1, P_end pd n a + 1, _, _, rfl, by omega, by omega, (by rw [nI_succ]; exact lv_sub hl [0, 1] rfl), rfl, hF⟩ hP hS
      · obtain ⟨hq1, hq2⟩ := hq.2 hd5; rw [hq2] at hP; subst hq1
        refine lv_if_ne (tgt := 43) F.1 F.2.1 dX2_firstFault_37 (by decide) (fun c7 => False.elim (by revert c7; decide)) (fun c7 => ?_)
        refine lv_goto (tgt := 49) F.1 F.2.1 dX2_firstFault_40 (by decide) ?_
        refine lv_aload_n F.1 F.2.1 dX2_firstFault_49 rfl (lv_at hl 1 rfl) ?_
        refine gf_X2_19 F hP (by omega) (va_up_self _ _ _) (v := .int (nI (P_end pd n a))) rfl dX2_firstFault_50 ?_
        exact w_iret F hr hlocks hP hS dX2_firstFault_53 ⟨by have hF : (if P_ok pd n a then (if P_end pd n a = n then (-6 : Int32) else if chr_ pd n (P_end pd n a) = 59 then F_fault pd n (80 - (i + 1)) (P_end pd n a + 1) else nI (P_end pd n a)) else nI (P_end pd n a)) = F_fault pd n 80 0 := hF; rw [if_pos hd2, if_neg (fun q => c4 (by rw [q])), if_neg hd5] at hF; exact hF, _, _, _, rfl⟩
    · refine lv_bipush (v := (-6)) F.1 F.2.1 dX2_firstFault_30 (by decide) ?_
      exact w_iret F hr hlocks hP hS dX2_firstFault_32 ⟨by have hF : (if P_ok pd n a then (if P_end pd n a = n then (-6 : Int32) else if chr_ pd n (P_end pd n a) = 59 then F_fault pd n (80 - (i + 1)) (P_end pd n a + 1) else nI (P_end pd n a)) else nI (P_end pd n a)) = F_fault pd n 80 0 := hF; rw [if_pos hd2, if_pos ((nI_eq (by omega) (by omega)).mp c4)] at hF; exact hF, _, _, _, rfl⟩
  · obtain ⟨hq1, nu2, hq2⟩ := hq.2 hd2; rw [hq2, uu] at hP; subst hq1
    refine lv_if_eq (tgt := 49) F.1 F.2.1 dX2_firstFault_16 (by decide) (fun c8 => ?_) (fun c8 => False.elim (by revert c8; decide))
    refine lv_aload_n F.1 F.2.1 dX2_firstFault_49 rfl (lv_at hl 1 rfl) ?_
    refine gf_X2_19 F hP (by omega) (va_up_self _ _ _) (v := .int (nI (P_end pd n a))) rfl dX2_firstFault_50 ?_
    exact w_iret F hr hlocks hP hS dX2_firstFault_53 ⟨by have hF : (if P_ok pd n a then (if P_end pd n a = n then (-6 : Int32) else if chr_ pd n (P_end pd n a) = 59 then F_fault pd n (80 - (i + 1)) (P_end pd n a + 1) else nI (P_end pd n a)) else nI (P_end pd n a)) = F_fault pd n 80 0 := hF; rw [if_neg hd2] at hF; exact hF, _, _, _, rfl⟩
set_option maxRecDepth 20000 in
set_option maxHeartbeats 4000000 in
/-- signs come -/
theorem c_X2_append (l : Launch) (D : va_G) (Y : Nat → ClassId) (ad : Nat → Nat) (N : Nat) (hI : wI ad N) (C : Nat → va_E) (pb : Nat) (hh : pb + 1 < N) (pd : Nat → Int32) (n : Nat) (x0 : Int32) (lt nu : Int32) (hn : n ≤ 80) (hC : C pb = pdV ad pb (nI n) (x0) lt nu) (hcd : C (pb + 1) = .inl (Y 0, 80, .inl pd)) (ch : Int64) (mm : Nat) (hm : n + mm ≤ 80) : Met l yX2_append (wm yX2_append cX2_append 5 (some .int)) { frames := 1, cells := 0, slots := 0, locals := 22 } (wPc D Y ad N [.ref (ad pb), .long (ch), .int (nI mm)] C) (wQi D ad N (fun r C' => r = nI (n + mm) ∧ C' pb = pdV ad pb (nI (n + mm)) x0 lt nu ∧ C' (pb + 1) = .inl (Y 0, 80, .inl (APP pd ch n mm mm)) ∧ ∀ j, j ≠ pb → j ≠ pb + 1 → C' j = C j)) 0 0 (wA ad N) := by
  refine wMet RX2 rfl (by decide +kernel) (Nat.le_of_ble_eq_true rfl) (lv := [(0, .ref (ad pb)), (1, .long (ch)), (3, .int (nI mm))]) rfl ?_
  intro p e s m below meth c ls F hr hlocks hP hl
  have hS : va_S (wA ad N) s.heap s.heap [] := va_S.rf
  refine lv_iload_n F.1 F.2.1 dX2_append_0 rfl (lv_at hl 2 rfl) ?_
  refine lv_iconst (v := 1) F.1 F.2.1 dX2_append_1 (by decide) ?_
  refine lv_isub F.1 F.2.1 dX2_append_2 ?_
  refine lv_istore (lv' := [(4, .int ((nI mm) - 1)), (0, .ref (ad pb)), (1, .long (ch)), (3, .int (nI mm))]) F.1 F.2.1 dX2_append_3 hl (by decide) rfl (fun ls hl => ?_)
  refine w_loop (Inv := fun j ls C' => ∃ q : Nat, j = q ∧ q ≤ mm ∧ lv_has ls 5 [(4, .int (nI q - 1)), (0, .ref (ad pb)), (1, .long ch), (3, .int (nI mm))] ∧ C' pb = pdV ad pb (nI (n + (mm - q))) x0 lt nu ∧ C' (pb + 1) = .inl (Y 0, 80, .inl (APP pd ch n mm (mm - q))) ∧ ∀ j, j ≠ pb → j ≠ pb + 1 → C' j = C j) ?_ mm ⟨mm, rfl, Nat.le_refl _, lv_sub hl [0, 1, 2, 3] rfl, by rw [Nat.sub_self]; exact hC, by rw [Nat.sub_self]; exact hcd, fun _ _ _ => rfl⟩ hP hS
  intro j ih H locs ls C1 hInv hP hS
  obtain ⟨q, hj, hqm, hl, h1, h2, hO⟩ := hInv
  refine lv_iload F.1 F.2.1 dX2_append_5 (lv_at hl 0 rfl) ?_
  refine lv_if_lt (tgt := 50) F.1 F.2.1 dX2_append_7 (by decide) (fun c1 => ?_) (fun c1 => ?_)
  · refine lv_aload_n F.1 F.2.1 dX2_append_50 rfl (lv_at hl 1 rfl) ?_
    refine gf_X2_15 F hP (by omega) h1 (v := .int (nI (n + (mm - q)))) rfl dX2_append_51 ?_
    exact w_iret F hr hlocks hP hS dX2_append_54 (by have h0 := neg_q c1 (by omega); subst h0; exact ⟨rfl, h1, h2, hO⟩)
  · obtain ⟨u, rfl⟩ : ∃ u, q = u + 1 := Nat.exists_eq_succ_of_ne_zero (fun z => c1 (by rw [z]; decide))
    rw [nI_pred] at hl
    refine lv_aload_n F.1 F.2.1 dX2_append_10 rfl (lv_at hl 1 rfl) ?_
    refine gf_X2_15 F hP (by omega) h1 (v := .int (nI (n + (mm - (u + 1))))) rfl dX2_append_11 ?_
    refine lv_bipush (v := 80) F.1 F.2.1 dX2_append_14 (by decide) ?_
    refine lv_icmp_ge (tgt := 50) F.1 F.2.1 dX2_append_16 (by decide) (fun c2 => False.elim (nI_ge (b := 80) (by omega) (by decide) c2)) (fun c2 => ?_)
    refine lv_aload_n F.1 F.2.1 dX2_append_19 rfl (lv_at hl 1 rfl) ?_
    refine gf_X2_11 F hP (by omega) h1 (v := .ref (ad (pb + 1))) rfl dX2_append_20 ?_
    refine lv_aload_n F.1 F.2.1 dX2_append_23 rfl (lv_at hl 1 rfl) ?_
    refine gf_X2_15 F hP (by omega) h1 (v := .int (nI (n + (mm - (u + 1))))) rfl dX2_append_24 ?_
    refine lv_lload_n F.1 F.2.1 dX2_append_27 rfl (lv_at hl 2 rfl) ?_
    refine lv_iload F.1 F.2.1 dX2_append_28 (lv_at hl 0 rfl) ?_
    refine w_calls F hP hS (c_X2_codeIn l D Y ad N hI _ ch (nI u)) (cwSm 2 F.2.2.2.2.1 (fun _ h => h) mw_560 mw_558 mw_559 mw_26 rfl rfl ydX2_codeIn ⟨by decide, by decide⟩) rfl hl.1 rfl (Nat.le_of_ble_eq_true rfl) dX2_append_30 ⟨Nat.zero_le _, Nat.zero_le _⟩ (fun r C2 H locs hq hP hS => ?_)
    obtain ⟨hq1, hq2⟩ := hq; rw [hq1] at hP
    have hq2 : r = BY ch u := hq2
    subst hq2
    obtain ⟨K1, eK1⟩ : ∃ z, z = va_up C1 (pb + 1) (.inl (Y 0, 80, .inl (APP pd ch n mm (mm - u)))) := ⟨_, rfl⟩
    have hap : APP pd ch n mm (mm - u) = upd (APP pd ch n mm (mm - (u + 1))) (n + (mm - (u + 1))) (BY ch u) := by rw [show mm - u = mm - (u + 1) + 1 by omega]; show upd _ _ (BY ch (mm - (mm - (u + 1) + 1))) = _; rw [show mm - (mm - (u + 1) + 1) = u by omega]
    refine w_iast F hI hP hS (by omega) h2 (k := n + (mm - (u + 1))) rfl (by omega) (by decide) (C1 := K1) (fun j => by rw [eK1, hap]) dX2_append_33 (fun H locs hP hS => ?_)
    have h1b : K1 pb = pdV ad pb (nI (n + (mm - (u + 1)))) x0 lt nu := by rw [eK1, va_up_ne _ _ (by omega)]; exact h1
    have h2b : K1 (pb + 1) = .inl (Y 0, 80, .inl (APP pd ch n mm (mm - u))) := by rw [eK1]; exact va_up_self _ _ _
    refine lv_aload_n F.1 F.2.1 dX2_append_34 rfl (lv_at hl 1 rfl) ?_
    refine lv_dup F.1 F.2.1 dX2_append_35 rfl ?_
    refine gf_X2_15 F hP (by omega) h1b (v := .int (nI (n + (mm - (u + 1))))) rfl dX2_append_36 ?_
    refine lv_iconst (v := 1) F.1 F.2.1 dX2_append_39 (by decide) ?_
    refine lv_iadd F.1 F.2.1 dX2_append_40 ?_
    refine lv_topi (fun v3 ev3 => ?_)
    have ev3 : v3 = nI (n + (mm - u)) := ev3.trans (by rw [← nI_succ]; exact congrArg nI (by omega))
    subst ev3
    refine pf_X2_15 F hI hP hS (by omega) h1b (Nat.le_of_ble_eq_true rfl) (C1 := va_up K1 pb (pdV ad pb (nI (n + (mm - u))) x0 lt nu)) (fun _ => rfl) dX2_append_41 (fun H locs hP hS => ?_)
    refine lv_iinc (v := (nI u) + (-1)) (lv' := [(4, .int ((nI u) + (-1))), (0, .ref (ad pb)), (1, .long (ch)), (3, .int (nI mm))]) F.1 F.2.1 dX2_append_44 hl (k := 0) rfl rfl (by decide) rfl (fun ls hl => ?_)
    refine lv_goto (tgt := 5) F.1 F.2.1 dX2_append_47 (by decide) ?_
    exact ih _ (by omega) _ _ _ _ ⟨u, rfl, by omega, (by have e1 : nI u - 1 = nI u + (-1) := Int32.sub_eq_add_neg _ _; rw [e1]; exact lv_sub hl [0, 1, 2, 3] rfl), va_up_self _ _ _, (va_up_ne _ _ (by omega)).trans h2b, fun j a z => by rw [va_up_ne _ _ a, eK1, va_up_ne _ _ z]; exact hO j a z⟩ hP hS
