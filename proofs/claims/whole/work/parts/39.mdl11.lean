/-! HoopStairsModel: taps that save; the text; undo, slots -/
set_option maxRecDepth 20000 in
set_option maxHeartbeats 4000000 in
/-- saves -/
theorem c_X8_saves (l : Launch) (D : va_G) (Y : Nat → ClassId) (ad : Nat → Nat) (N : Nat) (hI : wI ad N) (C : Nat → va_E) (o : Nat) (hh : o + 6 ≤ N) (gr : Int32) (r s0 : Nat → Int32) (k0 : Nat) (hk0 : k0 ≤ 6) (hs : Nat → Nat → Int32) (pa : Nat → Int32) (hpa : C (o + 2) = pA Y pa) (hhs : ∀ i j, i < k0 → j < 161 → pa (161 * i + j) = hs i j) (sl : Nat → Nat → Int32) (sla sv : Nat → Int32) (hsl : C (o + 3) = .inl (Y 0, 322, .inl sla)) (hsls : ∀ k j, k < 2 → j < 161 → ¬ sv k = 0 → sla (161 * k + j) = sl k j) (hsv : C (o + 4) = .inl (Y 1, 2, .inl sv)) (pd : Nat → Int32) (nn : Nat) (hn80 : nn ≤ 80) (hpdd : C (o + 5) = .inl (Y 0, 80, .inl pd)) (x : Int32) (B : Int) (hok : okRow B r) (hBb : B + 60000 ≤ 900000000) (hB0 : 0 ≤ B) : Met l yX8_saves (wm yX8_saves cX8_saves 4 (some .int)) { frames := 4, cells := 0, slots := 0, locals := 94 } (wPc D Y ad N [.ref (ad o), .int (x)] (mW Y ad C o (nI k0) (nI nn) gr 0 r s0)) (wQi D ad N (fun q C' => q = T_svs r x ∧ mdlA Y ad C' o r hs k0 sl sv pd nn ∧ ∀ j, j < o ∨ o + 6 ≤ j → C' j = C j)) 0 0 (wA ad N) := by
  refine wMet RX8 rfl (by decide +kernel) (Nat.le_of_ble_eq_true rfl) (lv := [(0, .ref (ad o)), (1, .int (x))]) rfl ?_
  intro p e s m below meth c ls F hr hlocks hP hl
  have hS : va_S (wA ad N) s.heap s.heap [] := va_S.rf
  refine lv_iload_n F.1 F.2.1 dX8_saves_0 rfl (lv_at hl 1 rfl) ?_
  refine lv_iconst (v := 0) F.1 F.2.1 dX8_saves_1 (by decide) ?_
  refine lv_iconst (v := 1) F.1 F.2.1 dX8_saves_2 (by decide) ?_
  refine w_calls F hP hS (c_X8_in l D Y ad N hI _ x 0 1) (cwSm 3 F.2.2.2.2.1 (fun _ h => h) mw_183 mw_181 mw_182 mw_5 rfl rfl ydX8_in ⟨by decide, by decide⟩) rfl hl.1 rfl (Nat.le_of_ble_eq_true rfl) dX8_saves_3 ⟨Nat.zero_le _, Nat.zero_le _⟩ (fun rq1 Kq1 H locs hq1 hP hS => ?_)
  obtain ⟨hq1w, hq1r⟩ := hq1; rw [hq1w] at hP
  refine lv_if_ne (tgt := 12) F.1 F.2.1 dX8_saves_6 (by decide) (fun c2 => ?_) (fun c2 => ?_)
  · refine lv_aload_n F.1 F.2.1 dX8_saves_12 rfl (lv_at hl 0 rfl) ?_
    refine w_calli F hP hS (c_X8_isRolling l D Y ad N hI C o hh (nI k0) (nI nn) gr r s0) (cwVm 0 F.2.2.2.2.1 (fun _ h => h) mw_361 mw_358 mw_359 mw_360 mw_5 rfl rfl ydX8_isRolling ⟨by decide, by decide⟩) (by omega) mW_o rfl rfl hl.1 rfl (Nat.le_of_ble_eq_true rfl) dX8_saves_13 ⟨Nat.zero_le _, Nat.zero_le _⟩ (fun rq3 Kq3 H locs hq3 hP hS => ?_)
    obtain ⟨hq3w, hq3r⟩ := hq3; subst hq3w
    refine lv_if_ne (tgt := 22) F.1 F.2.1 dX8_saves_16 (by decide) (fun c4 => ?_) (fun c4 => ?_)
    · refine lv_iconst (v := 0) F.1 F.2.1 dX8_saves_22 (by decide) ?_
      refine lv_istore_n (lv' := [(2, .int (0)), (0, .ref (ad o)), (1, .int (x))]) F.1 F.2.1 dX8_saves_23 rfl hl (by decide) rfl (fun ls hl => ?_)
      have hx : x = 0 ∨ x = 1 := in01.mp (b_t hq1r c2)
      have hro : r 5 = 1 ∧ r 11 = 0 := b_t hq3r c4
      refine w_loop (Inv := fun j ls C' => ∃ (t : Nat) (s0 : Nat → Int32) (gr : Int32), j = 21 - t ∧ t ≤ 21 ∧ lv_has ls 4 [(2, .int (nI t)), (0, .ref (ad o)), (1, .int x)] ∧ C' = mW Y ad C o (nI k0) (nI nn) gr 0 r s0 ∧ T_svl x r (21 - t) t = T_svl x r 21 0) ?_ 21 ⟨0, s0, gr, rfl, by decide, lv_sub hl [0, 1, 2] rfl, rfl, rfl⟩ hP hS
      clear hP hS
      intro j ih H locs ls K0 hInv hP hS
      obtain ⟨t, s0, gr, hj, ht, hl, rfl, hW⟩ := hInv
      refine lv_iload_n F.1 F.2.1 dX8_saves_24 rfl (lv_at hl 0 rfl) ?_
      refine lv_bipush (v := 20) F.1 F.2.1 dX8_saves_25 (by decide) ?_
      refine lv_icmp_gt (tgt := 76) F.1 F.2.1 dX8_saves_27 (by decide) (fun c5 => ?_) (fun c5 => ?_)
      · refine lv_bipush (v := (-6)) F.1 F.2.1 dX8_saves_76 (by decide) ?_
        exact w_iret F hr hlocks hP hS dX8_saves_78 ⟨by unfold T_svs; rw [if_pos (show T_te x r = 0 from (if_pos hx).trans (if_pos hro)), ← hW, show 21 - t = 0 from by have : 20 < t := Nat.lt_of_not_le (fun q => i_nle c5 (nI_le q (by decide))); omega]; rfl, mdl_mk hk0 hn80 hpa hhs hsl hsls hsv hpdd, mfr_0⟩
      · have ht2 : t ≤ 20 := Nat.le_of_not_lt (fun q => c5 (nI_lt (a := 20) q (by omega)))
        have hW2 : (if (T_roll 20 (T_taps x r t) 0).1 11 = 4 then nI t else T_svl x r (20 - t) (t + 1)) = T_svl x r 21 0 := by rw [show 21 - t = 20 - t + 1 by omega] at hW; exact hW
        have okr := okRow_tapps x t (by omega) hok
        have e5 : T_tapps x r t 5 = 1 := ((eqv_tapps x r t) 5 (by decide) (by decide)).trans ((taps_out (by decide) t).trans hro.1)
        have e11 : T_tapps x r t 11 = 0 := ((eqv_tapps x r t) 11 (by decide) (by decide)).trans ((taps_out (by decide) t).trans hro.2)
        have h21 : T_rolled 21 (T_tapps x r t) gr 11 = (T_roll 20 (T_taps x r t) 0).1 11 := ((rolled_21 (g := gr) okr.1 (okr.2.2.1 e5) (by omega) e11).1 11 (by decide)).trans (roll_any 20 (eqv_tapps x r t) (by decide) (by decide))
        refine lv_aload_n F.1 F.2.1 dX8_saves_30 rfl (lv_at hl 1 rfl) ?_
        refine w_callv F hP hS (c_X8_copies l D Y ad N hI C o hh (nI k0) (nI nn) gr r s0) (cwVm 0 F.2.2.2.2.1 (fun _ h => h) mw_520 mw_517 mw_518 mw_519 mw_5 rfl rfl ydX8_copies ⟨by decide, by decide⟩) (by omega) mW_o rfl rfl hl.1 rfl (Nat.le_of_ble_eq_true rfl) dX8_saves_31 ⟨Nat.zero_le _, Nat.zero_le _⟩ (fun Kq6 H locs hq6 hP hS => ?_)
        obtain ⟨s1, hwq6, hs1⟩ := hq6; subst hwq6
        refine lv_iconst (v := 0) F.1 F.2.1 dX8_saves_34 (by decide) ?_
        refine lv_istore_n (lv' := [(3, .int (0)), (2, .int (nI t)), (0, .ref (ad o)), (1, .int (x))]) F.1 F.2.1 dX8_saves_35 rfl hl (by decide) rfl (fun ls hl => ?_)
        refine w_loop (Inv := fun j ls C' => ∃ k : Nat, j = t - k ∧ k ≤ t ∧ lv_has ls 4 [(3, .int (nI k)), (2, .int (nI t)), (0, .ref (ad o)), (1, .int x)] ∧ C' = mW Y ad C o (nI k0) (nI nn) gr 161 (T_tapps x r k) s1) ?_ t ⟨0, rfl, Nat.zero_le _, lv_sub hl [0, 1, 2, 3] rfl, rfl⟩ hP hS
        intro j2 ih2 H locs ls K1 hInv hP hS
        obtain ⟨k, hj2, hkt, hl, rfl⟩ := hInv
        refine lv_iload_n F.1 F.2.1 dX8_saves_36 rfl (lv_at hl 0 rfl) ?_
        refine lv_iload_n F.1 F.2.1 dX8_saves_37 rfl (lv_at hl 1 rfl) ?_
        refine lv_icmp_ge (tgt := 55) F.1 F.2.1 dX8_saves_38 (by decide) (fun c7 => ?_) (fun c7 => ?_)
        · obtain rfl : k = t := Nat.le_antisymm hkt (Nat.le_of_not_lt (fun q => nI_ge q (by omega) c7))
          refine lv_aload_n F.1 F.2.1 dX8_saves_55 rfl (lv_at hl 2 rfl) ?_
          refine lv_sipush (v := 161) F.1 F.2.1 dX8_saves_56 (by decide) ?_
          refine lv_bipush (v := 21) F.1 F.2.1 dX8_saves_59 (by decide) ?_
          refine w_calli F hP hS (c_X8_rolls l D Y ad N hI C o hh (nI k0) (nI nn) gr 161 (Or.inr rfl) (T_tapps x r k) s1 (B + 30 * k) 21 (by decide) (by omega) okr.1 (okr.2.2.1 e5) e11 21 rfl) (cwVm 2 F.2.2.2.2.1 (fun _ h => h) mw_365 mw_362 mw_363 mw_364 mw_5 rfl rfl ydX8_rolls ⟨by decide, by decide⟩) (by omega) mW_o rfl rfl hl.1 rfl (Nat.le_of_ble_eq_true rfl) dX8_saves_61 ⟨Nat.zero_le _, Nat.zero_le _⟩ (fun rq8 Kq8 H locs hq8 hP hS => ?_)
          obtain ⟨hq8w, hq8r⟩ := hq8; subst hq8w
          subst hq8r
          refine lv_iconst (v := 4) F.1 F.2.1 dX8_saves_64 (by decide) ?_
          refine lv_icmp_ne (tgt := 70) F.1 F.2.1 dX8_saves_65 (by decide) (fun c9 => ?_) (fun c9 => ?_)
          · refine lv_iinc (v := (nI k) + 1) (lv' := [(2, .int ((nI k) + 1)), (3, .int (nI k)), (0, .ref (ad o)), (1, .int (x))]) F.1 F.2.1 dX8_saves_70 hl (k := 1) rfl rfl (by decide) rfl (fun ls hl => ?_)
            refine lv_goto (tgt := 24) F.1 F.2.1 dX8_saves_73 (by decide) ?_
            rw [if_neg (by rw [← h21]; exact c9)] at hW2
            exact ih _ (by omega) _ _ _ _ ⟨k + 1, _, _, rfl, by omega, (by rw [nI_succ]; exact lv_sub hl [0, 2, 3] rfl), mW_back hs1, (by rw [show 21 - (k + 1) = 20 - k by omega]; exact hW2)⟩ hP hS
          · refine lv_iload_n F.1 F.2.1 dX8_saves_68 rfl (lv_at hl 1 rfl) ?_
            exact w_iret F hr hlocks hP hS dX8_saves_69 ⟨by rw [if_pos (by rw [← h21]; exact c9)] at hW2; unfold T_svs; rw [if_pos (show T_te x r = 0 from (if_pos hx).trans (if_pos hro))]; exact hW2, (by rw [mW_back hs1]; exact mdl_mk hk0 hn80 hpa hhs hsl hsls hsv hpdd), mfr_0⟩
        · have hk1 : k < t := Nat.lt_of_not_le (fun q => c7 (nI_le q (by omega)))
          refine lv_aload_n F.1 F.2.1 dX8_saves_41 rfl (lv_at hl 2 rfl) ?_
          refine lv_sipush (v := 161) F.1 F.2.1 dX8_saves_42 (by decide) ?_
          refine lv_iload_n F.1 F.2.1 dX8_saves_45 rfl (lv_at hl 3 rfl) ?_
          refine w_callv F hP hS (c_X8_taps l D Y ad N hI C o hh (nI k0) (nI nn) gr 161 (Or.inr rfl) (T_tapps x r k) s1 x) (cwVm 2 F.2.2.2.2.1 (fun _ h => h) mw_417 mw_414 mw_415 mw_416 mw_5 rfl rfl ydX8_taps ⟨by decide, by decide⟩) (by omega) mW_o rfl rfl hl.1 rfl (Nat.le_of_ble_eq_true rfl) dX8_saves_46 ⟨Nat.zero_le _, Nat.zero_le _⟩ (fun Kq10 H locs hq10 hP hS => ?_)
          subst hq10
          refine lv_iinc (v := (nI k) + 1) (lv' := [(3, .int ((nI k) + 1)), (2, .int (nI t)), (0, .ref (ad o)), (1, .int (x))]) F.1 F.2.1 dX8_saves_49 hl (k := 0) rfl rfl (by decide) rfl (fun ls hl => ?_)
          refine lv_goto (tgt := 36) F.1 F.2.1 dX8_saves_52 (by decide) ?_
          exact ih2 _ (by omega) _ _ _ _ ⟨k + 1, rfl, by omega, (by rw [nI_succ]; exact lv_sub hl [0, 1, 2, 3] rfl), rfl⟩ hP hS
    · refine lv_bipush (v := (-5)) F.1 F.2.1 dX8_saves_19 (by decide) ?_
      exact w_iret F hr hlocks hP hS dX8_saves_21 ⟨by unfold T_svs; rw [show T_te x r = -5 from (if_pos (in01.mp (b_t hq1r c2))).trans (if_neg (b_f hq3r c4)), if_neg (by decide)], mdl_mk hk0 hn80 hpa hhs hsl hsls hsv hpdd, mfr_0⟩
  · refine lv_bipush (v := (-2)) F.1 F.2.1 dX8_saves_9 (by decide) ?_
    exact w_iret F hr hlocks hP hS dX8_saves_11 ⟨by unfold T_svs; rw [show T_te x r = -2 from if_neg (fun q => (b_f hq1r c2) (in01.mpr q)), if_neg (by decide)], mdl_mk hk0 hn80 hpa hhs hsl hsls hsv hpdd, mfr_0⟩
theorem cm_X8_saves (l : Launch) (D : va_G) (Y : Nat → ClassId) (ad : Nat → Nat) (N : Nat) (hI : wI ad N) (C : Nat → va_E) (o : Nat) (hh : o + 6 ≤ N) (f : Nat → Int32) (hs : Nat → Nat → Int32) (kn : Nat) (sl : Nat → Nat → Int32) (sv pd : Nat → Int32) (n : Nat) (hA : mdlA Y ad C o f hs kn sl sv pd n) (x : Int32) (B : Int) (hok : okRow B f) (hBb : B + 60000 ≤ 900000000) (hB0 : 0 ≤ B) : Met l yX8_saves (wm yX8_saves cX8_saves 4 (some .int)) { frames := 4, cells := 0, slots := 0, locals := 94 } (wPc D Y ad N [.ref (ad o), .int (x)] C) (wQi D ad N (fun q C' => q = T_svs f x ∧ mdlA Y ad C' o f hs kn sl sv pd n ∧ ∀ j, j < o ∨ o + 6 ≤ j → C' j = C j)) 0 0 (wA ad N) := by
  obtain ⟨s0, pa, sla, gr, h1, h2, h3, h4, h5, h6, h7, h8, h9, h10⟩ := hA
  have h := c_X8_saves l D Y ad N hI C o hh gr f s0 kn h3 hs pa h5 h6 sl sla sv h7 h8 h9 pd n h4 h10 x B hok hBb hB0
  rw [← mW_id h1 h2] at h
  exact h
set_option maxRecDepth 20000 in
set_option maxHeartbeats 4000000 in
/-- wipe -/
theorem c_X8_wipe (l : Launch) (D : va_G) (Y : Nat → ClassId) (ad : Nat → Nat) (N : Nat) (hI : wI ad N) (C : Nat → va_E) (o : Nat) (hh : o + 6 ≤ N) (gr : Int32) (r s0 : Nat → Int32) (k0 : Nat) (hk0 : k0 ≤ 6) (hs : Nat → Nat → Int32) (pa : Nat → Int32) (hpa : C (o + 2) = pA Y pa) (hhs : ∀ i j, i < k0 → j < 161 → pa (161 * i + j) = hs i j) (sl : Nat → Nat → Int32) (sla sv : Nat → Int32) (hsl : C (o + 3) = .inl (Y 0, 322, .inl sla)) (hsls : ∀ k j, k < 2 → j < 161 → ¬ sv k = 0 → sla (161 * k + j) = sl k j) (hsv : C (o + 4) = .inl (Y 1, 2, .inl sv)) (pd : Nat → Int32) (nn : Nat) (hn80 : nn ≤ 80) (hpdd : C (o + 5) = .inl (Y 0, 80, .inl pd)) : Met l yX8_wipe (wm yX8_wipe cX8_wipe 2 (some .int)) { frames := 0, cells := 0, slots := 0, locals := 0 } (wPc D Y ad N [.ref (ad o)] (mW Y ad C o (nI k0) (nI nn) gr 0 r s0)) (wQi D ad N (fun q C' => q = nI nn ∧ mdlA Y ad C' o r hs k0 sl sv pd 0 ∧ ∀ j, j < o ∨ o + 6 ≤ j → C' j = C j)) 0 0 (wA ad N) := by
  refine wMet RX8 rfl (by decide +kernel) (Nat.le_of_ble_eq_true rfl) (lv := [(0, .ref (ad o))]) rfl ?_
  intro p e s m below meth c ls F hr hlocks hP hl
  have hS : va_S (wA ad N) s.heap s.heap [] := va_S.rf
  refine lv_aload_n F.1 F.2.1 dX8_wipe_0 rfl (lv_at hl 0 rfl) ?_
  refine gf_X8_106 F hP (by omega) mW_o (v := .int (nI nn)) rfl dX8_wipe_1 ?_
  refine lv_istore_n (lv' := [(1, .int (nI nn)), (0, .ref (ad o))]) F.1 F.2.1 dX8_wipe_4 rfl hl (by decide) rfl (fun ls hl => ?_)
  refine lv_aload_n F.1 F.2.1 dX8_wipe_5 rfl (lv_at hl 1 rfl) ?_
  refine lv_iconst (v := 0) F.1 F.2.1 dX8_wipe_6 (by decide) ?_
  refine pf_X8_106 F hI hP hS (by omega) mW_o (Nat.le_of_ble_eq_true rfl) (C1 := mW Y ad C o (nI k0) 0 gr 0 r s0) (fun q => congrFun mW_updo q) dX8_wipe_7 (fun H locs hP hS => ?_)
  refine lv_iload_n F.1 F.2.1 dX8_wipe_10 rfl (lv_at hl 0 rfl) ?_
  exact w_iret F hr hlocks hP hS dX8_wipe_11 ⟨rfl, mdl_mk (nn := 0) hk0 (by omega) hpa hhs hsl hsls hsv hpdd, mfr_0⟩
theorem cm_X8_wipe (l : Launch) (D : va_G) (Y : Nat → ClassId) (ad : Nat → Nat) (N : Nat) (hI : wI ad N) (C : Nat → va_E) (o : Nat) (hh : o + 6 ≤ N) (f : Nat → Int32) (hs : Nat → Nat → Int32) (kn : Nat) (sl : Nat → Nat → Int32) (sv pd : Nat → Int32) (n : Nat) (hA : mdlA Y ad C o f hs kn sl sv pd n) : Met l yX8_wipe (wm yX8_wipe cX8_wipe 2 (some .int)) { frames := 0, cells := 0, slots := 0, locals := 0 } (wPc D Y ad N [.ref (ad o)] C) (wQi D ad N (fun q C' => q = nI n ∧ mdlA Y ad C' o f hs kn sl sv pd 0 ∧ ∀ j, j < o ∨ o + 6 ≤ j → C' j = C j)) 0 0 (wA ad N) := by
  obtain ⟨s0, pa, sla, gr, h1, h2, h3, h4, h5, h6, h7, h8, h9, h10⟩ := hA
  have h := c_X8_wipe l D Y ad N hI C o hh gr f s0 kn h3 hs pa h5 h6 sl sla sv h7 h8 h9 pd n h4 h10 
  rw [← mW_id h1 h2] at h
  exact h
set_option maxRecDepth 20000 in
set_option maxHeartbeats 4000000 in
/-- the fault -/
theorem c_X8q_fault (l : Launch) (D : va_G) (Y : Nat → ClassId) (ad : Nat → Nat) (N : Nat) (hI : wI ad N) (C : Nat → va_E) (o : Nat) (hh : o + 6 ≤ N) (gr : Int32) (r s0 : Nat → Int32) (k0 : Nat) (hk0 : k0 ≤ 6) (hs : Nat → Nat → Int32) (pa : Nat → Int32) (hpa : C (o + 2) = pA Y pa) (hhs : ∀ i j, i < k0 → j < 161 → pa (161 * i + j) = hs i j) (sl : Nat → Nat → Int32) (sla sv : Nat → Int32) (hsl : C (o + 3) = .inl (Y 0, 322, .inl sla)) (hsls : ∀ k j, k < 2 → j < 161 → ¬ sv k = 0 → sla (161 * k + j) = sl k j) (hsv : C (o + 4) = .inl (Y 1, 2, .inl sv)) (pd : Nat → Int32) (nn : Nat) (hn80 : nn ≤ 80) (hpdd : C (o + 5) = .inl (Y 0, 80, .inl pd)) : Met l yX8_fault (wm yX8_fault cX8_fault 4 (some .int)) { frames := 4, cells := 0, slots := 0, locals := 85 } (wPc D Y ad N [.ref (ad o)] (mW Y ad C o (nI k0) (nI nn) gr 0 r s0)) (wQi D ad N (fun q C' => q = F_fault pd nn 80 0 ∧ mdlA Y ad C' o r hs k0 sl sv pd nn ∧ ∀ j, j < o ∨ o + 6 ≤ j → C' j = C j)) 0 0 (wA ad N) := by
  refine wMet RX8 rfl (by decide +kernel) (Nat.le_of_ble_eq_true rfl) (lv := [(0, .ref (ad o))]) rfl ?_
  intro p e s m below meth c ls F hr hlocks hP hl
  have hS : va_S (wA ad N) s.heap s.heap [] := va_S.rf
  refine lv_iconst (v := 0) F.1 F.2.1 dX8_fault_0 (by decide) ?_
  refine lv_istore_n (lv' := [(1, .int (0)), (0, .ref (ad o))]) F.1 F.2.1 dX8_fault_1 rfl hl (by decide) rfl (fun ls hl => ?_)
  refine lv_iconst (v := 0) F.1 F.2.1 dX8_fault_2 (by decide) ?_
  refine lv_istore_n (lv' := [(2, .int (0)), (1, .int (0)), (0, .ref (ad o))]) F.1 F.2.1 dX8_fault_3 rfl hl (by decide) rfl (fun ls hl => ?_)
  refine w_loop (Inv := fun j ls C' => ∃ i a : Nat, j = 80 - i ∧ 2 * i ≤ a ∧ a ≤ nn ∧ lv_has ls 4 [(2, .int (nI i)), (1, .int (nI a)), (0, .ref (ad o))] ∧ C' = mW Y ad C o (nI k0) (nI nn) gr 0 r s0 ∧ F_fault pd nn (80 - i) a = F_fault pd nn 80 0) ?_ 80 ⟨0, 0, rfl, by decide, Nat.zero_le _, lv_sub hl [0, 1, 2] rfl, rfl, rfl⟩ hP hS
  intro j ih H locs ls K0 hInv hP hS
  obtain ⟨i, a, hj, hia, han, hl, rfl, hF⟩ := hInv
  rw [show 80 - i = 80 - (i + 1) + 1 by omega] at hF
  have hF2 : (if P_ok pd nn a then (if P_end pd nn a = nn then (-6 : Int32) else if chr_ pd nn (P_end pd nn a) = 59 then F_fault pd nn (80 - (i + 1)) (P_end pd nn a + 1) else nI (P_end pd nn a)) else nI (P_end pd nn a)) = F_fault pd nn 80 0 := hF
  refine lv_iload_n F.1 F.2.1 dX8_fault_4 rfl (lv_at hl 0 rfl) ?_
  refine lv_bipush (v := 80) F.1 F.2.1 dX8_fault_5 (by decide) ?_
  refine lv_icmp_ge (tgt := 57) F.1 F.2.1 dX8_fault_7 (by decide) (fun c1 => False.elim (nI_ge (b := 80) (by omega) (by decide) c1)) (fun c1 => ?_)
  refine lv_aload_n F.1 F.2.1 dX8_fault_10 rfl (lv_at hl 2 rfl) ?_
  refine lv_iload_n F.1 F.2.1 dX8_fault_11 rfl (lv_at hl 1 rfl) ?_
  refine w_calli F hP hS (c_X8_orderEnd l D Y ad N hI C o hh (nI k0) gr r s0 pd nn hn80 hpdd a (by omega) (nI a) rfl ) (cwVm 1 F.2.2.2.2.1 (fun _ h => h) mw_627 mw_624 mw_625 mw_626 mw_5 rfl rfl ydX8_orderEnd ⟨by decide, by decide⟩) (by omega) mW_o rfl rfl hl.1 rfl (Nat.le_of_ble_eq_true rfl) dX8_fault_12 ⟨Nat.zero_le _, Nat.zero_le _⟩ (fun rq2 Kq2 H locs hq2 hP hS => ?_)
  obtain ⟨hq2w, hq2r⟩ := hq2; subst hq2w hq2r
  by_cases hok5 : P_ok pd nn a
  · have heb := P_end_b pd nn a
    have hpl := P_ok_lt hok5
    refine lv_topi (fun v3 ev3 => ?_)
    have ev3 : v3 = nI (P_end pd nn a) := ev3.trans (if_pos hok5)
    subst ev3
    refine lv_istore_n (lv' := [(3, .int (nI (P_end pd nn a))), (2, .int (nI i)), (1, .int (nI a)), (0, .ref (ad o))]) F.1 F.2.1 dX8_fault_15 rfl hl (by decide) rfl (fun ls hl => ?_)
    refine lv_iload_n F.1 F.2.1 dX8_fault_16 rfl (lv_at hl 0 rfl) ?_
    refine lv_if_ge (tgt := 24) F.1 F.2.1 dX8_fault_17 (by decide) (fun c4 => ?_) (fun c4 => False.elim (c4 (nI_pos' (by omega))))
    refine lv_iload_n F.1 F.2.1 dX8_fault_24 rfl (lv_at hl 0 rfl) ?_
    refine lv_aload_n F.1 F.2.1 dX8_fault_25 rfl (lv_at hl 3 rfl) ?_
    refine gf_X8_106 F hP (by omega) mW_o (v := .int (nI nn)) rfl dX8_fault_26 ?_
    refine lv_icmp_ne (tgt := 35) F.1 F.2.1 dX8_fault_29 (by decide) (fun c5 => ?_) (fun c5 => ?_)
    · refine lv_aload_n F.1 F.2.1 dX8_fault_35 rfl (lv_at hl 3 rfl) ?_
      refine lv_iload_n F.1 F.2.1 dX8_fault_36 rfl (lv_at hl 0 rfl) ?_
      refine w_calli F hP hS (c_X8_sign l D Y ad N hI C o hh (nI k0) gr r s0 pd nn hn80 hpdd (P_end pd nn a) (by omega) (nI (P_end pd nn a)) rfl ) (cwVm 1 F.2.2.2.2.1 (fun _ h => h) mw_631 mw_628 mw_629 mw_630 mw_5 rfl rfl ydX8_sign ⟨by decide, by decide⟩) (by omega) mW_o rfl rfl hl.1 rfl (Nat.le_of_ble_eq_true rfl) dX8_fault_37 ⟨Nat.zero_le _, Nat.zero_le _⟩ (fun rq6 Kq6 H locs hq6 hP hS => ?_)
      obtain ⟨hq6w, hq6r⟩ := hq6; subst hq6w hq6r
      refine lv_bipush (v := 59) F.1 F.2.1 dX8_fault_40 (by decide) ?_
      refine lv_icmp_eq (tgt := 47) F.1 F.2.1 dX8_fault_42 (by decide) (fun c7 => ?_) (fun c7 => ?_)
      · refine lv_iload_n F.1 F.2.1 dX8_fault_47 rfl (lv_at hl 0 rfl) ?_
        refine lv_iconst (v := 1) F.1 F.2.1 dX8_fault_48 (by decide) ?_
        refine lv_iadd F.1 F.2.1 dX8_fault_49 ?_
        refine lv_istore_n (lv' := [(1, .int ((nI (P_end pd nn a)) + 1)), (3, .int (nI (P_end pd nn a))), (2, .int (nI i)), (0, .ref (ad o))]) F.1 F.2.1 dX8_fault_50 rfl hl (by decide) rfl (fun ls hl => ?_)
        refine lv_iinc (v := (nI i) + 1) (lv' := [(2, .int ((nI i) + 1)), (1, .int ((nI (P_end pd nn a)) + 1)), (3, .int (nI (P_end pd nn a))), (0, .ref (ad o))]) F.1 F.2.1 dX8_fault_51 hl (k := 2) rfl rfl (by decide) rfl (fun ls hl => ?_)
        refine lv_goto (tgt := 4) F.1 F.2.1 dX8_fault_54 (by decide) ?_
        have hch : chr_ pd nn (P_end pd nn a) = 59 := (sg_eq (by decide) (by decide)).mp c7
        have hlt : P_end pd nn a < nn := chr_lt (fun q => by rw [hch] at q; exact absurd q (by decide))
        rw [if_pos hok5, if_neg (fun q => c5 (by rw [q])), if_pos hch] at hF2
        exact ih _ (by omega) _ _ _ _ ⟨i + 1, P_end pd nn a + 1, rfl, by omega, by omega, (by rw [nI_succ, nI_succ]; exact lv_sub hl [0, 1, 3] rfl), rfl, hF2⟩ hP hS
      · refine lv_iload_n F.1 F.2.1 dX8_fault_45 rfl (lv_at hl 0 rfl) ?_
        exact w_iret F hr hlocks hP hS dX8_fault_46 ⟨by rw [if_pos hok5, if_neg (fun q => c5 (by rw [q])), if_neg (fun q => c7 ((sg_eq (by decide) (by decide)).mpr q))] at hF2; exact hF2, mdl_mk hk0 hn80 hpa hhs hsl hsls hsv hpdd, mfr_0⟩
    · refine lv_bipush (v := (-6)) F.1 F.2.1 dX8_fault_32 (by decide) ?_
      exact w_iret F hr hlocks hP hS dX8_fault_34 ⟨by rw [if_pos hok5, if_pos ((nI_eq (by omega) (by omega)).mp c5)] at hF2; exact hF2, mdl_mk hk0 hn80 hpa hhs hsl hsls hsv hpdd, mfr_0⟩
  · have heb := P_end_b pd nn a
    refine lv_topi (fun v8 ev8 => ?_)
    have ev8 : v8 = -1 - nI (P_end pd nn a) := ev8.trans (if_neg hok5)
    subst ev8
    refine lv_istore_n (lv' := [(3, .int (-1 - nI (P_end pd nn a))), (2, .int (nI i)), (1, .int (nI a)), (0, .ref (ad o))]) F.1 F.2.1 dX8_fault_15 rfl hl (by decide) rfl (fun ls hl => ?_)
    refine lv_iload_n F.1 F.2.1 dX8_fault_16 rfl (lv_at hl 0 rfl) ?_
    refine lv_if_ge (tgt := 24) F.1 F.2.1 dX8_fault_17 (by decide) (fun c9 => False.elim (i_nle (m1_nI _ (by omega)) c9)) (fun c9 => ?_)
    refine lv_iconst (v := (-1)) F.1 F.2.1 dX8_fault_20 (by decide) ?_
    refine lv_iload_n F.1 F.2.1 dX8_fault_21 rfl (lv_at hl 0 rfl) ?_
    refine lv_isub F.1 F.2.1 dX8_fault_22 ?_
    exact w_iret F hr hlocks hP hS dX8_fault_23 ⟨by rw [if_neg hok5] at hF2; rw [← hF2]; exact m1_back _, mdl_mk hk0 hn80 hpa hhs hsl hsls hsv hpdd, mfr_0⟩
theorem cm_X8_fault (l : Launch) (D : va_G) (Y : Nat → ClassId) (ad : Nat → Nat) (N : Nat) (hI : wI ad N) (C : Nat → va_E) (o : Nat) (hh : o + 6 ≤ N) (f : Nat → Int32) (hs : Nat → Nat → Int32) (kn : Nat) (sl : Nat → Nat → Int32) (sv pd : Nat → Int32) (n : Nat) (hA : mdlA Y ad C o f hs kn sl sv pd n) : Met l yX8_fault (wm yX8_fault cX8_fault 4 (some .int)) { frames := 4, cells := 0, slots := 0, locals := 85 } (wPc D Y ad N [.ref (ad o)] C) (wQi D ad N (fun q C' => q = F_fault pd n 80 0 ∧ mdlA Y ad C' o f hs kn sl sv pd n ∧ ∀ j, j < o ∨ o + 6 ≤ j → C' j = C j)) 0 0 (wA ad N) := by
  obtain ⟨s0, pa, sla, gr, h1, h2, h3, h4, h5, h6, h7, h8, h9, h10⟩ := hA
  have h := c_X8q_fault l D Y ad N hI C o hh gr f s0 kn h3 hs pa h5 h6 sl sla sv h7 h8 h9 pd n h4 h10 
  rw [← mW_id h1 h2] at h
  exact h
