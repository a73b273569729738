/-! HoopStairs$Hoop: a landing, a part, a run -/
set_option maxRecDepth 20000 in
/-- a copy -/
theorem c_X1_copyFrom (l : Launch) (D : va_G) (Y : Nat → ClassId) (ad : Nat → Nat) (N : Nat) (hI : wI ad N) (C : Nat → va_E) (h : Nat) (hh : h < N) (a5 a6 a7 a8 a9 a10 a11 a12 a13 g : Int32) (hC : C h = hpV a5 a6 a7 a8 a9 a10 a11 a12 a13 g) (h2 : Nat) (hh2 : h2 < N) (hne : h2 ≠ h) (b5 b6 b7 b8 b9 b10 b11 b12 b13 gb : Int32) (hC2 : C h2 = hpV b5 b6 b7 b8 b9 b10 b11 b12 b13 gb) (hz : b5 = 0 ∨ b5 = 1) : Met l yX1_copyFrom (wm yX1_copyFrom cX1_copyFrom 2 none) { frames := 0, cells := 0, slots := 0, locals := 0 } (wPc D Y ad N [.ref (ad h), .ref (ad h2)] C) (wQv D ad N (fun C' => C' = va_up C h (hpV b5 b6 b7 b8 b9 b10 b11 b12 b13 gb))) 0 0 (wA ad N) := by
  refine wMet RX1 rfl (by decide +kernel) (Nat.le_of_ble_eq_true rfl) (lv := [(0, .ref (ad h)), (1, .ref (ad h2))]) rfl ?_
  intro p e s m below meth c ls F hr hlocks hP hl
  have hS : va_S (wA ad N) s.heap s.heap [] := va_S.rf
  refine lv_aload_n F.1 F.2.1 dX1_copyFrom_0 rfl (lv_at hl 0 rfl) ?_
  refine lv_aload_n F.1 F.2.1 dX1_copyFrom_1 rfl (lv_at hl 1 rfl) ?_
  refine gf_X1_9 F hP hh2 hC2 (v := .int (b5)) rfl dX1_copyFrom_2 ?_
  refine pf_X1_9 F hI hP hS hh hC (hz := hz) (Nat.le_of_ble_eq_true rfl) (C1 := va_up C h (hpV b5 a6 a7 a8 a9 a10 a11 a12 a13 g)) (fun _ => rfl) dX1_copyFrom_5 (fun H locs hP hS => ?_)
  refine lv_aload_n F.1 F.2.1 dX1_copyFrom_8 rfl (lv_at hl 0 rfl) ?_
  refine lv_aload_n F.1 F.2.1 dX1_copyFrom_9 rfl (lv_at hl 1 rfl) ?_
  refine gf_X1_15 F hP hh2 ((va_up_ne _ _ hne).trans hC2) (v := .int (b6)) rfl dX1_copyFrom_10 ?_
  refine pf_X1_15 F hI hP hS hh (va_up_self _ _ _) (Nat.le_of_ble_eq_true rfl) (C1 := va_up C h (hpV b5 b6 a7 a8 a9 a10 a11 a12 a13 g)) up_self dX1_copyFrom_13 (fun H locs hP hS => ?_)
  refine lv_aload_n F.1 F.2.1 dX1_copyFrom_16 rfl (lv_at hl 0 rfl) ?_
  refine lv_aload_n F.1 F.2.1 dX1_copyFrom_17 rfl (lv_at hl 1 rfl) ?_
  refine gf_X1_19 F hP hh2 ((va_up_ne _ _ hne).trans hC2) (v := .int (b7)) rfl dX1_copyFrom_18 ?_
  refine pf_X1_19 F hI hP hS hh (va_up_self _ _ _) (Nat.le_of_ble_eq_true rfl) (C1 := va_up C h (hpV b5 b6 b7 a8 a9 a10 a11 a12 a13 g)) up_self dX1_copyFrom_21 (fun H locs hP hS => ?_)
  refine lv_aload_n F.1 F.2.1 dX1_copyFrom_24 rfl (lv_at hl 0 rfl) ?_
  refine lv_aload_n F.1 F.2.1 dX1_copyFrom_25 rfl (lv_at hl 1 rfl) ?_
  refine gf_X1_22 F hP hh2 ((va_up_ne _ _ hne).trans hC2) (v := .int (b8)) rfl dX1_copyFrom_26 ?_
  refine pf_X1_22 F hI hP hS hh (va_up_self _ _ _) (Nat.le_of_ble_eq_true rfl) (C1 := va_up C h (hpV b5 b6 b7 b8 a9 a10 a11 a12 a13 g)) up_self dX1_copyFrom_29 (fun H locs hP hS => ?_)
  refine lv_aload_n F.1 F.2.1 dX1_copyFrom_32 rfl (lv_at hl 0 rfl) ?_
  refine lv_aload_n F.1 F.2.1 dX1_copyFrom_33 rfl (lv_at hl 1 rfl) ?_
  refine gf_X1_25 F hP hh2 ((va_up_ne _ _ hne).trans hC2) (v := .int (b9)) rfl dX1_copyFrom_34 ?_
  refine pf_X1_25 F hI hP hS hh (va_up_self _ _ _) (Nat.le_of_ble_eq_true rfl) (C1 := va_up C h (hpV b5 b6 b7 b8 b9 a10 a11 a12 a13 g)) up_self dX1_copyFrom_37 (fun H locs hP hS => ?_)
  refine lv_aload_n F.1 F.2.1 dX1_copyFrom_40 rfl (lv_at hl 0 rfl) ?_
  refine lv_aload_n F.1 F.2.1 dX1_copyFrom_41 rfl (lv_at hl 1 rfl) ?_
  refine gf_X1_28 F hP hh2 ((va_up_ne _ _ hne).trans hC2) (v := .int (b10)) rfl dX1_copyFrom_42 ?_
  refine pf_X1_28 F hI hP hS hh (va_up_self _ _ _) (Nat.le_of_ble_eq_true rfl) (C1 := va_up C h (hpV b5 b6 b7 b8 b9 b10 a11 a12 a13 g)) up_self dX1_copyFrom_45 (fun H locs hP hS => ?_)
  refine lv_aload_n F.1 F.2.1 dX1_copyFrom_48 rfl (lv_at hl 0 rfl) ?_
  refine lv_aload_n F.1 F.2.1 dX1_copyFrom_49 rfl (lv_at hl 1 rfl) ?_
  refine gf_X1_31 F hP hh2 ((va_up_ne _ _ hne).trans hC2) (v := .int (b11)) rfl dX1_copyFrom_50 ?_
  refine pf_X1_31 F hI hP hS hh (va_up_self _ _ _) (Nat.le_of_ble_eq_true rfl) (C1 := va_up C h (hpV b5 b6 b7 b8 b9 b10 b11 a12 a13 g)) up_self dX1_copyFrom_53 (fun H locs hP hS => ?_)
  refine lv_aload_n F.1 F.2.1 dX1_copyFrom_56 rfl (lv_at hl 0 rfl) ?_
  refine lv_aload_n F.1 F.2.1 dX1_copyFrom_57 rfl (lv_at hl 1 rfl) ?_
  refine gf_X1_34 F hP hh2 ((va_up_ne _ _ hne).trans hC2) (v := .int (b12)) rfl dX1_copyFrom_58 ?_
  refine pf_X1_34 F hI hP hS hh (va_up_self _ _ _) (Nat.le_of_ble_eq_true rfl) (C1 := va_up C h (hpV b5 b6 b7 b8 b9 b10 b11 b12 a13 g)) up_self dX1_copyFrom_61 (fun H locs hP hS => ?_)
  refine lv_aload_n F.1 F.2.1 dX1_copyFrom_64 rfl (lv_at hl 0 rfl) ?_
  refine lv_aload_n F.1 F.2.1 dX1_copyFrom_65 rfl (lv_at hl 1 rfl) ?_
  refine gf_X1_37 F hP hh2 ((va_up_ne _ _ hne).trans hC2) (v := .int (b13)) rfl dX1_copyFrom_66 ?_
  refine pf_X1_37 F hI hP hS hh (va_up_self _ _ _) (Nat.le_of_ble_eq_true rfl) (C1 := va_up C h (hpV b5 b6 b7 b8 b9 b10 b11 b12 b13 g)) up_self dX1_copyFrom_69 (fun H locs hP hS => ?_)
  refine lv_aload_n F.1 F.2.1 dX1_copyFrom_72 rfl (lv_at hl 0 rfl) ?_
  refine lv_aload_n F.1 F.2.1 dX1_copyFrom_73 rfl (lv_at hl 1 rfl) ?_
  refine gf_X1_40 F hP hh2 ((va_up_ne _ _ hne).trans hC2) (v := .int (gb)) rfl dX1_copyFrom_74 ?_
  refine pf_X1_40 F hI hP hS hh (va_up_self _ _ _) (Nat.le_of_ble_eq_true rfl) (C1 := va_up C h (hpV b5 b6 b7 b8 b9 b10 b11 b12 b13 gb)) up_self dX1_copyFrom_77 (fun H locs hP hS => ?_)
  exact w_vret F hr hlocks hP hS dX1_copyFrom_80 rfl
set_option maxRecDepth 20000 in
/-- a landing -/
theorem c_X1_rollAlong (l : Launch) (D : va_G) (Y : Nat → ClassId) (ad : Nat → Nat) (N : Nat) (hI : wI ad N) (C : Nat → va_E) (h : Nat) (hh : h < N) (f : Nat → Int32) (g : Int32) (hC : C h = hpV (f 5) (f 6) (f 7) (f 8) (f 9) (f 10) (f 11) (f 12) (f 13) g) (x : Int32) (hL : okL f) : Met l yX1_rollAlong (wm yX1_rollAlong cX1_rollAlong 4 none) { frames := 2, cells := 0, slots := 0, locals := 38 } (wPc D Y ad N [.ref (ad h), .int (x), .int (f 2)] C) (wQv D ad N (fun C' => C' = va_up C h (hpR (T_lands x.toNatClampNeg f) g))) 0 0 (wA ad N) := by
  refine wMet RX1 rfl (by decide +kernel) (Nat.le_of_ble_eq_true rfl) (lv := [(0, .ref (ad h)), (1, .int (x)), (2, .int (f 2))]) rfl ?_
  intro p e s m below meth c ls F hr hlocks hP hl
  have hS : va_S (wA ad N) s.heap s.heap [] := va_S.rf
  refine lv_iconst (v := 0) F.1 F.2.1 dX1_rollAlong_0 (by decide) ?_
  refine lv_istore_n (lv' := [(3, .int (0)), (0, .ref (ad h)), (1, .int (x)), (2, .int (f 2))]) F.1 F.2.1 dX1_rollAlong_1 rfl hl (by decide) rfl (fun ls hl => ?_)
  refine w_loop (Inv := fun i ls C' => ∃ (k : Nat) (f1 : Nat → Int32), i = x.toNatClampNeg - k ∧ k ≤ x.toNatClampNeg ∧ lv_has ls 4 [(3, .int (nI k)), (0, .ref (ad h)), (1, .int x), (2, .int (f1 2))] ∧ C' = va_up C h (hpR f1 g) ∧ T_lands (x.toNatClampNeg - k) f1 = T_lands x.toNatClampNeg f ∧ okL f1) ?_ x.toNatClampNeg ⟨0, f, rfl, Nat.zero_le _, lv_sub hl [0, 1, 2, 3] rfl, up_id hC, rfl, hL⟩ hP hS
  intro i ih H locs ls C1 hInv hP hS
  obtain ⟨k, f1, hi, hk, hl, rfl, hT, hO⟩ := hInv
  refine lv_iload_n F.1 F.2.1 dX1_rollAlong_2 rfl (lv_at hl 0 rfl) ?_
  refine lv_iload_n F.1 F.2.1 dX1_rollAlong_3 rfl (lv_at hl 2 rfl) ?_
  refine lv_icmp_ge (tgt := 53) F.1 F.2.1 dX1_rollAlong_4 (by decide) (fun c1 => ?_) (fun c1 => ?_)
  · exact w_vret F hr hlocks hP hS dX1_rollAlong_53 (by rw [T_lands_e _ k f1 f hT (lc_out c1 hk)])
  · refine lv_aload_n F.1 F.2.1 dX1_rollAlong_7 rfl (lv_at hl 1 rfl) ?_
    refine lv_iconst (v := 0) F.1 F.2.1 dX1_rollAlong_8 (by decide) ?_
    refine lv_aload_n F.1 F.2.1 dX1_rollAlong_9 rfl (lv_at hl 1 rfl) ?_
    refine gf_X1_19 F hP hh (va_up_self _ _ _) (v := .int (f1 7)) rfl dX1_rollAlong_10 ?_
    refine lv_iload_n F.1 F.2.1 dX1_rollAlong_13 rfl (lv_at hl 3 rfl) ?_
    refine lv_isub F.1 F.2.1 dX1_rollAlong_14 ?_
    refine w_max F hl.1 mw_323 (by decide) (Nat.le_of_ble_eq_true rfl) ⟨Nat.zero_le _, Nat.zero_le _⟩ dX1_rollAlong_15 ?_
    refine lv_topi (fun v2 ev2 => ?_)
    have ev2 : v2 = slow (f1 7) (f1 2) := ev2.trans (okL_s hO)
    subst ev2
    refine pf_X1_19 F hI hP hS hh (va_up_self _ _ _) (Nat.le_of_ble_eq_true rfl) (C1 := va_up C h (hpV (f1 5) (f1 6) (slow (f1 7) (f1 2)) (f1 8) (f1 9) (f1 10) (f1 11) (f1 12) (f1 13) g)) up_self dX1_rollAlong_18 (fun H locs hP hS => ?_)
    refine lv_aload_n F.1 F.2.1 dX1_rollAlong_21 rfl (lv_at hl 1 rfl) ?_
    refine lv_dup F.1 F.2.1 dX1_rollAlong_22 rfl ?_
    refine gf_X1_25 F hP hh (va_up_self _ _ _) (v := .int (f1 9)) rfl dX1_rollAlong_23 ?_
    refine lv_aload_n F.1 F.2.1 dX1_rollAlong_26 rfl (lv_at hl 1 rfl) ?_
    refine gf_X1_25 F hP hh (va_up_self _ _ _) (v := .int (f1 9)) rfl dX1_rollAlong_27 ?_
    refine lv_iconst (v := 4) F.1 F.2.1 dX1_rollAlong_30 (by decide) ?_
    refine lv_idiv F.1 F.2.1 dX1_rollAlong_31 (by decide) ?_
    refine lv_isub F.1 F.2.1 dX1_rollAlong_32 ?_
    refine pf_X1_25 F hI hP hS hh (va_up_self _ _ _) (Nat.le_of_ble_eq_true rfl) (C1 := va_up C h (hpV (f1 5) (f1 6) (slow (f1 7) (f1 2)) (f1 8) ((f1 9) - ((f1 9) / 4)) (f1 10) (f1 11) (f1 12) (f1 13) g)) up_self dX1_rollAlong_33 (fun H locs hP hS => ?_)
    refine lv_aload_n F.1 F.2.1 dX1_rollAlong_36 rfl (lv_at hl 1 rfl) ?_
    refine lv_aload_n F.1 F.2.1 dX1_rollAlong_37 rfl (lv_at hl 1 rfl) ?_
    refine gf_X1_19 F hP hh (va_up_self _ _ _) (v := .int (slow (f1 7) (f1 2))) rfl dX1_rollAlong_38 ?_
    refine lv_bipush (v := 20) F.1 F.2.1 dX1_rollAlong_41 (by decide) ?_
    refine lv_idiv F.1 F.2.1 dX1_rollAlong_43 (by decide) ?_
    refine w_callv F hP hS (c_X1_rightItselfBy l D Y ad N hI _ h hh (f1 5) (f1 6) (slow (f1 7) (f1 2)) (f1 8) ((f1 9) - ((f1 9) / 4)) (f1 10) (f1 11) (f1 12) (f1 13) g (va_up_self _ _ _) ((slow (f1 7) (f1 2)) / 20) hO.2.2.2.2.1 hO.2.2.2.2.2 (okL_r hO).1 (okL_r hO).2) (cwVm 1 F.2.2.2.2.1 (fun _ h => h) mw_329 mw_326 mw_327 mw_328 mw_30 rfl rfl ydX1_rightItselfBy ⟨by decide, by decide⟩) hh (va_up_self _ _ _) rfl rfl hl.1 rfl (Nat.le_of_ble_eq_true rfl) dX1_rollAlong_44 ⟨Nat.zero_le _, Nat.zero_le _⟩ (fun C2 H locs hq hP hS => ?_)
    rw [uu] at hq; subst hq
    refine lv_iinc (v := (nI k) + 1) (lv' := [(3, .int ((nI k) + 1)), (0, .ref (ad h)), (1, .int (x)), (2, .int (f1 2))]) F.1 F.2.1 dX1_rollAlong_47 hl (k := 0) rfl rfl (by decide) rfl (fun ls hl => ?_)
    refine lv_goto (tgt := 2) F.1 F.2.1 dX1_rollAlong_50 (by decide) ?_
    exact ih _ (by have := lc_in c1 hk; omega) _ _ _ _ ⟨k + 1, T_land1 f1, rfl, lc_in c1 hk, (by rw [nI_succ]; exact lv_sub hl [0, 1, 2, 3] rfl), rfl, T_lands_s _ k f1 f hT (lc_in c1 hk), okL_land hO⟩ hP hS

