/-! HoopStairs$Hoop: the plain methods -/
set_option maxRecDepth 20000 in
/-- the wobble, 99 at most -/
theorem c_X1_shakeBy (l : Launch) (D : va_G) (Y : Nat → ClassId) (ad : Nat → Nat) (N : Nat) (hI : wI ad N) (C : Nat → va_E) (h : Nat) (hh : h < N) (a5 a6 a7 a8 a9 a10 a11 a12 a13 g : Int32) (hC : C h = hpV a5 a6 a7 a8 a9 a10 a11 a12 a13 g) (x : Int32) : Met l yX1_shakeBy (wm yX1_shakeBy cX1_shakeBy 2 none) { frames := 1, cells := 0, slots := 0, locals := 17 } (wPc D Y ad N [.ref (ad h), .int (x)] C) (wQv D ad N (fun C' => C' = va_up C h (hpV a5 a6 a7 a8 (mn99 (a9 + x)) a10 a11 a12 a13 g))) 0 0 (wA ad N) := by
  refine wMet RX1 rfl (by decide +kernel) (Nat.le_of_ble_eq_true rfl) (lv := [(0, .ref (ad h)), (1, .int (x))]) rfl ?_
  intro p e s m below meth c ls F hr hlocks hP hl
  have hS : va_S (wA ad N) s.heap s.heap [] := va_S.rf
  refine lv_aload_n F.1 F.2.1 dX1_shakeBy_0 rfl (lv_at hl 0 rfl) ?_
  refine lv_bipush (v := 99) F.1 F.2.1 dX1_shakeBy_1 (by decide) ?_
  refine lv_aload_n F.1 F.2.1 dX1_shakeBy_3 rfl (lv_at hl 0 rfl) ?_
  refine gf_X1_25 F hP hh hC (v := .int (a9)) rfl dX1_shakeBy_4 ?_
  refine lv_iload_n F.1 F.2.1 dX1_shakeBy_7 rfl (lv_at hl 1 rfl) ?_
  refine lv_iadd F.1 F.2.1 dX1_shakeBy_8 ?_
  refine w_min F hl.1 mw_314 (by decide) (Nat.le_of_ble_eq_true rfl) ⟨Nat.zero_le _, Nat.zero_le _⟩ dX1_shakeBy_9 ?_
  refine pf_X1_25 F hI hP hS hh hC (Nat.le_of_ble_eq_true rfl) (C1 := va_up C h (hpV a5 a6 a7 a8 (if a9 + x < 99 then a9 + x else 99) a10 a11 a12 a13 g)) (fun _ => rfl) dX1_shakeBy_12 (fun H locs hP hS => ?_)
  exact w_vret F hr hlocks hP hS dX1_shakeBy_15 rfl
set_option maxRecDepth 20000 in
/-- the speed, 99 at most -/
theorem c_X1_speedUpBy (l : Launch) (D : va_G) (Y : Nat → ClassId) (ad : Nat → Nat) (N : Nat) (hI : wI ad N) (C : Nat → va_E) (h : Nat) (hh : h < N) (a5 a6 a7 a8 a9 a10 a11 a12 a13 g : Int32) (hC : C h = hpV a5 a6 a7 a8 a9 a10 a11 a12 a13 g) (x : Int32) : Met l yX1_speedUpBy (wm yX1_speedUpBy cX1_speedUpBy 2 none) { frames := 1, cells := 0, slots := 0, locals := 17 } (wPc D Y ad N [.ref (ad h), .int (x)] C) (wQv D ad N (fun C' => C' = va_up C h (hpV a5 a6 (mn99 (a7 + x)) a8 a9 a10 a11 a12 a13 g))) 0 0 (wA ad N) := by
  refine wMet RX1 rfl (by decide +kernel) (Nat.le_of_ble_eq_true rfl) (lv := [(0, .ref (ad h)), (1, .int (x))]) rfl ?_
  intro p e s m below meth c ls F hr hlocks hP hl
  have hS : va_S (wA ad N) s.heap s.heap [] := va_S.rf
  refine lv_aload_n F.1 F.2.1 dX1_speedUpBy_0 rfl (lv_at hl 0 rfl) ?_
  refine lv_bipush (v := 99) F.1 F.2.1 dX1_speedUpBy_1 (by decide) ?_
  refine lv_aload_n F.1 F.2.1 dX1_speedUpBy_3 rfl (lv_at hl 0 rfl) ?_
  refine gf_X1_19 F hP hh hC (v := .int (a7)) rfl dX1_speedUpBy_4 ?_
  refine lv_iload_n F.1 F.2.1 dX1_speedUpBy_7 rfl (lv_at hl 1 rfl) ?_
  refine lv_iadd F.1 F.2.1 dX1_speedUpBy_8 ?_
  refine w_min F hl.1 mw_314 (by decide) (Nat.le_of_ble_eq_true rfl) ⟨Nat.zero_le _, Nat.zero_le _⟩ dX1_speedUpBy_9 ?_
  refine pf_X1_19 F hI hP hS hh hC (Nat.le_of_ble_eq_true rfl) (C1 := va_up C h (hpV a5 a6 (if a7 + x < 99 then a7 + x else 99) a8 a9 a10 a11 a12 a13 g)) (fun _ => rfl) dX1_speedUpBy_12 (fun H locs hP hS => ?_)
  exact w_vret F hr hlocks hP hS dX1_speedUpBy_15 rfl
set_option maxRecDepth 20000 in
/-- a tap -/
theorem c_X1_takeTap (l : Launch) (D : va_G) (Y : Nat → ClassId) (ad : Nat → Nat) (N : Nat) (hI : wI ad N) (C : Nat → va_E) (h : Nat) (hh : h < N) (a5 a6 a7 a8 a9 a10 a11 a12 a13 g : Int32) (hC : C h = hpV a5 a6 a7 a8 a9 a10 a11 a12 a13 g) (x d : Int32) : Met l yX1_takeTap (wm yX1_takeTap cX1_takeTap 3 none) { frames := 2, cells := 0, slots := 0, locals := 38 } (wPc D Y ad N [.ref (ad h), .int (x), .int (d)] C) (wQv D ad N (fun C' => C' = va_up C h (hpV a5 a6 a7 (a8 + (if x = 0 then d else -d)) (mn99 (a9 + 2)) a10 a11 (a12 + 1) a13 g))) 0 0 (wA ad N) := by
  refine wMet RX1 rfl (by decide +kernel) (Nat.le_of_ble_eq_true rfl) (lv := [(0, .ref (ad h)), (1, .int (x)), (2, .int (d))]) rfl ?_
  intro p e s m below meth c ls F hr hlocks hP hl
  have hS : va_S (wA ad N) s.heap s.heap [] := va_S.rf
  refine lv_aload_n F.1 F.2.1 dX1_takeTap_0 rfl (lv_at hl 0 rfl) ?_
  refine lv_dup F.1 F.2.1 dX1_takeTap_1 rfl ?_
  refine gf_X1_22 F hP hh hC (v := .int (a8)) rfl dX1_takeTap_2 ?_
  refine lv_iload_n F.1 F.2.1 dX1_takeTap_5 rfl (lv_at hl 1 rfl) ?_
  refine lv_if_ne (tgt := 13) F.1 F.2.1 dX1_takeTap_6 (by decide) (fun c1 => ?_) (fun c1 => ?_)
  · refine lv_iload_n F.1 F.2.1 dX1_takeTap_13 rfl (lv_at hl 2 rfl) ?_
    refine lv_ineg F.1 F.2.1 dX1_takeTap_14 ?_
    refine lv_iadd F.1 F.2.1 dX1_takeTap_15 ?_
    refine pf_X1_22 F hI hP hS hh hC (Nat.le_of_ble_eq_true rfl) (C1 := va_up C h (hpV a5 a6 a7 (a8 + (-d)) a9 a10 a11 a12 a13 g)) (fun _ => rfl) dX1_takeTap_16 (fun H locs hP hS => ?_)
    refine lv_aload_n F.1 F.2.1 dX1_takeTap_19 rfl (lv_at hl 0 rfl) ?_
    refine lv_iconst (v := 2) F.1 F.2.1 dX1_takeTap_20 (by decide) ?_
    refine w_callv F hP hS (c_X1_shakeBy l D Y ad N hI _ h hh a5 a6 a7 (a8 + (-d)) a9 a10 a11 a12 a13 g (va_up_self _ _ _) 2) (cwVm 1 F.2.2.2.2.1 (fun _ h => h) mw_318 mw_315 mw_316 mw_317 mw_30 rfl rfl ydX1_shakeBy ⟨by decide, by decide⟩) hh (va_up_self _ _ _) rfl rfl hl.1 rfl (Nat.le_of_ble_eq_true rfl) dX1_takeTap_21 ⟨Nat.zero_le _, Nat.zero_le _⟩ (fun C2 H locs hq hP hS => ?_)
    rw [uu] at hq; subst hq
    refine lv_aload_n F.1 F.2.1 dX1_takeTap_24 rfl (lv_at hl 0 rfl) ?_
    refine lv_dup F.1 F.2.1 dX1_takeTap_25 rfl ?_
    refine gf_X1_34 F hP hh (va_up_self _ _ _) (v := .int (a12)) rfl dX1_takeTap_26 ?_
    refine lv_iconst (v := 1) F.1 F.2.1 dX1_takeTap_29 (by decide) ?_
    refine lv_iadd F.1 F.2.1 dX1_takeTap_30 ?_
    refine pf_X1_34 F hI hP hS hh (va_up_self _ _ _) (Nat.le_of_ble_eq_true rfl) (C1 := va_up C h (hpV a5 a6 a7 (a8 + (-d)) (mn99 (a9 + 2)) a10 a11 (a12 + 1) a13 g)) up_self dX1_takeTap_31 (fun H locs hP hS => ?_)
    exact w_vret F hr hlocks hP hS dX1_takeTap_34 (by simp only [if_neg c1])
  · refine lv_iload_n F.1 F.2.1 dX1_takeTap_9 rfl (lv_at hl 2 rfl) ?_
    refine lv_goto (tgt := 15) F.1 F.2.1 dX1_takeTap_10 (by decide) ?_
    refine lv_iadd F.1 F.2.1 dX1_takeTap_15 ?_
    refine pf_X1_22 F hI hP hS hh hC (Nat.le_of_ble_eq_true rfl) (C1 := va_up C h (hpV a5 a6 a7 (a8 + d) a9 a10 a11 a12 a13 g)) (fun _ => rfl) dX1_takeTap_16 (fun H locs hP hS => ?_)
    refine lv_aload_n F.1 F.2.1 dX1_takeTap_19 rfl (lv_at hl 0 rfl) ?_
    refine lv_iconst (v := 2) F.1 F.2.1 dX1_takeTap_20 (by decide) ?_
    refine w_callv F hP hS (c_X1_shakeBy l D Y ad N hI _ h hh a5 a6 a7 (a8 + d) a9 a10 a11 a12 a13 g (va_up_self _ _ _) 2) (cwVm 1 F.2.2.2.2.1 (fun _ h => h) mw_318 mw_315 mw_316 mw_317 mw_30 rfl rfl ydX1_shakeBy ⟨by decide, by decide⟩) hh (va_up_self _ _ _) rfl rfl hl.1 rfl (Nat.le_of_ble_eq_true rfl) dX1_takeTap_21 ⟨Nat.zero_le _, Nat.zero_le _⟩ (fun C2 H locs hq hP hS => ?_)
    rw [uu] at hq; subst hq
    refine lv_aload_n F.1 F.2.1 dX1_takeTap_24 rfl (lv_at hl 0 rfl) ?_
    refine lv_dup F.1 F.2.1 dX1_takeTap_25 rfl ?_
    refine gf_X1_34 F hP hh (va_up_self _ _ _) (v := .int (a12)) rfl dX1_takeTap_26 ?_
    refine lv_iconst (v := 1) F.1 F.2.1 dX1_takeTap_29 (by decide) ?_
    refine lv_iadd F.1 F.2.1 dX1_takeTap_30 ?_
    refine pf_X1_34 F hI hP hS hh (va_up_self _ _ _) (Nat.le_of_ble_eq_true rfl) (C1 := va_up C h (hpV a5 a6 a7 (a8 + d) (mn99 (a9 + 2)) a10 a11 (a12 + 1) a13 g)) up_self dX1_takeTap_31 (fun H locs hP hS => ?_)
    exact w_vret F hr hlocks hP hS dX1_takeTap_34 (by simp only [if_pos c1])
set_option maxRecDepth 20000 in
/-- a push -/
theorem c_X1_takePush (l : Launch) (D : va_G) (Y : Nat → ClassId) (ad : Nat → Nat) (N : Nat) (hI : wI ad N) (C : Nat → va_E) (h : Nat) (hh : h < N) (a5 a6 a7 a8 a9 a10 a11 a12 a13 g : Int32) (hC : C h = hpV a5 a6 a7 a8 a9 a10 a11 a12 a13 g) : Met l yX1_takePush (wm yX1_takePush cX1_takePush 1 none) { frames := 2, cells := 0, slots := 0, locals := 38 } (wPc D Y ad N [.ref (ad h)] C) (wQv D ad N (fun C' => C' = va_up C h (hpV a5 a6 (mn99 (a7 + 5)) a8 a9 a10 a11 a12 (a13 + 1) g))) 0 0 (wA ad N) := by
  refine wMet RX1 rfl (by decide +kernel) (Nat.le_of_ble_eq_true rfl) (lv := [(0, .ref (ad h))]) rfl ?_
  intro p e s m below meth c ls F hr hlocks hP hl
  have hS : va_S (wA ad N) s.heap s.heap [] := va_S.rf
  refine lv_aload_n F.1 F.2.1 dX1_takePush_0 rfl (lv_at hl 0 rfl) ?_
  refine lv_iconst (v := 5) F.1 F.2.1 dX1_takePush_1 (by decide) ?_
  refine w_callv F hP hS (c_X1_speedUpBy l D Y ad N hI _ h hh a5 a6 a7 a8 a9 a10 a11 a12 a13 g hC 5) (cwVm 1 F.2.2.2.2.1 (fun _ h => h) mw_313 mw_310 mw_311 mw_312 mw_30 rfl rfl ydX1_speedUpBy ⟨by decide, by decide⟩) hh hC rfl rfl hl.1 rfl (Nat.le_of_ble_eq_true rfl) dX1_takePush_2 ⟨Nat.zero_le _, Nat.zero_le _⟩ (fun C2 H locs hq hP hS => ?_)
  subst hq
  refine lv_aload_n F.1 F.2.1 dX1_takePush_5 rfl (lv_at hl 0 rfl) ?_
  refine lv_dup F.1 F.2.1 dX1_takePush_6 rfl ?_
  refine gf_X1_37 F hP hh (va_up_self _ _ _) (v := .int (a13)) rfl dX1_takePush_7 ?_
  refine lv_iconst (v := 1) F.1 F.2.1 dX1_takePush_10 (by decide) ?_
  refine lv_iadd F.1 F.2.1 dX1_takePush_11 ?_
  refine pf_X1_37 F hI hP hS hh (va_up_self _ _ _) (Nat.le_of_ble_eq_true rfl) (C1 := va_up C h (hpV a5 a6 (mn99 (a7 + 5)) a8 a9 a10 a11 a12 (a13 + 1) g)) up_self dX1_takePush_12 (fun H locs hP hS => ?_)
  exact w_vret F hr hlocks hP hS dX1_takePush_15 rfl
set_option maxRecDepth 20000 in
/-- a new run -/
theorem c_X1_begin (l : Launch) (D : va_G) (Y : Nat → ClassId) (ad : Nat → Nat) (N : Nat) (hI : wI ad N) (C : Nat → va_E) (h : Nat) (hh : h < N) (a5 a6 a7 a8 a9 a10 a11 a12 a13 g : Int32) (hC : C h = hpV a5 a6 a7 a8 a9 a10 a11 a12 a13 g) (x : Int32) : Met l yX1_begin (wm yX1_begin cX1_begin 2 none) { frames := 0, cells := 0, slots := 0, locals := 0 } (wPc D Y ad N [.ref (ad h), .int (x)] C) (wQv D ad N (fun C' => C' = va_up C h (hpV 1 x 10 0 0 0 0 0 0 0))) 0 0 (wA ad N) := by
  refine wMet RX1 rfl (by decide +kernel) (Nat.le_of_ble_eq_true rfl) (lv := [(0, .ref (ad h)), (1, .int (x))]) rfl ?_
  intro p e s m below meth c ls F hr hlocks hP hl
  have hS : va_S (wA ad N) s.heap s.heap [] := va_S.rf
  refine lv_aload_n F.1 F.2.1 dX1_begin_0 rfl (lv_at hl 0 rfl) ?_
  refine lv_iconst (v := 1) F.1 F.2.1 dX1_begin_1 (by decide) ?_
  refine pf_X1_9 F hI hP hS hh hC (hz := Or.inr rfl) (Nat.le_of_ble_eq_true rfl) (C1 := va_up C h (hpV 1 a6 a7 a8 a9 a10 a11 a12 a13 g)) (fun _ => rfl) dX1_begin_2 (fun H locs hP hS => ?_)
  refine lv_aload_n F.1 F.2.1 dX1_begin_5 rfl (lv_at hl 0 rfl) ?_
  refine lv_iload_n F.1 F.2.1 dX1_begin_6 rfl (lv_at hl 1 rfl) ?_
  refine pf_X1_15 F hI hP hS hh (va_up_self _ _ _) (Nat.le_of_ble_eq_true rfl) (C1 := va_up C h (hpV 1 x a7 a8 a9 a10 a11 a12 a13 g)) up_self dX1_begin_7 (fun H locs hP hS => ?_)
  refine lv_aload_n F.1 F.2.1 dX1_begin_10 rfl (lv_at hl 0 rfl) ?_
  refine lv_bipush (v := 10) F.1 F.2.1 dX1_begin_11 (by decide) ?_
  refine pf_X1_19 F hI hP hS hh (va_up_self _ _ _) (Nat.le_of_ble_eq_true rfl) (C1 := va_up C h (hpV 1 x 10 a8 a9 a10 a11 a12 a13 g)) up_self dX1_begin_13 (fun H locs hP hS => ?_)
  refine lv_aload_n F.1 F.2.1 dX1_begin_16 rfl (lv_at hl 0 rfl) ?_
  refine lv_iconst (v := 0) F.1 F.2.1 dX1_begin_17 (by decide) ?_
  refine pf_X1_22 F hI hP hS hh (va_up_self _ _ _) (Nat.le_of_ble_eq_true rfl) (C1 := va_up C h (hpV 1 x 10 0 a9 a10 a11 a12 a13 g)) up_self dX1_begin_18 (fun H locs hP hS => ?_)
  refine lv_aload_n F.1 F.2.1 dX1_begin_21 rfl (lv_at hl 0 rfl) ?_
  refine lv_iconst (v := 0) F.1 F.2.1 dX1_begin_22 (by decide) ?_
  refine pf_X1_25 F hI hP hS hh (va_up_self _ _ _) (Nat.le_of_ble_eq_true rfl) (C1 := va_up C h (hpV 1 x 10 0 0 a10 a11 a12 a13 g)) up_self dX1_begin_23 (fun H locs hP hS => ?_)
  refine lv_aload_n F.1 F.2.1 dX1_begin_26 rfl (lv_at hl 0 rfl) ?_
  refine lv_iconst (v := 0) F.1 F.2.1 dX1_begin_27 (by decide) ?_
  refine pf_X1_28 F hI hP hS hh (va_up_self _ _ _) (Nat.le_of_ble_eq_true rfl) (C1 := va_up C h (hpV 1 x 10 0 0 0 a11 a12 a13 g)) up_self dX1_begin_28 (fun H locs hP hS => ?_)
  refine lv_aload_n F.1 F.2.1 dX1_begin_31 rfl (lv_at hl 0 rfl) ?_
  refine lv_iconst (v := 0) F.1 F.2.1 dX1_begin_32 (by decide) ?_
  refine pf_X1_31 F hI hP hS hh (va_up_self _ _ _) (Nat.le_of_ble_eq_true rfl) (C1 := va_up C h (hpV 1 x 10 0 0 0 0 a12 a13 g)) up_self dX1_begin_33 (fun H locs hP hS => ?_)
  refine lv_aload_n F.1 F.2.1 dX1_begin_36 rfl (lv_at hl 0 rfl) ?_
  refine lv_iconst (v := 0) F.1 F.2.1 dX1_begin_37 (by decide) ?_
  refine pf_X1_34 F hI hP hS hh (va_up_self _ _ _) (Nat.le_of_ble_eq_true rfl) (C1 := va_up C h (hpV 1 x 10 0 0 0 0 0 a13 g)) up_self dX1_begin_38 (fun H locs hP hS => ?_)
  refine lv_aload_n F.1 F.2.1 dX1_begin_41 rfl (lv_at hl 0 rfl) ?_
  refine lv_iconst (v := 0) F.1 F.2.1 dX1_begin_42 (by decide) ?_
  refine pf_X1_37 F hI hP hS hh (va_up_self _ _ _) (Nat.le_of_ble_eq_true rfl) (C1 := va_up C h (hpV 1 x 10 0 0 0 0 0 0 g)) up_self dX1_begin_43 (fun H locs hP hS => ?_)
  refine lv_aload_n F.1 F.2.1 dX1_begin_46 rfl (lv_at hl 0 rfl) ?_
  refine lv_iconst (v := 0) F.1 F.2.1 dX1_begin_47 (by decide) ?_
  refine pf_X1_40 F hI hP hS hh (va_up_self _ _ _) (Nat.le_of_ble_eq_true rfl) (C1 := va_up C h (hpV 1 x 10 0 0 0 0 0 0 0)) up_self dX1_begin_48 (fun H locs hP hS => ?_)
  exact w_vret F hr hlocks hP hS dX1_begin_51 rfl
set_option maxRecDepth 20000 in
/-- the hoop is gone -/
theorem c_X1_vanish (l : Launch) (D : va_G) (Y : Nat → ClassId) (ad : Nat → Nat) (N : Nat) (hI : wI ad N) (C : Nat → va_E) (h : Nat) (hh : h < N) (a5 a6 a7 a8 a9 a10 a11 a12 a13 g : Int32) (hC : C h = hpV a5 a6 a7 a8 a9 a10 a11 a12 a13 g) : Met l yX1_vanish (wm yX1_vanish cX1_vanish 1 none) { frames := 0, cells := 0, slots := 0, locals := 0 } (wPc D Y ad N [.ref (ad h)] C) (wQv D ad N (fun C' => C' = va_up C h (hpV 0 a6 a7 a8 a9 a10 a11 a12 a13 g))) 0 0 (wA ad N) := by
  refine wMet RX1 rfl (by decide +kernel) (Nat.le_of_ble_eq_true rfl) (lv := [(0, .ref (ad h))]) rfl ?_
  intro p e s m below meth c ls F hr hlocks hP hl
  have hS : va_S (wA ad N) s.heap s.heap [] := va_S.rf
  refine lv_aload_n F.1 F.2.1 dX1_vanish_0 rfl (lv_at hl 0 rfl) ?_
  refine lv_iconst (v := 0) F.1 F.2.1 dX1_vanish_1 (by decide) ?_
  refine pf_X1_9 F hI hP hS hh hC (hz := Or.inl rfl) (Nat.le_of_ble_eq_true rfl) (C1 := va_up C h (hpV 0 a6 a7 a8 a9 a10 a11 a12 a13 g)) (fun _ => rfl) dX1_vanish_2 (fun H locs hP hS => ?_)
  exact w_vret F hr hlocks hP hS dX1_vanish_5 rfl
set_option maxRecDepth 20000 in
/-- is it rolling -/
theorem c_X1_rolls (l : Launch) (D : va_G) (Y : Nat → ClassId) (ad : Nat → Nat) (N : Nat) (hI : wI ad N) (C : Nat → va_E) (h : Nat) (hh : h < N) (a5 a6 a7 a8 a9 a10 a11 a12 a13 g : Int32) (hC : C h = hpV a5 a6 a7 a8 a9 a10 a11 a12 a13 g) (hz : a5 = 0 ∨ a5 = 1) : Met l yX1_rolls (wm yX1_rolls cX1_rolls 1 (some .boolean)) { frames := 0, cells := 0, slots := 0, locals := 0 } (wPc D Y ad N [.ref (ad h)] C) (wQi D ad N (fun r C' => C' = C ∧ r = if a5 = 1 ∧ a11 = 0 then 1 else 0)) 0 0 (wA ad N) := by
  refine wMet RX1 rfl (by decide +kernel) (Nat.le_of_ble_eq_true rfl) (lv := [(0, .ref (ad h))]) rfl ?_
  intro p e s m below meth c ls F hr hlocks hP hl
  have hS : va_S (wA ad N) s.heap s.heap [] := va_S.rf
  refine lv_aload_n F.1 F.2.1 dX1_rolls_0 rfl (lv_at hl 0 rfl) ?_
  refine gf_X1_9 F hP hh hC (v := .int (a5)) rfl dX1_rolls_1 ?_
  refine lv_if_eq (tgt := 18) F.1 F.2.1 dX1_rolls_4 (by decide) (fun c1 => ?_) (fun c1 => ?_)
  · refine lv_iconst (v := 0) F.1 F.2.1 dX1_rolls_18 (by decide) ?_
    exact w_zret F hr hlocks hP hS (Or.inl rfl) dX1_rolls_19 ⟨rfl, by rw [if_neg (fun q => by rw [c1] at q; exact absurd q.1 (by decide))]⟩
  · refine lv_aload_n F.1 F.2.1 dX1_rolls_7 rfl (lv_at hl 0 rfl) ?_
    refine gf_X1_31 F hP hh hC (v := .int (a11)) rfl dX1_rolls_8 ?_
    refine lv_if_ne (tgt := 18) F.1 F.2.1 dX1_rolls_11 (by decide) (fun c2 => ?_) (fun c2 => ?_)
    · refine lv_iconst (v := 0) F.1 F.2.1 dX1_rolls_18 (by decide) ?_
      exact w_zret F hr hlocks hP hS (Or.inl rfl) dX1_rolls_19 ⟨rfl, by rw [if_neg (fun q => c2 q.2)]⟩
    · refine lv_iconst (v := 1) F.1 F.2.1 dX1_rolls_14 (by decide) ?_
      refine lv_goto (tgt := 19) F.1 F.2.1 dX1_rolls_15 (by decide) ?_
      exact w_zret F hr hlocks hP hS (Or.inr rfl) dX1_rolls_19 ⟨rfl, by rw [if_pos ⟨hz.resolve_left c1, c2⟩]⟩
set_option maxRecDepth 20000 in
/-- a drop -/
theorem c_X1_dropBy (l : Launch) (D : va_G) (Y : Nat → ClassId) (ad : Nat → Nat) (N : Nat) (hI : wI ad N) (C : Nat → va_E) (h : Nat) (hh : h < N) (a5 a6 a7 a8 a9 a10 a11 a12 a13 g : Int32) (hC : C h = hpV a5 a6 a7 a8 a9 a10 a11 a12 a13 g) (x d : Int32) : Met l yX1_dropBy (wm yX1_dropBy cX1_dropBy 3 none) { frames := 2, cells := 0, slots := 0, locals := 38 } (wPc D Y ad N [.ref (ad h), .int (x), .int (d)] C) (wQv D ad N (fun C' => C' = va_up C h (hpV a5 a6 (mn99 (a7 + x * 4)) (a8 + (if a10 - a10 / 2 * 2 = 0 then mn99 (a9 + d * x) / 4 else -(mn99 (a9 + d * x) / 4))) (mn99 (a9 + d * x)) a10 a11 a12 a13 g))) 0 0 (wA ad N) := by
  refine wMet RX1 rfl (by decide +kernel) (Nat.le_of_ble_eq_true rfl) (lv := [(0, .ref (ad h)), (1, .int (x)), (2, .int (d))]) rfl ?_
  intro p e s m below meth c ls F hr hlocks hP hl
  have hS : va_S (wA ad N) s.heap s.heap [] := va_S.rf
  refine lv_aload_n F.1 F.2.1 dX1_dropBy_0 rfl (lv_at hl 0 rfl) ?_
  refine lv_iload_n F.1 F.2.1 dX1_dropBy_1 rfl (lv_at hl 1 rfl) ?_
  refine lv_iconst (v := 4) F.1 F.2.1 dX1_dropBy_2 (by decide) ?_
  refine lv_imul F.1 F.2.1 dX1_dropBy_3 ?_
  refine w_callv F hP hS (c_X1_speedUpBy l D Y ad N hI _ h hh a5 a6 a7 a8 a9 a10 a11 a12 a13 g hC (x * 4)) (cwVm 1 F.2.2.2.2.1 (fun _ h => h) mw_313 mw_310 mw_311 mw_312 mw_30 rfl rfl ydX1_speedUpBy ⟨by decide, by decide⟩) hh hC rfl rfl hl.1 rfl (Nat.le_of_ble_eq_true rfl) dX1_dropBy_4 ⟨Nat.zero_le _, Nat.zero_le _⟩ (fun C2 H locs hq hP hS => ?_)
  subst hq
  refine lv_aload_n F.1 F.2.1 dX1_dropBy_7 rfl (lv_at hl 0 rfl) ?_
  refine lv_iload_n F.1 F.2.1 dX1_dropBy_8 rfl (lv_at hl 2 rfl) ?_
  refine lv_iload_n F.1 F.2.1 dX1_dropBy_9 rfl (lv_at hl 1 rfl) ?_
  refine lv_imul F.1 F.2.1 dX1_dropBy_10 ?_
  refine w_callv F hP hS (c_X1_shakeBy l D Y ad N hI _ h hh a5 a6 (mn99 (a7 + (x * 4))) a8 a9 a10 a11 a12 a13 g (va_up_self _ _ _) (d * x)) (cwVm 1 F.2.2.2.2.1 (fun _ h => h) mw_318 mw_315 mw_316 mw_317 mw_30 rfl rfl ydX1_shakeBy ⟨by decide, by decide⟩) hh (va_up_self _ _ _) rfl rfl hl.1 rfl (Nat.le_of_ble_eq_true rfl) dX1_dropBy_11 ⟨Nat.zero_le _, Nat.zero_le _⟩ (fun C2 H locs hq hP hS => ?_)
  rw [uu] at hq; subst hq
  refine lv_aload_n F.1 F.2.1 dX1_dropBy_14 rfl (lv_at hl 0 rfl) ?_
  refine lv_dup F.1 F.2.1 dX1_dropBy_15 rfl ?_
  refine gf_X1_22 F hP hh (va_up_self _ _ _) (v := .int (a8)) rfl dX1_dropBy_16 ?_
  refine lv_aload_n F.1 F.2.1 dX1_dropBy_19 rfl (lv_at hl 0 rfl) ?_
  refine gf_X1_28 F hP hh (va_up_self _ _ _) (v := .int (a10)) rfl dX1_dropBy_20 ?_
  refine lv_iconst (v := 2) F.1 F.2.1 dX1_dropBy_23 (by decide) ?_
  refine lv_irem F.1 F.2.1 dX1_dropBy_24 (by decide) ?_
  refine lv_if_ne (tgt := 37) F.1 F.2.1 dX1_dropBy_25 (by decide) (fun c1 => ?_) (fun c1 => ?_)
  · refine lv_aload_n F.1 F.2.1 dX1_dropBy_37 rfl (lv_at hl 0 rfl) ?_
    refine gf_X1_25 F hP hh (va_up_self _ _ _) (v := .int (mn99 (a9 + (d * x)))) rfl dX1_dropBy_38 ?_
    refine lv_iconst (v := 4) F.1 F.2.1 dX1_dropBy_41 (by decide) ?_
    refine lv_idiv F.1 F.2.1 dX1_dropBy_42 (by decide) ?_
    refine lv_ineg F.1 F.2.1 dX1_dropBy_43 ?_
    refine lv_iadd F.1 F.2.1 dX1_dropBy_44 ?_
    refine pf_X1_22 F hI hP hS hh (va_up_self _ _ _) (Nat.le_of_ble_eq_true rfl) (C1 := va_up C h (hpV a5 a6 (mn99 (a7 + (x * 4))) (a8 + (-((mn99 (a9 + (d * x))) / 4))) (mn99 (a9 + (d * x))) a10 a11 a12 a13 g)) up_self dX1_dropBy_45 (fun H locs hP hS => ?_)
    exact w_vret F hr hlocks hP hS dX1_dropBy_48 (by simp only [if_neg c1])
  · refine lv_aload_n F.1 F.2.1 dX1_dropBy_28 rfl (lv_at hl 0 rfl) ?_
    refine gf_X1_25 F hP hh (va_up_self _ _ _) (v := .int (mn99 (a9 + (d * x)))) rfl dX1_dropBy_29 ?_
    refine lv_iconst (v := 4) F.1 F.2.1 dX1_dropBy_32 (by decide) ?_
    refine lv_idiv F.1 F.2.1 dX1_dropBy_33 (by decide) ?_
    refine lv_goto (tgt := 44) F.1 F.2.1 dX1_dropBy_34 (by decide) ?_
    refine lv_iadd F.1 F.2.1 dX1_dropBy_44 ?_
    refine pf_X1_22 F hI hP hS hh (va_up_self _ _ _) (Nat.le_of_ble_eq_true rfl) (C1 := va_up C h (hpV a5 a6 (mn99 (a7 + (x * 4))) (a8 + ((mn99 (a9 + (d * x))) / 4)) (mn99 (a9 + (d * x))) a10 a11 a12 a13 g)) up_self dX1_dropBy_45 (fun H locs hP hS => ?_)
    exact w_vret F hr hlocks hP hS dX1_dropBy_48 (by simp only [if_pos c1])
set_option maxRecDepth 20000 in
/-- the lean, nearer to 0 -/
theorem c_X1_rightItselfBy (l : Launch) (D : va_G) (Y : Nat → ClassId) (ad : Nat → Nat) (N : Nat) (hI : wI ad N) (C : Nat → va_E) (h : Nat) (hh : h < N) (a5 a6 a7 a8 a9 a10 a11 a12 a13 g : Int32) (hC : C h = hpV a5 a6 a7 a8 a9 a10 a11 a12 a13 g) (x : Int32) (h1 : -1000000000 ≤ a8.toInt) (h2 : a8.toInt ≤ 1000000000) (h3 : 0 ≤ x.toInt) (h4 : x.toInt ≤ 99) : Met l yX1_rightItselfBy (wm yX1_rightItselfBy cX1_rightItselfBy 2 none) { frames := 1, cells := 0, slots := 0, locals := 17 } (wPc D Y ad N [.ref (ad h), .int (x)] C) (wQv D ad N (fun C' => C' = va_up C h (hpV a5 a6 a7 (nearer a8 x) a9 a10 a11 a12 a13 g))) 0 0 (wA ad N) := by
  refine wMet RX1 rfl (by decide +kernel) (Nat.le_of_ble_eq_true rfl) (lv := [(0, .ref (ad h)), (1, .int (x))]) rfl ?_
  intro p e s m below meth c ls F hr hlocks hP hl
  have hS : va_S (wA ad N) s.heap s.heap [] := va_S.rf
  refine lv_aload_n F.1 F.2.1 dX1_rightItselfBy_0 rfl (lv_at hl 0 rfl) ?_
  refine gf_X1_22 F hP hh hC (v := .int (a8)) rfl dX1_rightItselfBy_1 ?_
  refine lv_if_le (tgt := 24) F.1 F.2.1 dX1_rightItselfBy_4 (by decide) (fun c1 => ?_) (fun c1 => ?_)
  · refine lv_aload_n F.1 F.2.1 dX1_rightItselfBy_24 rfl (lv_at hl 0 rfl) ?_
    refine lv_iconst (v := 0) F.1 F.2.1 dX1_rightItselfBy_25 (by decide) ?_
    refine lv_aload_n F.1 F.2.1 dX1_rightItselfBy_26 rfl (lv_at hl 0 rfl) ?_
    refine gf_X1_22 F hP hh hC (v := .int (a8)) rfl dX1_rightItselfBy_27 ?_
    refine lv_iload_n F.1 F.2.1 dX1_rightItselfBy_30 rfl (lv_at hl 1 rfl) ?_
    refine lv_iadd F.1 F.2.1 dX1_rightItselfBy_31 ?_
    refine w_min F hl.1 mw_314 (by decide) (Nat.le_of_ble_eq_true rfl) ⟨Nat.zero_le _, Nat.zero_le _⟩ dX1_rightItselfBy_32 ?_
    refine pf_X1_22 F hI hP hS hh hC (Nat.le_of_ble_eq_true rfl) (C1 := va_up C h (hpV a5 a6 a7 (if a8 + x < 0 then a8 + x else 0) a9 a10 a11 a12 a13 g)) (fun _ => rfl) dX1_rightItselfBy_35 (fun H locs hP hS => ?_)
    exact w_vret F hr hlocks hP hS dX1_rightItselfBy_38 (by rw [← (nearer_eq h1 h2 h3 h4).2 (i_nlt c1)])
  · refine lv_aload_n F.1 F.2.1 dX1_rightItselfBy_7 rfl (lv_at hl 0 rfl) ?_
    refine lv_iconst (v := 0) F.1 F.2.1 dX1_rightItselfBy_8 (by decide) ?_
    refine lv_aload_n F.1 F.2.1 dX1_rightItselfBy_9 rfl (lv_at hl 0 rfl) ?_
    refine gf_X1_22 F hP hh hC (v := .int (a8)) rfl dX1_rightItselfBy_10 ?_
    refine lv_iload_n F.1 F.2.1 dX1_rightItselfBy_13 rfl (lv_at hl 1 rfl) ?_
    refine lv_isub F.1 F.2.1 dX1_rightItselfBy_14 ?_
    refine w_max F hl.1 mw_323 (by decide) (Nat.le_of_ble_eq_true rfl) ⟨Nat.zero_le _, Nat.zero_le _⟩ dX1_rightItselfBy_15 ?_
    refine pf_X1_22 F hI hP hS hh hC (Nat.le_of_ble_eq_true rfl) (C1 := va_up C h (hpV a5 a6 a7 (if 0 < a8 - x then a8 - x else 0) a9 a10 a11 a12 a13 g)) (fun _ => rfl) dX1_rightItselfBy_18 (fun H locs hP hS => ?_)
    refine lv_goto (tgt := 38) F.1 F.2.1 dX1_rightItselfBy_21 (by decide) ?_
    exact w_vret F hr hlocks hP hS dX1_rightItselfBy_38 (by rw [← (nearer_eq h1 h2 h3 h4).1 (i_lt c1)])

