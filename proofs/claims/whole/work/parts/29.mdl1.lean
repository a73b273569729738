/-! HoopStairsModel: what the row goes through -/
set_option maxRecDepth 20000 in
set_option maxHeartbeats 4000000 in
/-- a drop -/
theorem c_X8_drops (l : Launch) (D : va_G) (Y : Nat → ClassId) (ad : Nat → Nat) (N : Nat) (hI : wI ad N) (C : Nat → va_E) (o : Nat) (hh : o + 6 ≤ N) (kn n gr : Int32) (P : Nat) (hP0 : P = 0 ∨ P = 161) (r s0 : Nat → Int32) (h : Int32) : Met l yX8_drops (wm yX8_drops cX8_drops 4 none) { frames := 1, cells := 0, slots := 0, locals := 21 } (wPc D Y ad N [.ref (ad o), .int (nI P), .int (h)] (mW Y ad C o kn n gr P r s0)) (wQv D ad N (fun C' => C' = mW Y ad C o kn n gr P (T_drop h r) s0)) 0 0 (wA ad N) := by
  refine wMet RX8 rfl (by decide +kernel) (Nat.le_of_ble_eq_true rfl) (lv := [(0, .ref (ad o)), (1, .int (nI P)), (2, .int (h))]) rfl ?_
  intro p e s m below meth c ls F hr hlocks hP hl
  have hS : va_S (wA ad N) s.heap s.heap [] := va_S.rf
  refine lv_aload_n F.1 F.2.1 dX8_drops_0 rfl (lv_at hl 0 rfl) ?_
  refine gf_X8_7 F hP (by omega) mW_o (v := .ref (ad (o + 1))) rfl dX8_drops_1 ?_
  refine lv_iload_n F.1 F.2.1 dX8_drops_4 rfl (lv_at hl 1 rfl) ?_
  refine lv_bipush (v := 7) F.1 F.2.1 dX8_drops_5 (by decide) ?_
  refine lv_iadd F.1 F.2.1 dX8_drops_7 ?_
  refine lv_aload_n F.1 F.2.1 dX8_drops_8 rfl (lv_at hl 0 rfl) ?_
  refine gf_X8_7 F hP (by omega) mW_o (v := .ref (ad (o + 1))) rfl dX8_drops_9 ?_
  refine lv_iload_n F.1 F.2.1 dX8_drops_12 rfl (lv_at hl 1 rfl) ?_
  refine lv_bipush (v := 7) F.1 F.2.1 dX8_drops_13 (by decide) ?_
  refine lv_iadd F.1 F.2.1 dX8_drops_15 ?_
  refine w_iald F hP (by omega) mW_s (k := P + 7) (ix_add (X := P) (Y := 7) (Z := P + 7) rfl rfl (by omega)) (by omega) (Nat.le_of_ble_eq_true rfl) (v := r 7) (put_at (k := 7) (by omega) (by omega)) dX8_drops_16 ?_
  refine lv_iconst (v := 4) F.1 F.2.1 dX8_drops_17 (by decide) ?_
  refine lv_iload_n F.1 F.2.1 dX8_drops_18 rfl (lv_at hl 2 rfl) ?_
  refine lv_imul F.1 F.2.1 dX8_drops_19 ?_
  refine lv_iadd F.1 F.2.1 dX8_drops_20 ?_
  refine lv_bipush (v := 99) F.1 F.2.1 dX8_drops_21 (by decide) ?_
  refine w_calls F hP hS (c_X8_less l D Y ad N hI _ ((r 7) + (4 * h)) 99) (cwSm 2 F.2.2.2.2.1 (fun _ h => h) mw_377 mw_375 mw_376 mw_5 rfl rfl ydX8_less ⟨by decide, by decide⟩) rfl hl.1 rfl (Nat.le_of_ble_eq_true rfl) dX8_drops_23 ⟨Nat.zero_le _, Nat.zero_le _⟩ (fun rq1 Kq1 H locs hq1 hP hS => ?_)
  obtain ⟨hq1w, hq1r⟩ := hq1; rw [hq1w] at hP
  subst hq1r
  refine lv_topi (fun v2 ev2 => ?_)
  refine w_iast F hI hP hS (by omega) mW_s (k := P + 7) (ix_add (X := P) (Y := 7) (Z := P + 7) rfl rfl (by omega)) (by omega) (Nat.le_of_ble_eq_true rfl) (C1 := mW Y ad C o kn n gr P (upd r 7 v2) s0) (fun q => congrFun (mW_upds (k := 7) (by omega) (by omega)) q) dX8_drops_26 (fun H locs hP hS => ?_)
  refine lv_aload_n F.1 F.2.1 dX8_drops_27 rfl (lv_at hl 0 rfl) ?_
  refine gf_X8_7 F hP (by omega) mW_o (v := .ref (ad (o + 1))) rfl dX8_drops_28 ?_
  refine lv_iload_n F.1 F.2.1 dX8_drops_31 rfl (lv_at hl 1 rfl) ?_
  refine lv_bipush (v := 9) F.1 F.2.1 dX8_drops_32 (by decide) ?_
  refine lv_iadd F.1 F.2.1 dX8_drops_34 ?_
  refine lv_aload_n F.1 F.2.1 dX8_drops_35 rfl (lv_at hl 0 rfl) ?_
  refine gf_X8_7 F hP (by omega) mW_o (v := .ref (ad (o + 1))) rfl dX8_drops_36 ?_
  refine lv_iload_n F.1 F.2.1 dX8_drops_39 rfl (lv_at hl 1 rfl) ?_
  refine lv_bipush (v := 9) F.1 F.2.1 dX8_drops_40 (by decide) ?_
  refine lv_iadd F.1 F.2.1 dX8_drops_42 ?_
  refine w_iald F hP (by omega) mW_s (k := P + 9) (ix_add (X := P) (Y := 9) (Z := P + 9) rfl rfl (by omega)) (by omega) (Nat.le_of_ble_eq_true rfl) (v := r 9) (put_at (k := 9) (by omega) (by omega)) dX8_drops_43 ?_
  refine lv_aload_n F.1 F.2.1 dX8_drops_44 rfl (lv_at hl 0 rfl) ?_
  refine gf_X8_7 F hP (by omega) mW_o (v := .ref (ad (o + 1))) rfl dX8_drops_45 ?_
  refine lv_iload_n F.1 F.2.1 dX8_drops_48 rfl (lv_at hl 1 rfl) ?_
  refine lv_iconst (v := 1) F.1 F.2.1 dX8_drops_49 (by decide) ?_
  refine lv_iadd F.1 F.2.1 dX8_drops_50 ?_
  refine w_iald F hP (by omega) mW_s (k := P + 1) (ix_add (X := P) (Y := 1) (Z := P + 1) rfl rfl (by omega)) (by omega) (Nat.le_of_ble_eq_true rfl) (v := r 1) (put_at (k := 1) (by omega) (by omega)) dX8_drops_51 ?_
  refine lv_iload_n F.1 F.2.1 dX8_drops_52 rfl (lv_at hl 2 rfl) ?_
  refine lv_imul F.1 F.2.1 dX8_drops_53 ?_
  refine lv_iadd F.1 F.2.1 dX8_drops_54 ?_
  refine lv_bipush (v := 99) F.1 F.2.1 dX8_drops_55 (by decide) ?_
  refine w_calls F hP hS (c_X8_less l D Y ad N hI _ ((r 9) + ((r 1) * h)) 99) (cwSm 2 F.2.2.2.2.1 (fun _ h => h) mw_377 mw_375 mw_376 mw_5 rfl rfl ydX8_less ⟨by decide, by decide⟩) rfl hl.1 rfl (Nat.le_of_ble_eq_true rfl) dX8_drops_57 ⟨Nat.zero_le _, Nat.zero_le _⟩ (fun rq3 Kq3 H locs hq3 hP hS => ?_)
  obtain ⟨hq3w, hq3r⟩ := hq3; rw [hq3w] at hP
  subst hq3r
  refine lv_topi (fun v4 ev4 => ?_)
  refine w_iast F hI hP hS (by omega) mW_s (k := P + 9) (ix_add (X := P) (Y := 9) (Z := P + 9) rfl rfl (by omega)) (by omega) (Nat.le_of_ble_eq_true rfl) (C1 := mW Y ad C o kn n gr P (upd (upd r 7 v2) 9 v4) s0) (fun q => congrFun (mW_upds (k := 9) (by omega) (by omega)) q) dX8_drops_60 (fun H locs hP hS => ?_)
  refine lv_aload_n F.1 F.2.1 dX8_drops_61 rfl (lv_at hl 0 rfl) ?_
  refine gf_X8_7 F hP (by omega) mW_o (v := .ref (ad (o + 1))) rfl dX8_drops_62 ?_
  refine lv_iload_n F.1 F.2.1 dX8_drops_65 rfl (lv_at hl 1 rfl) ?_
  refine lv_bipush (v := 9) F.1 F.2.1 dX8_drops_66 (by decide) ?_
  refine lv_iadd F.1 F.2.1 dX8_drops_68 ?_
  refine w_iald F hP (by omega) mW_s (k := P + 9) (ix_add (X := P) (Y := 9) (Z := P + 9) rfl rfl (by omega)) (by omega) (Nat.le_of_ble_eq_true rfl) (v := v4) (put_at (k := 9) (by omega) (by omega)) dX8_drops_69 ?_
  refine lv_iconst (v := 4) F.1 F.2.1 dX8_drops_70 (by decide) ?_
  refine lv_idiv F.1 F.2.1 dX8_drops_71 (by decide) ?_
  refine lv_istore_n (lv' := [(3, .int (v4 / 4)), (0, .ref (ad o)), (1, .int (nI P)), (2, .int (h))]) F.1 F.2.1 dX8_drops_72 rfl hl (by decide) rfl (fun ls hl => ?_)
  refine lv_aload_n F.1 F.2.1 dX8_drops_73 rfl (lv_at hl 1 rfl) ?_
  refine gf_X8_7 F hP (by omega) mW_o (v := .ref (ad (o + 1))) rfl dX8_drops_74 ?_
  refine lv_iload_n F.1 F.2.1 dX8_drops_77 rfl (lv_at hl 2 rfl) ?_
  refine lv_bipush (v := 8) F.1 F.2.1 dX8_drops_78 (by decide) ?_
  refine lv_iadd F.1 F.2.1 dX8_drops_80 ?_
  refine lv_dup2_11 F.1 F.2.1 dX8_drops_81 rfl rfl ?_
  refine w_iald F hP (by omega) mW_s (k := P + 8) (ix_add (X := P) (Y := 8) (Z := P + 8) rfl rfl (by omega)) (by omega) (Nat.le_of_ble_eq_true rfl) (v := r 8) (put_at (k := 8) (by omega) (by omega)) dX8_drops_82 ?_
  refine lv_aload_n F.1 F.2.1 dX8_drops_83 rfl (lv_at hl 1 rfl) ?_
  refine gf_X8_7 F hP (by omega) mW_o (v := .ref (ad (o + 1))) rfl dX8_drops_84 ?_
  refine lv_iload_n F.1 F.2.1 dX8_drops_87 rfl (lv_at hl 2 rfl) ?_
  refine lv_bipush (v := 10) F.1 F.2.1 dX8_drops_88 (by decide) ?_
  refine lv_iadd F.1 F.2.1 dX8_drops_90 ?_
  refine w_iald F hP (by omega) mW_s (k := P + 10) (ix_add (X := P) (Y := 10) (Z := P + 10) rfl rfl (by omega)) (by omega) (Nat.le_of_ble_eq_true rfl) (v := r 10) (put_at (k := 10) (by omega) (by omega)) dX8_drops_91 ?_
  refine lv_iconst (v := 2) F.1 F.2.1 dX8_drops_92 (by decide) ?_
  refine lv_irem F.1 F.2.1 dX8_drops_93 (by decide) ?_
  refine lv_if_ne (tgt := 101) F.1 F.2.1 dX8_drops_94 (by decide) (fun c5 => ?_) (fun c5 => ?_)
  · refine lv_iload_n F.1 F.2.1 dX8_drops_101 rfl (lv_at hl 0 rfl) ?_
    refine lv_ineg F.1 F.2.1 dX8_drops_102 ?_
    refine lv_iadd F.1 F.2.1 dX8_drops_103 ?_
    refine lv_topi (fun v6 ev6 => ?_)
    refine w_iast F hI hP hS (by omega) mW_s (k := P + 8) (ix_add (X := P) (Y := 8) (Z := P + 8) rfl rfl (by omega)) (by omega) (Nat.le_of_ble_eq_true rfl) (C1 := mW Y ad C o kn n gr P (upd (upd (upd r 7 v2) 9 v4) 8 v6) s0) (fun q => congrFun (mW_upds (k := 8) (by omega) (by omega)) q) dX8_drops_104 (fun H locs hP hS => ?_)
    exact w_vret F hr hlocks hP hS dX8_drops_105 (by unfold T_drop; rw [← (show v2 = mn99 (r 7 + h * 4) from by rw [ev2, Int32.mul_comm h 4]; rfl), ← (show v4 = mn99 (r 9 + r 1 * h) from ev4), if_neg c5, ← ev6])
  · refine lv_iload_n F.1 F.2.1 dX8_drops_97 rfl (lv_at hl 0 rfl) ?_
    refine lv_goto (tgt := 103) F.1 F.2.1 dX8_drops_98 (by decide) ?_
    refine lv_iadd F.1 F.2.1 dX8_drops_103 ?_
    refine lv_topi (fun v7 ev7 => ?_)
    refine w_iast F hI hP hS (by omega) mW_s (k := P + 8) (ix_add (X := P) (Y := 8) (Z := P + 8) rfl rfl (by omega)) (by omega) (Nat.le_of_ble_eq_true rfl) (C1 := mW Y ad C o kn n gr P (upd (upd (upd r 7 v2) 9 v4) 8 v7) s0) (fun q => congrFun (mW_upds (k := 8) (by omega) (by omega)) q) dX8_drops_104 (fun H locs hP hS => ?_)
    exact w_vret F hr hlocks hP hS dX8_drops_105 (by unfold T_drop; rw [← (show v2 = mn99 (r 7 + h * 4) from by rw [ev2, Int32.mul_comm h 4]; rfl), ← (show v4 = mn99 (r 9 + r 1 * h) from ev4), if_pos c5, ← ev7])
set_option maxRecDepth 20000 in
set_option maxHeartbeats 4000000 in
/-- a landing -/
theorem c_X8_lands (l : Launch) (D : va_G) (Y : Nat → ClassId) (ad : Nat → Nat) (N : Nat) (hI : wI ad N) (C : Nat → va_E) (o : Nat) (hh : o + 6 ≤ N) (kn n gr : Int32) (P : Nat) (hP0 : P = 0 ∨ P = 161) (r s0 : Nat → Int32) (q : Nat) (hq : q ≤ 200) (x : Int32) (ex : x = nI q) : Met l yX8_lands (wm yX8_lands cX8_lands 6 none) { frames := 1, cells := 0, slots := 0, locals := 21 } (wPc D Y ad N [.ref (ad o), .int (nI P), .int (x)] (mW Y ad C o kn n gr P r s0)) (wQv D ad N (fun C' => C' = mW Y ad C o kn n gr P (T_lands q r) s0)) 0 0 (wA ad N) := by
  refine wMet RX8 rfl (by decide +kernel) (Nat.le_of_ble_eq_true rfl) (lv := [(0, .ref (ad o)), (1, .int (nI P)), (2, .int (x))]) rfl ?_
  intro p e s m below meth c ls F hr hlocks hP hl
  have hS : va_S (wA ad N) s.heap s.heap [] := va_S.rf
  refine lv_iconst (v := 0) F.1 F.2.1 dX8_lands_0 (by decide) ?_
  refine lv_istore_n (lv' := [(3, .int (0)), (0, .ref (ad o)), (1, .int (nI P)), (2, .int (x))]) F.1 F.2.1 dX8_lands_1 rfl hl (by decide) rfl (fun ls hl => ?_)
  refine w_loop (Inv := fun j ls C' => ∃ (k : Nat) (rk : Nat → Int32), j = q - k ∧ k ≤ q ∧ lv_has ls 6 [(3, .int (nI k)), (0, .ref (ad o)), (1, .int (nI P)), (2, .int x)] ∧ C' = mW Y ad C o kn n gr P rk s0 ∧ T_lands (q - k) rk = T_lands q r) ?_ q ⟨0, r, rfl, Nat.zero_le _, lv_sub hl [0, 1, 2, 3] rfl, rfl, rfl⟩ hP hS
  intro j ih H locs ls K0 hInv hP hS
  obtain ⟨k, rk, hj, hk, hl, rfl, hW⟩ := hInv
  refine lv_iload_n F.1 F.2.1 dX8_lands_2 rfl (lv_at hl 0 rfl) ?_
  refine lv_iload_n F.1 F.2.1 dX8_lands_3 rfl (lv_at hl 3 rfl) ?_
  refine lv_icmp_ge (tgt := 147) F.1 F.2.1 dX8_lands_4 (by decide) (fun c1 => ?_) (fun c1 => ?_)
  · exact w_vret F hr hlocks hP hS dX8_lands_147 (by have hkq : k = q := Nat.le_antisymm hk (Nat.le_of_not_lt (fun z => nI_ge z (by omega) (by rw [← ex]; exact c1))); subst hkq; rw [Nat.sub_self] at hW; have hW2 : rk = T_lands k r := hW; rw [hW2])
  · refine lv_aload_n F.1 F.2.1 dX8_lands_7 rfl (lv_at hl 1 rfl) ?_
    refine gf_X8_7 F hP (by omega) mW_o (v := .ref (ad (o + 1))) rfl dX8_lands_8 ?_
    refine lv_iload_n F.1 F.2.1 dX8_lands_11 rfl (lv_at hl 2 rfl) ?_
    refine lv_bipush (v := 7) F.1 F.2.1 dX8_lands_12 (by decide) ?_
    refine lv_iadd F.1 F.2.1 dX8_lands_14 ?_
    refine lv_aload_n F.1 F.2.1 dX8_lands_15 rfl (lv_at hl 1 rfl) ?_
    refine gf_X8_7 F hP (by omega) mW_o (v := .ref (ad (o + 1))) rfl dX8_lands_16 ?_
    refine lv_iload_n F.1 F.2.1 dX8_lands_19 rfl (lv_at hl 2 rfl) ?_
    refine lv_bipush (v := 7) F.1 F.2.1 dX8_lands_20 (by decide) ?_
    refine lv_iadd F.1 F.2.1 dX8_lands_22 ?_
    refine w_iald F hP (by omega) mW_s (k := P + 7) (ix_add (X := P) (Y := 7) (Z := P + 7) rfl rfl (by omega)) (by omega) (Nat.le_of_ble_eq_true rfl) (v := rk 7) (put_at (k := 7) (by omega) (by omega)) dX8_lands_23 ?_
    refine lv_aload_n F.1 F.2.1 dX8_lands_24 rfl (lv_at hl 1 rfl) ?_
    refine gf_X8_7 F hP (by omega) mW_o (v := .ref (ad (o + 1))) rfl dX8_lands_25 ?_
    refine lv_iload_n F.1 F.2.1 dX8_lands_28 rfl (lv_at hl 2 rfl) ?_
    refine lv_iconst (v := 2) F.1 F.2.1 dX8_lands_29 (by decide) ?_
    refine lv_iadd F.1 F.2.1 dX8_lands_30 ?_
    refine w_iald F hP (by omega) mW_s (k := P + 2) (ix_add (X := P) (Y := 2) (Z := P + 2) rfl rfl (by omega)) (by omega) (Nat.le_of_ble_eq_true rfl) (v := rk 2) (put_at (k := 2) (by omega) (by omega)) dX8_lands_31 ?_
    refine lv_icmp_ge (tgt := 39) F.1 F.2.1 dX8_lands_32 (by decide) (fun c2 => ?_) (fun c2 => ?_)
    · refine lv_aload_n F.1 F.2.1 dX8_lands_39 rfl (lv_at hl 1 rfl) ?_
      refine gf_X8_7 F hP (by omega) mW_o (v := .ref (ad (o + 1))) rfl dX8_lands_40 ?_
      refine lv_iload_n F.1 F.2.1 dX8_lands_43 rfl (lv_at hl 2 rfl) ?_
      refine lv_bipush (v := 7) F.1 F.2.1 dX8_lands_44 (by decide) ?_
      refine lv_iadd F.1 F.2.1 dX8_lands_46 ?_
      refine w_iald F hP (by omega) mW_s (k := P + 7) (ix_add (X := P) (Y := 7) (Z := P + 7) rfl rfl (by omega)) (by omega) (Nat.le_of_ble_eq_true rfl) (v := rk 7) (put_at (k := 7) (by omega) (by omega)) dX8_lands_47 ?_
      refine lv_aload_n F.1 F.2.1 dX8_lands_48 rfl (lv_at hl 1 rfl) ?_
      refine gf_X8_7 F hP (by omega) mW_o (v := .ref (ad (o + 1))) rfl dX8_lands_49 ?_
      refine lv_iload_n F.1 F.2.1 dX8_lands_52 rfl (lv_at hl 2 rfl) ?_
      refine lv_iconst (v := 2) F.1 F.2.1 dX8_lands_53 (by decide) ?_
      refine lv_iadd F.1 F.2.1 dX8_lands_54 ?_
      refine w_iald F hP (by omega) mW_s (k := P + 2) (ix_add (X := P) (Y := 2) (Z := P + 2) rfl rfl (by omega)) (by omega) (Nat.le_of_ble_eq_true rfl) (v := rk 2) (put_at (k := 2) (by omega) (by omega)) dX8_lands_55 ?_
      refine lv_isub F.1 F.2.1 dX8_lands_56 ?_
      refine lv_topi (fun v3 ev3 => ?_)
      refine w_iast F hI hP hS (by omega) mW_s (k := P + 7) (ix_add (X := P) (Y := 7) (Z := P + 7) rfl rfl (by omega)) (by omega) (Nat.le_of_ble_eq_true rfl) (C1 := mW Y ad C o kn n gr P (upd rk 7 v3) s0) (fun q => congrFun (mW_upds (k := 7) (by omega) (by omega)) q) dX8_lands_57 (fun H locs hP hS => ?_)
      refine lv_aload_n F.1 F.2.1 dX8_lands_58 rfl (lv_at hl 1 rfl) ?_
      refine gf_X8_7 F hP (by omega) mW_o (v := .ref (ad (o + 1))) rfl dX8_lands_59 ?_
      refine lv_iload_n F.1 F.2.1 dX8_lands_62 rfl (lv_at hl 2 rfl) ?_
      refine lv_bipush (v := 9) F.1 F.2.1 dX8_lands_63 (by decide) ?_
      refine lv_iadd F.1 F.2.1 dX8_lands_65 ?_
      refine lv_dup2_11 F.1 F.2.1 dX8_lands_66 rfl rfl ?_
      refine w_iald F hP (by omega) mW_s (k := P + 9) (ix_add (X := P) (Y := 9) (Z := P + 9) rfl rfl (by omega)) (by omega) (Nat.le_of_ble_eq_true rfl) (v := rk 9) (put_at (k := 9) (by omega) (by omega)) dX8_lands_67 ?_
      refine lv_aload_n F.1 F.2.1 dX8_lands_68 rfl (lv_at hl 1 rfl) ?_
      refine gf_X8_7 F hP (by omega) mW_o (v := .ref (ad (o + 1))) rfl dX8_lands_69 ?_
      refine lv_iload_n F.1 F.2.1 dX8_lands_72 rfl (lv_at hl 2 rfl) ?_
      refine lv_bipush (v := 9) F.1 F.2.1 dX8_lands_73 (by decide) ?_
      refine lv_iadd F.1 F.2.1 dX8_lands_75 ?_
      refine w_iald F hP (by omega) mW_s (k := P + 9) (ix_add (X := P) (Y := 9) (Z := P + 9) rfl rfl (by omega)) (by omega) (Nat.le_of_ble_eq_true rfl) (v := rk 9) (put_at (k := 9) (by omega) (by omega)) dX8_lands_76 ?_
      refine lv_iconst (v := 4) F.1 F.2.1 dX8_lands_77 (by decide) ?_
      refine lv_idiv F.1 F.2.1 dX8_lands_78 (by decide) ?_
      refine lv_isub F.1 F.2.1 dX8_lands_79 ?_
      refine lv_topi (fun v4 ev4 => ?_)
      refine w_iast F hI hP hS (by omega) mW_s (k := P + 9) (ix_add (X := P) (Y := 9) (Z := P + 9) rfl rfl (by omega)) (by omega) (Nat.le_of_ble_eq_true rfl) (C1 := mW Y ad C o kn n gr P (upd (upd rk 7 v3) 9 v4) s0) (fun q => congrFun (mW_upds (k := 9) (by omega) (by omega)) q) dX8_lands_80 (fun H locs hP hS => ?_)
      refine lv_aload_n F.1 F.2.1 dX8_lands_81 rfl (lv_at hl 1 rfl) ?_
      refine gf_X8_7 F hP (by omega) mW_o (v := .ref (ad (o + 1))) rfl dX8_lands_82 ?_
      refine lv_iload_n F.1 F.2.1 dX8_lands_85 rfl (lv_at hl 2 rfl) ?_
      refine lv_bipush (v := 8) F.1 F.2.1 dX8_lands_86 (by decide) ?_
      refine lv_iadd F.1 F.2.1 dX8_lands_88 ?_
      refine w_iald F hP (by omega) mW_s (k := P + 8) (ix_add (X := P) (Y := 8) (Z := P + 8) rfl rfl (by omega)) (by omega) (Nat.le_of_ble_eq_true rfl) (v := rk 8) (put_at (k := 8) (by omega) (by omega)) dX8_lands_89 ?_
      refine lv_istore (lv' := [(4, .int (rk 8)), (3, .int (nI k)), (0, .ref (ad o)), (1, .int (nI P)), (2, .int (x))]) F.1 F.2.1 dX8_lands_90 hl (by decide) rfl (fun ls hl => ?_)
      refine lv_aload_n F.1 F.2.1 dX8_lands_92 rfl (lv_at hl 2 rfl) ?_
      refine gf_X8_7 F hP (by omega) mW_o (v := .ref (ad (o + 1))) rfl dX8_lands_93 ?_
      refine lv_iload_n F.1 F.2.1 dX8_lands_96 rfl (lv_at hl 3 rfl) ?_
      refine lv_bipush (v := 7) F.1 F.2.1 dX8_lands_97 (by decide) ?_
      refine lv_iadd F.1 F.2.1 dX8_lands_99 ?_
      refine w_iald F hP (by omega) mW_s (k := P + 7) (ix_add (X := P) (Y := 7) (Z := P + 7) rfl rfl (by omega)) (by omega) (Nat.le_of_ble_eq_true rfl) (v := v3) (put_at (k := 7) (by omega) (by omega)) dX8_lands_100 ?_
      refine lv_bipush (v := 20) F.1 F.2.1 dX8_lands_101 (by decide) ?_
      refine lv_idiv F.1 F.2.1 dX8_lands_103 (by decide) ?_
      refine lv_iload F.1 F.2.1 dX8_lands_104 (lv_at hl 0 rfl) ?_
      refine w_calls F hP hS (c_X8_size l D Y ad N hI _ (rk 8)) (cwSm 1 F.2.2.2.2.1 (fun _ h => h) mw_384 mw_382 mw_383 mw_5 rfl rfl ydX8_size ⟨by decide, by decide⟩) rfl hl.1 rfl (Nat.le_of_ble_eq_true rfl) dX8_lands_106 ⟨Nat.zero_le _, Nat.zero_le _⟩ (fun rq5 Kq5 H locs hq5 hP hS => ?_)
      obtain ⟨hq5w, hq5r⟩ := hq5; rw [hq5w] at hP
      subst hq5r
      refine w_calls F hP hS (c_X8_less l D Y ad N hI _ (v3 / 20) (iabs (rk 8))) (cwSm 2 F.2.2.2.2.1 (fun _ h => h) mw_377 mw_375 mw_376 mw_5 rfl rfl ydX8_less ⟨by decide, by decide⟩) rfl hl.1 rfl (Nat.le_of_ble_eq_true rfl) dX8_lands_109 ⟨Nat.zero_le _, Nat.zero_le _⟩ (fun rq6 Kq6 H locs hq6 hP hS => ?_)
      obtain ⟨hq6w, hq6r⟩ := hq6; rw [hq6w] at hP
      subst hq6r
      refine lv_istore (lv' := [(5, .int (if (v3 / 20) < (iabs (rk 8)) then (v3 / 20) else (iabs (rk 8)))), (4, .int (rk 8)), (3, .int (nI k)), (0, .ref (ad o)), (1, .int (nI P)), (2, .int (x))]) F.1 F.2.1 dX8_lands_112 hl (by decide) rfl (fun ls hl => ?_)
      refine lv_aload_n F.1 F.2.1 dX8_lands_114 rfl (lv_at hl 3 rfl) ?_
      refine gf_X8_7 F hP (by omega) mW_o (v := .ref (ad (o + 1))) rfl dX8_lands_115 ?_
      refine lv_iload_n F.1 F.2.1 dX8_lands_118 rfl (lv_at hl 4 rfl) ?_
      refine lv_bipush (v := 8) F.1 F.2.1 dX8_lands_119 (by decide) ?_
      refine lv_iadd F.1 F.2.1 dX8_lands_121 ?_
      refine lv_iload F.1 F.2.1 dX8_lands_122 (lv_at hl 1 rfl) ?_
      refine lv_if_ge (tgt := 135) F.1 F.2.1 dX8_lands_124 (by decide) (fun c7 => ?_) (fun c7 => ?_)
      · refine lv_iload F.1 F.2.1 dX8_lands_135 (lv_at hl 1 rfl) ?_
        refine lv_iload F.1 F.2.1 dX8_lands_137 (lv_at hl 0 rfl) ?_
        refine lv_isub F.1 F.2.1 dX8_lands_139 ?_
        refine lv_topi (fun v8 ev8 => ?_)
        refine w_iast F hI hP hS (by omega) mW_s (k := P + 8) (ix_add (X := P) (Y := 8) (Z := P + 8) rfl rfl (by omega)) (by omega) (Nat.le_of_ble_eq_true rfl) (C1 := mW Y ad C o kn n gr P (upd (upd (upd rk 7 v3) 9 v4) 8 v8) s0) (fun q => congrFun (mW_upds (k := 8) (by omega) (by omega)) q) dX8_lands_140 (fun H locs hP hS => ?_)
        refine lv_iinc (v := (nI k) + 1) (lv' := [(3, .int ((nI k) + 1)), (5, .int (if (v3 / 20) < (iabs (rk 8)) then (v3 / 20) else (iabs (rk 8)))), (4, .int (rk 8)), (0, .ref (ad o)), (1, .int (nI P)), (2, .int (x))]) F.1 F.2.1 dX8_lands_141 hl (k := 2) rfl rfl (by decide) rfl (fun ls hl => ?_)
        refine lv_goto (tgt := 2) F.1 F.2.1 dX8_lands_144 (by decide) ?_
        have hkq : k < q := Nat.lt_of_not_le (fun z => c1 (by rw [ex]; exact nI_le z (by omega)))
        have es : slow (rk 7) (rk 2) = v3 := ((if_neg (i_nlt c2)).trans ev3.symm)
        have en : nearer (rk 8) (v3 / 20) = v8 := (if_neg (i_nlt c7)).trans ev8.symm
        have hT : T_land1 rk = upd (upd (upd rk 7 v3) 9 v4) 8 v8 := by unfold T_land1; rw [es, en, ← ev4]
        exact ih _ (by omega) _ _ _ _ ⟨k + 1, _, rfl, by omega, (by rw [nI_succ]; exact lv_sub hl [0, 3, 4, 5] rfl), rfl, (by rw [← hT]; rw [show q - k = q - (k + 1) + 1 by omega] at hW; exact hW)⟩ hP hS
      · refine lv_iload F.1 F.2.1 dX8_lands_127 (lv_at hl 1 rfl) ?_
        refine lv_iload F.1 F.2.1 dX8_lands_129 (lv_at hl 0 rfl) ?_
        refine lv_iadd F.1 F.2.1 dX8_lands_131 ?_
        refine lv_goto (tgt := 140) F.1 F.2.1 dX8_lands_132 (by decide) ?_
        refine lv_topi (fun v9 ev9 => ?_)
        refine w_iast F hI hP hS (by omega) mW_s (k := P + 8) (ix_add (X := P) (Y := 8) (Z := P + 8) rfl rfl (by omega)) (by omega) (Nat.le_of_ble_eq_true rfl) (C1 := mW Y ad C o kn n gr P (upd (upd (upd rk 7 v3) 9 v4) 8 v9) s0) (fun q => congrFun (mW_upds (k := 8) (by omega) (by omega)) q) dX8_lands_140 (fun H locs hP hS => ?_)
        refine lv_iinc (v := (nI k) + 1) (lv' := [(3, .int ((nI k) + 1)), (5, .int (if (v3 / 20) < (iabs (rk 8)) then (v3 / 20) else (iabs (rk 8)))), (4, .int (rk 8)), (0, .ref (ad o)), (1, .int (nI P)), (2, .int (x))]) F.1 F.2.1 dX8_lands_141 hl (k := 2) rfl rfl (by decide) rfl (fun ls hl => ?_)
        refine lv_goto (tgt := 2) F.1 F.2.1 dX8_lands_144 (by decide) ?_
        have hkq : k < q := Nat.lt_of_not_le (fun z => c1 (by rw [ex]; exact nI_le z (by omega)))
        have es : slow (rk 7) (rk 2) = v3 := ((if_neg (i_nlt c2)).trans ev3.symm)
        have en : nearer (rk 8) (v3 / 20) = v9 := (if_pos (i_lt c7)).trans ev9.symm
        have hT : T_land1 rk = upd (upd (upd rk 7 v3) 9 v4) 8 v9 := by unfold T_land1; rw [es, en, ← ev4]
        exact ih _ (by omega) _ _ _ _ ⟨k + 1, _, rfl, by omega, (by rw [nI_succ]; exact lv_sub hl [0, 3, 4, 5] rfl), rfl, (by rw [← hT]; rw [show q - k = q - (k + 1) + 1 by omega] at hW; exact hW)⟩ hP hS
    · refine lv_iconst (v := 0) F.1 F.2.1 dX8_lands_35 (by decide) ?_
      refine lv_goto (tgt := 57) F.1 F.2.1 dX8_lands_36 (by decide) ?_
      refine w_iast F hI hP hS (by omega) mW_s (k := P + 7) (ix_add (X := P) (Y := 7) (Z := P + 7) rfl rfl (by omega)) (by omega) (Nat.le_of_ble_eq_true rfl) (C1 := mW Y ad C o kn n gr P (upd rk 7 0) s0) (fun q => congrFun (mW_upds (k := 7) (by omega) (by omega)) q) dX8_lands_57 (fun H locs hP hS => ?_)
      refine lv_aload_n F.1 F.2.1 dX8_lands_58 rfl (lv_at hl 1 rfl) ?_
      refine gf_X8_7 F hP (by omega) mW_o (v := .ref (ad (o + 1))) rfl dX8_lands_59 ?_
      refine lv_iload_n F.1 F.2.1 dX8_lands_62 rfl (lv_at hl 2 rfl) ?_
      refine lv_bipush (v := 9) F.1 F.2.1 dX8_lands_63 (by decide) ?_
      refine lv_iadd F.1 F.2.1 dX8_lands_65 ?_
      refine lv_dup2_11 F.1 F.2.1 dX8_lands_66 rfl rfl ?_
      refine w_iald F hP (by omega) mW_s (k := P + 9) (ix_add (X := P) (Y := 9) (Z := P + 9) rfl rfl (by omega)) (by omega) (Nat.le_of_ble_eq_true rfl) (v := rk 9) (put_at (k := 9) (by omega) (by omega)) dX8_lands_67 ?_
      refine lv_aload_n F.1 F.2.1 dX8_lands_68 rfl (lv_at hl 1 rfl) ?_
      refine gf_X8_7 F hP (by omega) mW_o (v := .ref (ad (o + 1))) rfl dX8_lands_69 ?_
      refine lv_iload_n F.1 F.2.1 dX8_lands_72 rfl (lv_at hl 2 rfl) ?_
      refine lv_bipush (v := 9) F.1 F.2.1 dX8_lands_73 (by decide) ?_
      refine lv_iadd F.1 F.2.1 dX8_lands_75 ?_
      refine w_iald F hP (by omega) mW_s (k := P + 9) (ix_add (X := P) (Y := 9) (Z := P + 9) rfl rfl (by omega)) (by omega) (Nat.le_of_ble_eq_true rfl) (v := rk 9) (put_at (k := 9) (by omega) (by omega)) dX8_lands_76 ?_
      refine lv_iconst (v := 4) F.1 F.2.1 dX8_lands_77 (by decide) ?_
      refine lv_idiv F.1 F.2.1 dX8_lands_78 (by decide) ?_
      refine lv_isub F.1 F.2.1 dX8_lands_79 ?_
      refine lv_topi (fun v10 ev10 => ?_)
      refine w_iast F hI hP hS (by omega) mW_s (k := P + 9) (ix_add (X := P) (Y := 9) (Z := P + 9) rfl rfl (by omega)) (by omega) (Nat.le_of_ble_eq_true rfl) (C1 := mW Y ad C o kn n gr P (upd (upd rk 7 0) 9 v10) s0) (fun q => congrFun (mW_upds (k := 9) (by omega) (by omega)) q) dX8_lands_80 (fun H locs hP hS => ?_)
      refine lv_aload_n F.1 F.2.1 dX8_lands_81 rfl (lv_at hl 1 rfl) ?_
      refine gf_X8_7 F hP (by omega) mW_o (v := .ref (ad (o + 1))) rfl dX8_lands_82 ?_
      refine lv_iload_n F.1 F.2.1 dX8_lands_85 rfl (lv_at hl 2 rfl) ?_
      refine lv_bipush (v := 8) F.1 F.2.1 dX8_lands_86 (by decide) ?_
      refine lv_iadd F.1 F.2.1 dX8_lands_88 ?_
      refine w_iald F hP (by omega) mW_s (k := P + 8) (ix_add (X := P) (Y := 8) (Z := P + 8) rfl rfl (by omega)) (by omega) (Nat.le_of_ble_eq_true rfl) (v := rk 8) (put_at (k := 8) (by omega) (by omega)) dX8_lands_89 ?_
      refine lv_istore (lv' := [(4, .int (rk 8)), (3, .int (nI k)), (0, .ref (ad o)), (1, .int (nI P)), (2, .int (x))]) F.1 F.2.1 dX8_lands_90 hl (by decide) rfl (fun ls hl => ?_)
      refine lv_aload_n F.1 F.2.1 dX8_lands_92 rfl (lv_at hl 2 rfl) ?_
      refine gf_X8_7 F hP (by omega) mW_o (v := .ref (ad (o + 1))) rfl dX8_lands_93 ?_
      refine lv_iload_n F.1 F.2.1 dX8_lands_96 rfl (lv_at hl 3 rfl) ?_
      refine lv_bipush (v := 7) F.1 F.2.1 dX8_lands_97 (by decide) ?_
      refine lv_iadd F.1 F.2.1 dX8_lands_99 ?_
      refine w_iald F hP (by omega) mW_s (k := P + 7) (ix_add (X := P) (Y := 7) (Z := P + 7) rfl rfl (by omega)) (by omega) (Nat.le_of_ble_eq_true rfl) (v := 0) (put_at (k := 7) (by omega) (by omega)) dX8_lands_100 ?_
      refine lv_bipush (v := 20) F.1 F.2.1 dX8_lands_101 (by decide) ?_
      refine lv_idiv F.1 F.2.1 dX8_lands_103 (by decide) ?_
      refine lv_iload F.1 F.2.1 dX8_lands_104 (lv_at hl 0 rfl) ?_
      refine w_calls F hP hS (c_X8_size l D Y ad N hI _ (rk 8)) (cwSm 1 F.2.2.2.2.1 (fun _ h => h) mw_384 mw_382 mw_383 mw_5 rfl rfl ydX8_size ⟨by decide, by decide⟩) rfl hl.1 rfl (Nat.le_of_ble_eq_true rfl) dX8_lands_106 ⟨Nat.zero_le _, Nat.zero_le _⟩ (fun rq11 Kq11 H locs hq11 hP hS => ?_)
      obtain ⟨hq11w, hq11r⟩ := hq11; rw [hq11w] at hP
      subst hq11r
      refine w_calls F hP hS (c_X8_less l D Y ad N hI _ (0 / 20) (iabs (rk 8))) (cwSm 2 F.2.2.2.2.1 (fun _ h => h) mw_377 mw_375 mw_376 mw_5 rfl rfl ydX8_less ⟨by decide, by decide⟩) rfl hl.1 rfl (Nat.le_of_ble_eq_true rfl) dX8_lands_109 ⟨Nat.zero_le _, Nat.zero_le _⟩ (fun rq12 Kq12 H locs hq12 hP hS => ?_)
      obtain ⟨hq12w, hq12r⟩ := hq12; rw [hq12w] at hP
      subst hq12r
      refine lv_istore (lv' := [(5, .int (if (0 / 20) < (iabs (rk 8)) then (0 / 20) else (iabs (rk 8)))), (4, .int (rk 8)), (3, .int (nI k)), (0, .ref (ad o)), (1, .int (nI P)), (2, .int (x))]) F.1 F.2.1 dX8_lands_112 hl (by decide) rfl (fun ls hl => ?_)
      refine lv_aload_n F.1 F.2.1 dX8_lands_114 rfl (lv_at hl 3 rfl) ?_
      refine gf_X8_7 F hP (by omega) mW_o (v := .ref (ad (o + 1))) rfl dX8_lands_115 ?_
      refine lv_iload_n F.1 F.2.1 dX8_lands_118 rfl (lv_at hl 4 rfl) ?_
      refine lv_bipush (v := 8) F.1 F.2.1 dX8_lands_119 (by decide) ?_
      refine lv_iadd F.1 F.2.1 dX8_lands_121 ?_
      refine lv_iload F.1 F.2.1 dX8_lands_122 (lv_at hl 1 rfl) ?_
      refine lv_if_ge (tgt := 135) F.1 F.2.1 dX8_lands_124 (by decide) (fun c13 => ?_) (fun c13 => ?_)
      · refine lv_iload F.1 F.2.1 dX8_lands_135 (lv_at hl 1 rfl) ?_
        refine lv_iload F.1 F.2.1 dX8_lands_137 (lv_at hl 0 rfl) ?_
        refine lv_isub F.1 F.2.1 dX8_lands_139 ?_
        refine lv_topi (fun v14 ev14 => ?_)
        refine w_iast F hI hP hS (by omega) mW_s (k := P + 8) (ix_add (X := P) (Y := 8) (Z := P + 8) rfl rfl (by omega)) (by omega) (Nat.le_of_ble_eq_true rfl) (C1 := mW Y ad C o kn n gr P (upd (upd (upd rk 7 0) 9 v10) 8 v14) s0) (fun q => congrFun (mW_upds (k := 8) (by omega) (by omega)) q) dX8_lands_140 (fun H locs hP hS => ?_)
        refine lv_iinc (v := (nI k) + 1) (lv' := [(3, .int ((nI k) + 1)), (5, .int (if (0 / 20) < (iabs (rk 8)) then (0 / 20) else (iabs (rk 8)))), (4, .int (rk 8)), (0, .ref (ad o)), (1, .int (nI P)), (2, .int (x))]) F.1 F.2.1 dX8_lands_141 hl (k := 2) rfl rfl (by decide) rfl (fun ls hl => ?_)
        refine lv_goto (tgt := 2) F.1 F.2.1 dX8_lands_144 (by decide) ?_
        have hkq : k < q := Nat.lt_of_not_le (fun z => c1 (by rw [ex]; exact nI_le z (by omega)))
        have es : slow (rk 7) (rk 2) = 0 := (if_pos (i_lt c2))
        have en : nearer (rk 8) (0 / 20) = v14 := (if_neg (i_nlt c13)).trans ev14.symm
        have hT : T_land1 rk = upd (upd (upd rk 7 0) 9 v10) 8 v14 := by unfold T_land1; rw [es, en, ← ev10]
        exact ih _ (by omega) _ _ _ _ ⟨k + 1, _, rfl, by omega, (by rw [nI_succ]; exact lv_sub hl [0, 3, 4, 5] rfl), rfl, (by rw [← hT]; rw [show q - k = q - (k + 1) + 1 by omega] at hW; exact hW)⟩ hP hS
      · refine lv_iload F.1 F.2.1 dX8_lands_127 (lv_at hl 1 rfl) ?_
        refine lv_iload F.1 F.2.1 dX8_lands_129 (lv_at hl 0 rfl) ?_
        refine lv_iadd F.1 F.2.1 dX8_lands_131 ?_
        refine lv_goto (tgt := 140) F.1 F.2.1 dX8_lands_132 (by decide) ?_
        refine lv_topi (fun v15 ev15 => ?_)
        refine w_iast F hI hP hS (by omega) mW_s (k := P + 8) (ix_add (X := P) (Y := 8) (Z := P + 8) rfl rfl (by omega)) (by omega) (Nat.le_of_ble_eq_true rfl) (C1 := mW Y ad C o kn n gr P (upd (upd (upd rk 7 0) 9 v10) 8 v15) s0) (fun q => congrFun (mW_upds (k := 8) (by omega) (by omega)) q) dX8_lands_140 (fun H locs hP hS => ?_)
        refine lv_iinc (v := (nI k) + 1) (lv' := [(3, .int ((nI k) + 1)), (5, .int (if (0 / 20) < (iabs (rk 8)) then (0 / 20) else (iabs (rk 8)))), (4, .int (rk 8)), (0, .ref (ad o)), (1, .int (nI P)), (2, .int (x))]) F.1 F.2.1 dX8_lands_141 hl (k := 2) rfl rfl (by decide) rfl (fun ls hl => ?_)
        refine lv_goto (tgt := 2) F.1 F.2.1 dX8_lands_144 (by decide) ?_
        have hkq : k < q := Nat.lt_of_not_le (fun z => c1 (by rw [ex]; exact nI_le z (by omega)))
        have es : slow (rk 7) (rk 2) = 0 := (if_pos (i_lt c2))
        have en : nearer (rk 8) (0 / 20) = v15 := (if_pos (i_lt c13)).trans ev15.symm
        have hT : T_land1 rk = upd (upd (upd rk 7 0) 9 v10) 8 v15 := by unfold T_land1; rw [es, en, ← ev10]
        exact ih _ (by omega) _ _ _ _ ⟨k + 1, _, rfl, by omega, (by rw [nI_succ]; exact lv_sub hl [0, 3, 4, 5] rfl), rfl, (by rw [← hT]; rw [show q - k = q - (k + 1) + 1 by omega] at hW; exact hW)⟩ hP hS
set_option maxRecDepth 20000 in
set_option maxHeartbeats 4000000 in
/-- a run begins -/
theorem c_X8_begins (l : Launch) (D : va_G) (Y : Nat → ClassId) (ad : Nat → Nat) (N : Nat) (hI : wI ad N) (C : Nat → va_E) (o : Nat) (hh : o + 6 ≤ N) (kn n gr : Int32) (P : Nat) (hP0 : P = 0 ∨ P = 161) (r s0 : Nat → Int32) (x : Int32) : Met l yX8_begins (wm yX8_begins cX8_begins 3 none) { frames := 0, cells := 0, slots := 0, locals := 0 } (wPc D Y ad N [.ref (ad o), .int (nI P), .int (x)] (mW Y ad C o kn n gr P r s0)) (wQv D ad N (fun C' => C' = mW Y ad C o kn n gr P (T_run x r) s0)) 0 0 (wA ad N) := by
  refine wMet RX8 rfl (by decide +kernel) (Nat.le_of_ble_eq_true rfl) (lv := [(0, .ref (ad o)), (1, .int (nI P)), (2, .int (x))]) rfl ?_
  intro p e s m below meth c ls F hr hlocks hP hl
  have hS : va_S (wA ad N) s.heap s.heap [] := va_S.rf
  refine lv_aload_n F.1 F.2.1 dX8_begins_0 rfl (lv_at hl 0 rfl) ?_
  refine gf_X8_7 F hP (by omega) mW_o (v := .ref (ad (o + 1))) rfl dX8_begins_1 ?_
  refine lv_iload_n F.1 F.2.1 dX8_begins_4 rfl (lv_at hl 1 rfl) ?_
  refine lv_iconst (v := 5) F.1 F.2.1 dX8_begins_5 (by decide) ?_
  refine lv_iadd F.1 F.2.1 dX8_begins_6 ?_
  refine lv_iconst (v := 1) F.1 F.2.1 dX8_begins_7 (by decide) ?_
  refine w_iast F hI hP hS (by omega) mW_s (k := P + 5) (ix_add (X := P) (Y := 5) (Z := P + 5) rfl rfl (by omega)) (by omega) (Nat.le_of_ble_eq_true rfl) (C1 := mW Y ad C o kn n gr P (upd r 5 1) s0) (fun q => congrFun (mW_upds (k := 5) (by omega) (by omega)) q) dX8_begins_8 (fun H locs hP hS => ?_)
  refine lv_aload_n F.1 F.2.1 dX8_begins_9 rfl (lv_at hl 0 rfl) ?_
  refine gf_X8_7 F hP (by omega) mW_o (v := .ref (ad (o + 1))) rfl dX8_begins_10 ?_
  refine lv_iload_n F.1 F.2.1 dX8_begins_13 rfl (lv_at hl 1 rfl) ?_
  refine lv_bipush (v := 6) F.1 F.2.1 dX8_begins_14 (by decide) ?_
  refine lv_iadd F.1 F.2.1 dX8_begins_16 ?_
  refine lv_iload_n F.1 F.2.1 dX8_begins_17 rfl (lv_at hl 2 rfl) ?_
  refine w_iast F hI hP hS (by omega) mW_s (k := P + 6) (ix_add (X := P) (Y := 6) (Z := P + 6) rfl rfl (by omega)) (by omega) (Nat.le_of_ble_eq_true rfl) (C1 := mW Y ad C o kn n gr P (upd (upd r 5 1) 6 x) s0) (fun q => congrFun (mW_upds (k := 6) (by omega) (by omega)) q) dX8_begins_18 (fun H locs hP hS => ?_)
  refine lv_aload_n F.1 F.2.1 dX8_begins_19 rfl (lv_at hl 0 rfl) ?_
  refine gf_X8_7 F hP (by omega) mW_o (v := .ref (ad (o + 1))) rfl dX8_begins_20 ?_
  refine lv_iload_n F.1 F.2.1 dX8_begins_23 rfl (lv_at hl 1 rfl) ?_
  refine lv_bipush (v := 7) F.1 F.2.1 dX8_begins_24 (by decide) ?_
  refine lv_iadd F.1 F.2.1 dX8_begins_26 ?_
  refine lv_bipush (v := 10) F.1 F.2.1 dX8_begins_27 (by decide) ?_
  refine w_iast F hI hP hS (by omega) mW_s (k := P + 7) (ix_add (X := P) (Y := 7) (Z := P + 7) rfl rfl (by omega)) (by omega) (Nat.le_of_ble_eq_true rfl) (C1 := mW Y ad C o kn n gr P (upd (upd (upd r 5 1) 6 x) 7 10) s0) (fun q => congrFun (mW_upds (k := 7) (by omega) (by omega)) q) dX8_begins_29 (fun H locs hP hS => ?_)
  refine lv_aload_n F.1 F.2.1 dX8_begins_30 rfl (lv_at hl 0 rfl) ?_
  refine gf_X8_7 F hP (by omega) mW_o (v := .ref (ad (o + 1))) rfl dX8_begins_31 ?_
  refine lv_iload_n F.1 F.2.1 dX8_begins_34 rfl (lv_at hl 1 rfl) ?_
  refine lv_bipush (v := 8) F.1 F.2.1 dX8_begins_35 (by decide) ?_
  refine lv_iadd F.1 F.2.1 dX8_begins_37 ?_
  refine lv_iconst (v := 0) F.1 F.2.1 dX8_begins_38 (by decide) ?_
  refine w_iast F hI hP hS (by omega) mW_s (k := P + 8) (ix_add (X := P) (Y := 8) (Z := P + 8) rfl rfl (by omega)) (by omega) (Nat.le_of_ble_eq_true rfl) (C1 := mW Y ad C o kn n gr P (upd (upd (upd (upd r 5 1) 6 x) 7 10) 8 0) s0) (fun q => congrFun (mW_upds (k := 8) (by omega) (by omega)) q) dX8_begins_39 (fun H locs hP hS => ?_)
  refine lv_aload_n F.1 F.2.1 dX8_begins_40 rfl (lv_at hl 0 rfl) ?_
  refine gf_X8_7 F hP (by omega) mW_o (v := .ref (ad (o + 1))) rfl dX8_begins_41 ?_
  refine lv_iload_n F.1 F.2.1 dX8_begins_44 rfl (lv_at hl 1 rfl) ?_
  refine lv_bipush (v := 9) F.1 F.2.1 dX8_begins_45 (by decide) ?_
  refine lv_iadd F.1 F.2.1 dX8_begins_47 ?_
  refine lv_iconst (v := 0) F.1 F.2.1 dX8_begins_48 (by decide) ?_
  refine w_iast F hI hP hS (by omega) mW_s (k := P + 9) (ix_add (X := P) (Y := 9) (Z := P + 9) rfl rfl (by omega)) (by omega) (Nat.le_of_ble_eq_true rfl) (C1 := mW Y ad C o kn n gr P (upd (upd (upd (upd (upd r 5 1) 6 x) 7 10) 8 0) 9 0) s0) (fun q => congrFun (mW_upds (k := 9) (by omega) (by omega)) q) dX8_begins_49 (fun H locs hP hS => ?_)
  refine lv_aload_n F.1 F.2.1 dX8_begins_50 rfl (lv_at hl 0 rfl) ?_
  refine gf_X8_7 F hP (by omega) mW_o (v := .ref (ad (o + 1))) rfl dX8_begins_51 ?_
  refine lv_iload_n F.1 F.2.1 dX8_begins_54 rfl (lv_at hl 1 rfl) ?_
  refine lv_bipush (v := 10) F.1 F.2.1 dX8_begins_55 (by decide) ?_
  refine lv_iadd F.1 F.2.1 dX8_begins_57 ?_
  refine lv_iconst (v := 0) F.1 F.2.1 dX8_begins_58 (by decide) ?_
  refine w_iast F hI hP hS (by omega) mW_s (k := P + 10) (ix_add (X := P) (Y := 10) (Z := P + 10) rfl rfl (by omega)) (by omega) (Nat.le_of_ble_eq_true rfl) (C1 := mW Y ad C o kn n gr P (upd (upd (upd (upd (upd (upd r 5 1) 6 x) 7 10) 8 0) 9 0) 10 0) s0) (fun q => congrFun (mW_upds (k := 10) (by omega) (by omega)) q) dX8_begins_59 (fun H locs hP hS => ?_)
  refine lv_aload_n F.1 F.2.1 dX8_begins_60 rfl (lv_at hl 0 rfl) ?_
  refine gf_X8_7 F hP (by omega) mW_o (v := .ref (ad (o + 1))) rfl dX8_begins_61 ?_
  refine lv_iload_n F.1 F.2.1 dX8_begins_64 rfl (lv_at hl 1 rfl) ?_
  refine lv_bipush (v := 11) F.1 F.2.1 dX8_begins_65 (by decide) ?_
  refine lv_iadd F.1 F.2.1 dX8_begins_67 ?_
  refine lv_iconst (v := 0) F.1 F.2.1 dX8_begins_68 (by decide) ?_
  refine w_iast F hI hP hS (by omega) mW_s (k := P + 11) (ix_add (X := P) (Y := 11) (Z := P + 11) rfl rfl (by omega)) (by omega) (Nat.le_of_ble_eq_true rfl) (C1 := mW Y ad C o kn n gr P (upd (upd (upd (upd (upd (upd (upd r 5 1) 6 x) 7 10) 8 0) 9 0) 10 0) 11 0) s0) (fun q => congrFun (mW_upds (k := 11) (by omega) (by omega)) q) dX8_begins_69 (fun H locs hP hS => ?_)
  refine lv_aload_n F.1 F.2.1 dX8_begins_70 rfl (lv_at hl 0 rfl) ?_
  refine gf_X8_7 F hP (by omega) mW_o (v := .ref (ad (o + 1))) rfl dX8_begins_71 ?_
  refine lv_iload_n F.1 F.2.1 dX8_begins_74 rfl (lv_at hl 1 rfl) ?_
  refine lv_bipush (v := 12) F.1 F.2.1 dX8_begins_75 (by decide) ?_
  refine lv_iadd F.1 F.2.1 dX8_begins_77 ?_
  refine lv_iconst (v := 0) F.1 F.2.1 dX8_begins_78 (by decide) ?_
  refine w_iast F hI hP hS (by omega) mW_s (k := P + 12) (ix_add (X := P) (Y := 12) (Z := P + 12) rfl rfl (by omega)) (by omega) (Nat.le_of_ble_eq_true rfl) (C1 := mW Y ad C o kn n gr P (upd (upd (upd (upd (upd (upd (upd (upd r 5 1) 6 x) 7 10) 8 0) 9 0) 10 0) 11 0) 12 0) s0) (fun q => congrFun (mW_upds (k := 12) (by omega) (by omega)) q) dX8_begins_79 (fun H locs hP hS => ?_)
  refine lv_aload_n F.1 F.2.1 dX8_begins_80 rfl (lv_at hl 0 rfl) ?_
  refine gf_X8_7 F hP (by omega) mW_o (v := .ref (ad (o + 1))) rfl dX8_begins_81 ?_
  refine lv_iload_n F.1 F.2.1 dX8_begins_84 rfl (lv_at hl 1 rfl) ?_
  refine lv_bipush (v := 13) F.1 F.2.1 dX8_begins_85 (by decide) ?_
  refine lv_iadd F.1 F.2.1 dX8_begins_87 ?_
  refine lv_iconst (v := 0) F.1 F.2.1 dX8_begins_88 (by decide) ?_
  refine w_iast F hI hP hS (by omega) mW_s (k := P + 13) (ix_add (X := P) (Y := 13) (Z := P + 13) rfl rfl (by omega)) (by omega) (Nat.le_of_ble_eq_true rfl) (C1 := mW Y ad C o kn n gr P (upd (upd (upd (upd (upd (upd (upd (upd (upd r 5 1) 6 x) 7 10) 8 0) 9 0) 10 0) 11 0) 12 0) 13 0) s0) (fun q => congrFun (mW_upds (k := 13) (by omega) (by omega)) q) dX8_begins_89 (fun H locs hP hS => ?_)
  refine lv_aload_n F.1 F.2.1 dX8_begins_90 rfl (lv_at hl 0 rfl) ?_
  refine gf_X8_7 F hP (by omega) mW_o (v := .ref (ad (o + 1))) rfl dX8_begins_91 ?_
  refine lv_iload_n F.1 F.2.1 dX8_begins_94 rfl (lv_at hl 1 rfl) ?_
  refine lv_bipush (v := 14) F.1 F.2.1 dX8_begins_95 (by decide) ?_
  refine lv_iadd F.1 F.2.1 dX8_begins_97 ?_
  refine lv_dup2_11 F.1 F.2.1 dX8_begins_98 rfl rfl ?_
  refine w_iald F hP (by omega) mW_s (k := P + 14) (ix_add (X := P) (Y := 14) (Z := P + 14) rfl rfl (by omega)) (by omega) (Nat.le_of_ble_eq_true rfl) (v := r 14) (put_at (k := 14) (by omega) (by omega)) dX8_begins_99 ?_
  refine lv_iconst (v := 1) F.1 F.2.1 dX8_begins_100 (by decide) ?_
  refine lv_iadd F.1 F.2.1 dX8_begins_101 ?_
  refine lv_topi (fun v1 ev1 => ?_)
  refine w_iast F hI hP hS (by omega) mW_s (k := P + 14) (ix_add (X := P) (Y := 14) (Z := P + 14) rfl rfl (by omega)) (by omega) (Nat.le_of_ble_eq_true rfl) (C1 := mW Y ad C o kn n gr P (upd (upd (upd (upd (upd (upd (upd (upd (upd (upd r 5 1) 6 x) 7 10) 8 0) 9 0) 10 0) 11 0) 12 0) 13 0) 14 v1) s0) (fun q => congrFun (mW_upds (k := 14) (by omega) (by omega)) q) dX8_begins_102 (fun H locs hP hS => ?_)
  exact w_vret F hr hlocks hP hS dX8_begins_103 (by rw [ev1]; rfl)
set_option maxRecDepth 20000 in
set_option maxHeartbeats 4000000 in
/-- a tap -/
theorem c_X8_taps (l : Launch) (D : va_G) (Y : Nat → ClassId) (ad : Nat → Nat) (N : Nat) (hI : wI ad N) (C : Nat → va_E) (o : Nat) (hh : o + 6 ≤ N) (kn n gr : Int32) (P : Nat) (hP0 : P = 0 ∨ P = 161) (r s0 : Nat → Int32) (x : Int32) : Met l yX8_taps (wm yX8_taps cX8_taps 3 none) { frames := 1, cells := 0, slots := 0, locals := 21 } (wPc D Y ad N [.ref (ad o), .int (nI P), .int (x)] (mW Y ad C o kn n gr P r s0)) (wQv D ad N (fun C' => C' = mW Y ad C o kn n gr P (T_tapp x r) s0)) 0 0 (wA ad N) := by
  refine wMet RX8 rfl (by decide +kernel) (Nat.le_of_ble_eq_true rfl) (lv := [(0, .ref (ad o)), (1, .int (nI P)), (2, .int (x))]) rfl ?_
  intro p e s m below meth c ls F hr hlocks hP hl
  have hS : va_S (wA ad N) s.heap s.heap [] := va_S.rf
  refine lv_aload_n F.1 F.2.1 dX8_taps_0 rfl (lv_at hl 0 rfl) ?_
  refine gf_X8_7 F hP (by omega) mW_o (v := .ref (ad (o + 1))) rfl dX8_taps_1 ?_
  refine lv_iload_n F.1 F.2.1 dX8_taps_4 rfl (lv_at hl 1 rfl) ?_
  refine lv_bipush (v := 8) F.1 F.2.1 dX8_taps_5 (by decide) ?_
  refine lv_iadd F.1 F.2.1 dX8_taps_7 ?_
  refine lv_dup2_11 F.1 F.2.1 dX8_taps_8 rfl rfl ?_
  refine w_iald F hP (by omega) mW_s (k := P + 8) (ix_add (X := P) (Y := 8) (Z := P + 8) rfl rfl (by omega)) (by omega) (Nat.le_of_ble_eq_true rfl) (v := r 8) (put_at (k := 8) (by omega) (by omega)) dX8_taps_9 ?_
  refine lv_iload_n F.1 F.2.1 dX8_taps_10 rfl (lv_at hl 2 rfl) ?_
  refine lv_if_ne (tgt := 25) F.1 F.2.1 dX8_taps_11 (by decide) (fun c1 => ?_) (fun c1 => ?_)
  · refine lv_aload_n F.1 F.2.1 dX8_taps_25 rfl (lv_at hl 0 rfl) ?_
    refine gf_X8_7 F hP (by omega) mW_o (v := .ref (ad (o + 1))) rfl dX8_taps_26 ?_
    refine lv_iload_n F.1 F.2.1 dX8_taps_29 rfl (lv_at hl 1 rfl) ?_
    refine lv_iconst (v := 3) F.1 F.2.1 dX8_taps_30 (by decide) ?_
    refine lv_iadd F.1 F.2.1 dX8_taps_31 ?_
    refine w_iald F hP (by omega) mW_s (k := P + 3) (ix_add (X := P) (Y := 3) (Z := P + 3) rfl rfl (by omega)) (by omega) (Nat.le_of_ble_eq_true rfl) (v := r 3) (put_at (k := 3) (by omega) (by omega)) dX8_taps_32 ?_
    refine lv_ineg F.1 F.2.1 dX8_taps_33 ?_
    refine lv_iadd F.1 F.2.1 dX8_taps_34 ?_
    refine lv_topi (fun v2 ev2 => ?_)
    refine w_iast F hI hP hS (by omega) mW_s (k := P + 8) (ix_add (X := P) (Y := 8) (Z := P + 8) rfl rfl (by omega)) (by omega) (Nat.le_of_ble_eq_true rfl) (C1 := mW Y ad C o kn n gr P (upd r 8 v2) s0) (fun q => congrFun (mW_upds (k := 8) (by omega) (by omega)) q) dX8_taps_35 (fun H locs hP hS => ?_)
    refine lv_aload_n F.1 F.2.1 dX8_taps_36 rfl (lv_at hl 0 rfl) ?_
    refine gf_X8_7 F hP (by omega) mW_o (v := .ref (ad (o + 1))) rfl dX8_taps_37 ?_
    refine lv_iload_n F.1 F.2.1 dX8_taps_40 rfl (lv_at hl 1 rfl) ?_
    refine lv_bipush (v := 9) F.1 F.2.1 dX8_taps_41 (by decide) ?_
    refine lv_iadd F.1 F.2.1 dX8_taps_43 ?_
    refine lv_aload_n F.1 F.2.1 dX8_taps_44 rfl (lv_at hl 0 rfl) ?_
    refine gf_X8_7 F hP (by omega) mW_o (v := .ref (ad (o + 1))) rfl dX8_taps_45 ?_
    refine lv_iload_n F.1 F.2.1 dX8_taps_48 rfl (lv_at hl 1 rfl) ?_
    refine lv_bipush (v := 9) F.1 F.2.1 dX8_taps_49 (by decide) ?_
    refine lv_iadd F.1 F.2.1 dX8_taps_51 ?_
    refine w_iald F hP (by omega) mW_s (k := P + 9) (ix_add (X := P) (Y := 9) (Z := P + 9) rfl rfl (by omega)) (by omega) (Nat.le_of_ble_eq_true rfl) (v := r 9) (put_at (k := 9) (by omega) (by omega)) dX8_taps_52 ?_
    refine lv_iconst (v := 2) F.1 F.2.1 dX8_taps_53 (by decide) ?_
    refine lv_iadd F.1 F.2.1 dX8_taps_54 ?_
    refine lv_bipush (v := 99) F.1 F.2.1 dX8_taps_55 (by decide) ?_
    refine w_calls F hP hS (c_X8_less l D Y ad N hI _ ((r 9) + 2) 99) (cwSm 2 F.2.2.2.2.1 (fun _ h => h) mw_377 mw_375 mw_376 mw_5 rfl rfl ydX8_less ⟨by decide, by decide⟩) rfl hl.1 rfl (Nat.le_of_ble_eq_true rfl) dX8_taps_57 ⟨Nat.zero_le _, Nat.zero_le _⟩ (fun rq3 Kq3 H locs hq3 hP hS => ?_)
    obtain ⟨hq3w, hq3r⟩ := hq3; rw [hq3w] at hP
    subst hq3r
    refine lv_topi (fun v4 ev4 => ?_)
    refine w_iast F hI hP hS (by omega) mW_s (k := P + 9) (ix_add (X := P) (Y := 9) (Z := P + 9) rfl rfl (by omega)) (by omega) (Nat.le_of_ble_eq_true rfl) (C1 := mW Y ad C o kn n gr P (upd (upd r 8 v2) 9 v4) s0) (fun q => congrFun (mW_upds (k := 9) (by omega) (by omega)) q) dX8_taps_60 (fun H locs hP hS => ?_)
    refine lv_aload_n F.1 F.2.1 dX8_taps_61 rfl (lv_at hl 0 rfl) ?_
    refine gf_X8_7 F hP (by omega) mW_o (v := .ref (ad (o + 1))) rfl dX8_taps_62 ?_
    refine lv_iload_n F.1 F.2.1 dX8_taps_65 rfl (lv_at hl 1 rfl) ?_
    refine lv_bipush (v := 12) F.1 F.2.1 dX8_taps_66 (by decide) ?_
    refine lv_iadd F.1 F.2.1 dX8_taps_68 ?_
    refine lv_dup2_11 F.1 F.2.1 dX8_taps_69 rfl rfl ?_
    refine w_iald F hP (by omega) mW_s (k := P + 12) (ix_add (X := P) (Y := 12) (Z := P + 12) rfl rfl (by omega)) (by omega) (Nat.le_of_ble_eq_true rfl) (v := r 12) (put_at (k := 12) (by omega) (by omega)) dX8_taps_70 ?_
    refine lv_iconst (v := 1) F.1 F.2.1 dX8_taps_71 (by decide) ?_
    refine lv_iadd F.1 F.2.1 dX8_taps_72 ?_
    refine lv_topi (fun v5 ev5 => ?_)
    refine w_iast F hI hP hS (by omega) mW_s (k := P + 12) (ix_add (X := P) (Y := 12) (Z := P + 12) rfl rfl (by omega)) (by omega) (Nat.le_of_ble_eq_true rfl) (C1 := mW Y ad C o kn n gr P (upd (upd (upd r 8 v2) 9 v4) 12 v5) s0) (fun q => congrFun (mW_upds (k := 12) (by omega) (by omega)) q) dX8_taps_73 (fun H locs hP hS => ?_)
    refine lv_aload_n F.1 F.2.1 dX8_taps_74 rfl (lv_at hl 0 rfl) ?_
    refine gf_X8_7 F hP (by omega) mW_o (v := .ref (ad (o + 1))) rfl dX8_taps_75 ?_
    refine lv_iload_n F.1 F.2.1 dX8_taps_78 rfl (lv_at hl 1 rfl) ?_
    refine lv_bipush (v := 19) F.1 F.2.1 dX8_taps_79 (by decide) ?_
    refine lv_iadd F.1 F.2.1 dX8_taps_81 ?_
    refine lv_dup2_11 F.1 F.2.1 dX8_taps_82 rfl rfl ?_
    refine w_iald F hP (by omega) mW_s (k := P + 19) (ix_add (X := P) (Y := 19) (Z := P + 19) rfl rfl (by omega)) (by omega) (Nat.le_of_ble_eq_true rfl) (v := r 19) (put_at (k := 19) (by omega) (by omega)) dX8_taps_83 ?_
    refine lv_iconst (v := 1) F.1 F.2.1 dX8_taps_84 (by decide) ?_
    refine lv_iadd F.1 F.2.1 dX8_taps_85 ?_
    refine lv_topi (fun v6 ev6 => ?_)
    refine w_iast F hI hP hS (by omega) mW_s (k := P + 19) (ix_add (X := P) (Y := 19) (Z := P + 19) rfl rfl (by omega)) (by omega) (Nat.le_of_ble_eq_true rfl) (C1 := mW Y ad C o kn n gr P (upd (upd (upd (upd r 8 v2) 9 v4) 12 v5) 19 v6) s0) (fun q => congrFun (mW_upds (k := 19) (by omega) (by omega)) q) dX8_taps_86 (fun H locs hP hS => ?_)
    exact w_vret F hr hlocks hP hS dX8_taps_87 (by unfold T_tapp T_tap; rw [if_neg c1, ← ev2, ← (show v4 = mn99 (r 9 + 2) from ev4), ← ev5, ← ev6])
  · refine lv_aload_n F.1 F.2.1 dX8_taps_14 rfl (lv_at hl 0 rfl) ?_
    refine gf_X8_7 F hP (by omega) mW_o (v := .ref (ad (o + 1))) rfl dX8_taps_15 ?_
    refine lv_iload_n F.1 F.2.1 dX8_taps_18 rfl (lv_at hl 1 rfl) ?_
    refine lv_iconst (v := 3) F.1 F.2.1 dX8_taps_19 (by decide) ?_
    refine lv_iadd F.1 F.2.1 dX8_taps_20 ?_
    refine w_iald F hP (by omega) mW_s (k := P + 3) (ix_add (X := P) (Y := 3) (Z := P + 3) rfl rfl (by omega)) (by omega) (Nat.le_of_ble_eq_true rfl) (v := r 3) (put_at (k := 3) (by omega) (by omega)) dX8_taps_21 ?_
    refine lv_goto (tgt := 34) F.1 F.2.1 dX8_taps_22 (by decide) ?_
    refine lv_iadd F.1 F.2.1 dX8_taps_34 ?_
    refine lv_topi (fun v7 ev7 => ?_)
    refine w_iast F hI hP hS (by omega) mW_s (k := P + 8) (ix_add (X := P) (Y := 8) (Z := P + 8) rfl rfl (by omega)) (by omega) (Nat.le_of_ble_eq_true rfl) (C1 := mW Y ad C o kn n gr P (upd r 8 v7) s0) (fun q => congrFun (mW_upds (k := 8) (by omega) (by omega)) q) dX8_taps_35 (fun H locs hP hS => ?_)
    refine lv_aload_n F.1 F.2.1 dX8_taps_36 rfl (lv_at hl 0 rfl) ?_
    refine gf_X8_7 F hP (by omega) mW_o (v := .ref (ad (o + 1))) rfl dX8_taps_37 ?_
    refine lv_iload_n F.1 F.2.1 dX8_taps_40 rfl (lv_at hl 1 rfl) ?_
    refine lv_bipush (v := 9) F.1 F.2.1 dX8_taps_41 (by decide) ?_
    refine lv_iadd F.1 F.2.1 dX8_taps_43 ?_
    refine lv_aload_n F.1 F.2.1 dX8_taps_44 rfl (lv_at hl 0 rfl) ?_
    refine gf_X8_7 F hP (by omega) mW_o (v := .ref (ad (o + 1))) rfl dX8_taps_45 ?_
    refine lv_iload_n F.1 F.2.1 dX8_taps_48 rfl (lv_at hl 1 rfl) ?_
    refine lv_bipush (v := 9) F.1 F.2.1 dX8_taps_49 (by decide) ?_
    refine lv_iadd F.1 F.2.1 dX8_taps_51 ?_
    refine w_iald F hP (by omega) mW_s (k := P + 9) (ix_add (X := P) (Y := 9) (Z := P + 9) rfl rfl (by omega)) (by omega) (Nat.le_of_ble_eq_true rfl) (v := r 9) (put_at (k := 9) (by omega) (by omega)) dX8_taps_52 ?_
    refine lv_iconst (v := 2) F.1 F.2.1 dX8_taps_53 (by decide) ?_
    refine lv_iadd F.1 F.2.1 dX8_taps_54 ?_
    refine lv_bipush (v := 99) F.1 F.2.1 dX8_taps_55 (by decide) ?_
    refine w_calls F hP hS (c_X8_less l D Y ad N hI _ ((r 9) + 2) 99) (cwSm 2 F.2.2.2.2.1 (fun _ h => h) mw_377 mw_375 mw_376 mw_5 rfl rfl ydX8_less ⟨by decide, by decide⟩) rfl hl.1 rfl (Nat.le_of_ble_eq_true rfl) dX8_taps_57 ⟨Nat.zero_le _, Nat.zero_le _⟩ (fun rq8 Kq8 H locs hq8 hP hS => ?_)
    obtain ⟨hq8w, hq8r⟩ := hq8; rw [hq8w] at hP
    subst hq8r
    refine lv_topi (fun v9 ev9 => ?_)
    refine w_iast F hI hP hS (by omega) mW_s (k := P + 9) (ix_add (X := P) (Y := 9) (Z := P + 9) rfl rfl (by omega)) (by omega) (Nat.le_of_ble_eq_true rfl) (C1 := mW Y ad C o kn n gr P (upd (upd r 8 v7) 9 v9) s0) (fun q => congrFun (mW_upds (k := 9) (by omega) (by omega)) q) dX8_taps_60 (fun H locs hP hS => ?_)
    refine lv_aload_n F.1 F.2.1 dX8_taps_61 rfl (lv_at hl 0 rfl) ?_
    refine gf_X8_7 F hP (by omega) mW_o (v := .ref (ad (o + 1))) rfl dX8_taps_62 ?_
    refine lv_iload_n F.1 F.2.1 dX8_taps_65 rfl (lv_at hl 1 rfl) ?_
    refine lv_bipush (v := 12) F.1 F.2.1 dX8_taps_66 (by decide) ?_
    refine lv_iadd F.1 F.2.1 dX8_taps_68 ?_
    refine lv_dup2_11 F.1 F.2.1 dX8_taps_69 rfl rfl ?_
    refine w_iald F hP (by omega) mW_s (k := P + 12) (ix_add (X := P) (Y := 12) (Z := P + 12) rfl rfl (by omega)) (by omega) (Nat.le_of_ble_eq_true rfl) (v := r 12) (put_at (k := 12) (by omega) (by omega)) dX8_taps_70 ?_
    refine lv_iconst (v := 1) F.1 F.2.1 dX8_taps_71 (by decide) ?_
    refine lv_iadd F.1 F.2.1 dX8_taps_72 ?_
    refine lv_topi (fun v10 ev10 => ?_)
    refine w_iast F hI hP hS (by omega) mW_s (k := P + 12) (ix_add (X := P) (Y := 12) (Z := P + 12) rfl rfl (by omega)) (by omega) (Nat.le_of_ble_eq_true rfl) (C1 := mW Y ad C o kn n gr P (upd (upd (upd r 8 v7) 9 v9) 12 v10) s0) (fun q => congrFun (mW_upds (k := 12) (by omega) (by omega)) q) dX8_taps_73 (fun H locs hP hS => ?_)
    refine lv_aload_n F.1 F.2.1 dX8_taps_74 rfl (lv_at hl 0 rfl) ?_
    refine gf_X8_7 F hP (by omega) mW_o (v := .ref (ad (o + 1))) rfl dX8_taps_75 ?_
    refine lv_iload_n F.1 F.2.1 dX8_taps_78 rfl (lv_at hl 1 rfl) ?_
    refine lv_bipush (v := 19) F.1 F.2.1 dX8_taps_79 (by decide) ?_
    refine lv_iadd F.1 F.2.1 dX8_taps_81 ?_
    refine lv_dup2_11 F.1 F.2.1 dX8_taps_82 rfl rfl ?_
    refine w_iald F hP (by omega) mW_s (k := P + 19) (ix_add (X := P) (Y := 19) (Z := P + 19) rfl rfl (by omega)) (by omega) (Nat.le_of_ble_eq_true rfl) (v := r 19) (put_at (k := 19) (by omega) (by omega)) dX8_taps_83 ?_
    refine lv_iconst (v := 1) F.1 F.2.1 dX8_taps_84 (by decide) ?_
    refine lv_iadd F.1 F.2.1 dX8_taps_85 ?_
    refine lv_topi (fun v11 ev11 => ?_)
    refine w_iast F hI hP hS (by omega) mW_s (k := P + 19) (ix_add (X := P) (Y := 19) (Z := P + 19) rfl rfl (by omega)) (by omega) (Nat.le_of_ble_eq_true rfl) (C1 := mW Y ad C o kn n gr P (upd (upd (upd (upd r 8 v7) 9 v9) 12 v10) 19 v11) s0) (fun q => congrFun (mW_upds (k := 19) (by omega) (by omega)) q) dX8_taps_86 (fun H locs hP hS => ?_)
    exact w_vret F hr hlocks hP hS dX8_taps_87 (by unfold T_tapp T_tap; rw [if_pos c1, ← ev7, ← (show v9 = mn99 (r 9 + 2) from ev9), ← ev10, ← ev11])
set_option maxRecDepth 20000 in
set_option maxHeartbeats 4000000 in
/-- a push -/
theorem c_X8_pushes (l : Launch) (D : va_G) (Y : Nat → ClassId) (ad : Nat → Nat) (N : Nat) (hI : wI ad N) (C : Nat → va_E) (o : Nat) (hh : o + 6 ≤ N) (kn n gr : Int32) (r s0 : Nat → Int32) : Met l yX8_pushes (wm yX8_pushes cX8_pushes 1 (some .int)) { frames := 1, cells := 0, slots := 0, locals := 21 } (wPc D Y ad N [.ref (ad o)] (mW Y ad C o kn n gr 0 r s0)) (wQi D ad N (fun q C' => C' = mW Y ad C o kn n gr 0 (T_push r) s0 ∧ q = T_push r 7)) 0 0 (wA ad N) := by
  refine wMet RX8 rfl (by decide +kernel) (Nat.le_of_ble_eq_true rfl) (lv := [(0, .ref (ad o))]) rfl ?_
  intro p e s m below meth c ls F hr hlocks hP hl
  have hS : va_S (wA ad N) s.heap s.heap [] := va_S.rf
  refine lv_aload_n F.1 F.2.1 dX8_pushes_0 rfl (lv_at hl 0 rfl) ?_
  refine gf_X8_7 F hP (by omega) mW_o (v := .ref (ad (o + 1))) rfl dX8_pushes_1 ?_
  refine lv_bipush (v := 7) F.1 F.2.1 dX8_pushes_4 (by decide) ?_
  refine lv_aload_n F.1 F.2.1 dX8_pushes_6 rfl (lv_at hl 0 rfl) ?_
  refine gf_X8_7 F hP (by omega) mW_o (v := .ref (ad (o + 1))) rfl dX8_pushes_7 ?_
  refine lv_bipush (v := 7) F.1 F.2.1 dX8_pushes_10 (by decide) ?_
  refine w_iald F hP (by omega) mW_s (k := 7) rfl (by omega) (Nat.le_of_ble_eq_true rfl) (v := r 7) (put_at (k := 7) (by omega) (by omega)) dX8_pushes_12 ?_
  refine lv_iconst (v := 5) F.1 F.2.1 dX8_pushes_13 (by decide) ?_
  refine lv_iadd F.1 F.2.1 dX8_pushes_14 ?_
  refine lv_bipush (v := 99) F.1 F.2.1 dX8_pushes_15 (by decide) ?_
  refine w_calls F hP hS (c_X8_less l D Y ad N hI _ ((r 7) + 5) 99) (cwSm 2 F.2.2.2.2.1 (fun _ h => h) mw_377 mw_375 mw_376 mw_5 rfl rfl ydX8_less ⟨by decide, by decide⟩) rfl hl.1 rfl (Nat.le_of_ble_eq_true rfl) dX8_pushes_17 ⟨Nat.zero_le _, Nat.zero_le _⟩ (fun rq1 Kq1 H locs hq1 hP hS => ?_)
  obtain ⟨hq1w, hq1r⟩ := hq1; rw [hq1w] at hP
  subst hq1r
  refine lv_topi (fun v2 ev2 => ?_)
  refine w_iast F hI hP hS (by omega) mW_s (k := 7) rfl (by omega) (Nat.le_of_ble_eq_true rfl) (C1 := mW Y ad C o kn n gr 0 (upd r 7 v2) s0) (fun q => congrFun (mW_upds (k := 7) (by omega) (by omega)) q) dX8_pushes_20 (fun H locs hP hS => ?_)
  refine lv_aload_n F.1 F.2.1 dX8_pushes_21 rfl (lv_at hl 0 rfl) ?_
  refine gf_X8_7 F hP (by omega) mW_o (v := .ref (ad (o + 1))) rfl dX8_pushes_22 ?_
  refine lv_bipush (v := 13) F.1 F.2.1 dX8_pushes_25 (by decide) ?_
  refine lv_dup2_11 F.1 F.2.1 dX8_pushes_27 rfl rfl ?_
  refine w_iald F hP (by omega) mW_s (k := 13) rfl (by omega) (Nat.le_of_ble_eq_true rfl) (v := r 13) (put_at (k := 13) (by omega) (by omega)) dX8_pushes_28 ?_
  refine lv_iconst (v := 1) F.1 F.2.1 dX8_pushes_29 (by decide) ?_
  refine lv_iadd F.1 F.2.1 dX8_pushes_30 ?_
  refine lv_topi (fun v3 ev3 => ?_)
  refine w_iast F hI hP hS (by omega) mW_s (k := 13) rfl (by omega) (Nat.le_of_ble_eq_true rfl) (C1 := mW Y ad C o kn n gr 0 (upd (upd r 7 v2) 13 v3) s0) (fun q => congrFun (mW_upds (k := 13) (by omega) (by omega)) q) dX8_pushes_31 (fun H locs hP hS => ?_)
  refine lv_aload_n F.1 F.2.1 dX8_pushes_32 rfl (lv_at hl 0 rfl) ?_
  refine gf_X8_7 F hP (by omega) mW_o (v := .ref (ad (o + 1))) rfl dX8_pushes_33 ?_
  refine lv_bipush (v := 7) F.1 F.2.1 dX8_pushes_36 (by decide) ?_
  refine w_iald F hP (by omega) mW_s (k := 7) rfl (by omega) (Nat.le_of_ble_eq_true rfl) (v := v2) (put_at (k := 7) (by omega) (by omega)) dX8_pushes_38 ?_
  exact w_iret F hr hlocks hP hS dX8_pushes_39 (by unfold T_push; rw [← (show v2 = mn99 (r 7 + 5) from ev2), ← ev3]; exact ⟨rfl, rfl⟩)
set_option maxRecDepth 20000 in
set_option maxHeartbeats 4000000 in
/-- past a part -/
theorem c_X8_passesPart (l : Launch) (D : va_G) (Y : Nat → ClassId) (ad : Nat → Nat) (N : Nat) (hI : wI ad N) (C : Nat → va_E) (o : Nat) (hh : o + 6 ≤ N) (kn n gr : Int32) (P : Nat) (hP0 : P = 0 ∨ P = 161) (r s0 : Nat → Int32) (k : Nat) (hk : k < 20) (hk10 : r 10 = nI k) (v : Nat) (hv : v ≤ 99) (ev : r (62 + 5 * k) = nI v) (evc : (r (62 + 5 * k)).toNatClampNeg = v) : Met l yX8_passesPart (wm yX8_passesPart cX8_passesPart 5 (some .int)) { frames := 2, cells := 0, slots := 0, locals := 46 } (wPc D Y ad N [.ref (ad o), .int (nI P)] (mW Y ad C o kn n gr P r s0)) (wQi D ad N (fun q C' => C' = mW Y ad C o kn n ((T_pass k r gr).2.1) P ((T_pass k r gr).1) s0 ∧ q = (T_pass k r gr).2.2)) 0 0 (wA ad N) := by
  refine wMet RX8 rfl (by decide +kernel) (Nat.le_of_ble_eq_true rfl) (lv := [(0, .ref (ad o)), (1, .int (nI P))]) rfl ?_
  intro p e s m below meth c ls F hr hlocks hP hl
  have hS : va_S (wA ad N) s.heap s.heap [] := va_S.rf
  refine lv_iload_n F.1 F.2.1 dX8_passesPart_0 rfl (lv_at hl 1 rfl) ?_
  refine lv_aload_n F.1 F.2.1 dX8_passesPart_1 rfl (lv_at hl 0 rfl) ?_
  refine gf_X8_7 F hP (by omega) mW_o (v := .ref (ad (o + 1))) rfl dX8_passesPart_2 ?_
  refine lv_iload_n F.1 F.2.1 dX8_passesPart_5 rfl (lv_at hl 1 rfl) ?_
  refine lv_bipush (v := 10) F.1 F.2.1 dX8_passesPart_6 (by decide) ?_
  refine lv_iadd F.1 F.2.1 dX8_passesPart_8 ?_
  refine w_iald F hP (by omega) mW_s (k := P + 10) (ix_add (X := P) (Y := 10) (Z := P + 10) rfl rfl (by omega)) (by omega) (Nat.le_of_ble_eq_true rfl) (v := r 10) (put_at (k := 10) (by omega) (by omega)) dX8_passesPart_9 ?_
  refine w_calls F hP hS (c_X8_at l D Y ad N hI _ (nI P) (r 10)) (cwSm 2 F.2.2.2.2.1 (fun _ h => h) mw_226 mw_224 mw_225 mw_5 rfl rfl ydX8_at ⟨by decide, by decide⟩) rfl hl.1 rfl (Nat.le_of_ble_eq_true rfl) dX8_passesPart_10 ⟨Nat.zero_le _, Nat.zero_le _⟩ (fun rq1 Kq1 H locs hq1 hP hS => ?_)
  obtain ⟨hq1w, hq1r⟩ := hq1; rw [hq1w] at hP
  subst hq1r
  refine lv_istore_n (lv' := [(2, .int ((nI P) + 61 + 5 * (r 10))), (0, .ref (ad o)), (1, .int (nI P))]) F.1 F.2.1 dX8_passesPart_13 rfl hl (by decide) rfl (fun ls hl => ?_)
  refine lv_aload_n F.1 F.2.1 dX8_passesPart_14 rfl (lv_at hl 1 rfl) ?_
  refine gf_X8_7 F hP (by omega) mW_o (v := .ref (ad (o + 1))) rfl dX8_passesPart_15 ?_
  refine lv_iload_n F.1 F.2.1 dX8_passesPart_18 rfl (lv_at hl 0 rfl) ?_
  refine lv_iconst (v := 1) F.1 F.2.1 dX8_passesPart_19 (by decide) ?_
  refine lv_iadd F.1 F.2.1 dX8_passesPart_20 ?_
  refine w_iald F hP (by omega) mW_s (k := P + 61 + 5 * k + 1) (ix_add (X := P + 61 + 5 * k) (Y := 1) (Z := P + 61 + 5 * k + 1) (ix_add (X := P + 61) (Y := 5 * k) (Z := P + 61 + 5 * k) (ix_add (X := P) (Y := 61) (Z := P + 61) rfl rfl (by omega)) (ix_mul (X := 5) (Y := k) rfl hk10) (by omega)) rfl (by omega)) (by omega) (Nat.le_of_ble_eq_true rfl) (v := r (62 + 5 * k)) (put_at (k := (62 + 5 * k)) (by omega) (by omega)) dX8_passesPart_21 ?_
  refine lv_istore_n (lv' := [(3, .int (r (62 + 5 * k))), (2, .int ((nI P) + 61 + 5 * (r 10))), (0, .ref (ad o)), (1, .int (nI P))]) F.1 F.2.1 dX8_passesPart_22 rfl hl (by decide) rfl (fun ls hl => ?_)
  refine lv_aload_n F.1 F.2.1 dX8_passesPart_23 rfl (lv_at hl 2 rfl) ?_
  refine gf_X8_7 F hP (by omega) mW_o (v := .ref (ad (o + 1))) rfl dX8_passesPart_24 ?_
  refine lv_iload_n F.1 F.2.1 dX8_passesPart_27 rfl (lv_at hl 1 rfl) ?_
  refine w_iald F hP (by omega) mW_s (k := P + 61 + 5 * k) (ix_add (X := P + 61) (Y := 5 * k) (Z := P + 61 + 5 * k) (ix_add (X := P) (Y := 61) (Z := P + 61) rfl rfl (by omega)) (ix_mul (X := 5) (Y := k) rfl hk10) (by omega)) (by omega) (Nat.le_of_ble_eq_true rfl) (v := r (61 + 5 * k)) (put_at (k := (61 + 5 * k)) (by omega) (by omega)) dX8_passesPart_28 ?_
  refine lv_if_ne (tgt := 41) F.1 F.2.1 dX8_passesPart_29 (by decide) (fun c2 => ?_) (fun c2 => ?_)
  · refine lv_aload_n F.1 F.2.1 dX8_passesPart_41 rfl (lv_at hl 2 rfl) ?_
    refine gf_X8_7 F hP (by omega) mW_o (v := .ref (ad (o + 1))) rfl dX8_passesPart_42 ?_
    refine lv_iload_n F.1 F.2.1 dX8_passesPart_45 rfl (lv_at hl 1 rfl) ?_
    refine w_iald F hP (by omega) mW_s (k := P + 61 + 5 * k) (ix_add (X := P + 61) (Y := 5 * k) (Z := P + 61 + 5 * k) (ix_add (X := P) (Y := 61) (Z := P + 61) rfl rfl (by omega)) (ix_mul (X := 5) (Y := k) rfl hk10) (by omega)) (by omega) (Nat.le_of_ble_eq_true rfl) (v := r (61 + 5 * k)) (put_at (k := (61 + 5 * k)) (by omega) (by omega)) dX8_passesPart_46 ?_
    refine lv_iconst (v := 1) F.1 F.2.1 dX8_passesPart_47 (by decide) ?_
    refine lv_icmp_ne (tgt := 71) F.1 F.2.1 dX8_passesPart_48 (by decide) (fun c3 => ?_) (fun c3 => ?_)
    · refine lv_aload_n F.1 F.2.1 dX8_passesPart_71 rfl (lv_at hl 2 rfl) ?_
      refine gf_X8_7 F hP (by omega) mW_o (v := .ref (ad (o + 1))) rfl dX8_passesPart_72 ?_
      refine lv_iload_n F.1 F.2.1 dX8_passesPart_75 rfl (lv_at hl 3 rfl) ?_
      refine lv_bipush (v := 6) F.1 F.2.1 dX8_passesPart_76 (by decide) ?_
      refine lv_iadd F.1 F.2.1 dX8_passesPart_78 ?_
      refine w_iald F hP (by omega) mW_s (k := P + 6) (ix_add (X := P) (Y := 6) (Z := P + 6) rfl rfl (by omega)) (by omega) (Nat.le_of_ble_eq_true rfl) (v := r 6) (put_at (k := 6) (by omega) (by omega)) dX8_passesPart_79 ?_
      refine lv_aload_n F.1 F.2.1 dX8_passesPart_80 rfl (lv_at hl 2 rfl) ?_
      refine gf_X8_7 F hP (by omega) mW_o (v := .ref (ad (o + 1))) rfl dX8_passesPart_81 ?_
      refine lv_iload_n F.1 F.2.1 dX8_passesPart_84 rfl (lv_at hl 3 rfl) ?_
      refine lv_bipush (v := 9) F.1 F.2.1 dX8_passesPart_85 (by decide) ?_
      refine lv_iadd F.1 F.2.1 dX8_passesPart_87 ?_
      refine w_iald F hP (by omega) mW_s (k := P + 9) (ix_add (X := P) (Y := 9) (Z := P + 9) rfl rfl (by omega)) (by omega) (Nat.le_of_ble_eq_true rfl) (v := r 9) (put_at (k := 9) (by omega) (by omega)) dX8_passesPart_88 ?_
      refine lv_iconst (v := 4) F.1 F.2.1 dX8_passesPart_89 (by decide) ?_
      refine lv_idiv F.1 F.2.1 dX8_passesPart_90 (by decide) ?_
      refine lv_iadd F.1 F.2.1 dX8_passesPart_91 ?_
      refine lv_iload_n F.1 F.2.1 dX8_passesPart_92 rfl (lv_at hl 0 rfl) ?_
      refine lv_icmp_le (tgt := 98) F.1 F.2.1 dX8_passesPart_93 (by decide) (fun c4 => ?_) (fun c4 => ?_)
      · refine lv_aload_n F.1 F.2.1 dX8_passesPart_98 rfl (lv_at hl 2 rfl) ?_
        refine gf_X8_7 F hP (by omega) mW_o (v := .ref (ad (o + 1))) rfl dX8_passesPart_99 ?_
        refine lv_iload_n F.1 F.2.1 dX8_passesPart_102 rfl (lv_at hl 3 rfl) ?_
        refine lv_bipush (v := 8) F.1 F.2.1 dX8_passesPart_103 (by decide) ?_
        refine lv_iadd F.1 F.2.1 dX8_passesPart_105 ?_
        refine w_iald F hP (by omega) mW_s (k := P + 8) (ix_add (X := P) (Y := 8) (Z := P + 8) rfl rfl (by omega)) (by omega) (Nat.le_of_ble_eq_true rfl) (v := r 8) (put_at (k := 8) (by omega) (by omega)) dX8_passesPart_106 ?_
        refine w_calls F hP hS (c_X8_size l D Y ad N hI _ (r 8)) (cwSm 1 F.2.2.2.2.1 (fun _ h => h) mw_384 mw_382 mw_383 mw_5 rfl rfl ydX8_size ⟨by decide, by decide⟩) rfl hl.1 rfl (Nat.le_of_ble_eq_true rfl) dX8_passesPart_107 ⟨Nat.zero_le _, Nat.zero_le _⟩ (fun rq5 Kq5 H locs hq5 hP hS => ?_)
        obtain ⟨hq5w, hq5r⟩ := hq5; rw [hq5w] at hP
        subst hq5r
        refine lv_istore (lv' := [(4, .int (iabs (r 8))), (3, .int (r (62 + 5 * k))), (2, .int ((nI P) + 61 + 5 * (r 10))), (0, .ref (ad o)), (1, .int (nI P))]) F.1 F.2.1 dX8_passesPart_110 hl (by decide) rfl (fun ls hl => ?_)
        refine lv_aload_n F.1 F.2.1 dX8_passesPart_112 rfl (lv_at hl 3 rfl) ?_
        refine lv_iload F.1 F.2.1 dX8_passesPart_113 (lv_at hl 0 rfl) ?_
        refine lv_aload_n F.1 F.2.1 dX8_passesPart_115 rfl (lv_at hl 3 rfl) ?_
        refine gf_X8_52 F hP (by omega) mW_o (v := .int (gr)) rfl dX8_passesPart_116 ?_
        refine lv_icmp_le (tgt := 127) F.1 F.2.1 dX8_passesPart_119 (by decide) (fun c6 => ?_) (fun c6 => ?_)
        · refine lv_aload_n F.1 F.2.1 dX8_passesPart_127 rfl (lv_at hl 3 rfl) ?_
          refine gf_X8_52 F hP (by omega) mW_o (v := .int (gr)) rfl dX8_passesPart_128 ?_
          refine pf_X8_52 F hI hP hS (by omega) mW_o (Nat.le_of_ble_eq_true rfl) (C1 := mW Y ad C o kn n gr P r s0) (fun q => congrFun mW_updo q) dX8_passesPart_131 (fun H locs hP hS => ?_)
          refine lv_iload F.1 F.2.1 dX8_passesPart_134 (lv_at hl 0 rfl) ?_
          refine lv_aload_n F.1 F.2.1 dX8_passesPart_136 rfl (lv_at hl 3 rfl) ?_
          refine gf_X8_7 F hP (by omega) mW_o (v := .ref (ad (o + 1))) rfl dX8_passesPart_137 ?_
          refine lv_iload_n F.1 F.2.1 dX8_passesPart_140 rfl (lv_at hl 4 rfl) ?_
          refine lv_iconst (v := 0) F.1 F.2.1 dX8_passesPart_141 (by decide) ?_
          refine lv_iadd F.1 F.2.1 dX8_passesPart_142 ?_
          refine w_iald F hP (by omega) mW_s (k := P + 0) (ix_add (X := P) (Y := 0) (Z := P + 0) rfl rfl (by omega)) (by omega) (Nat.le_of_ble_eq_true rfl) (v := r 0) (put_at (k := 0) (by omega) (by omega)) dX8_passesPart_143 ?_
          refine lv_icmp_lt (tgt := 149) F.1 F.2.1 dX8_passesPart_144 (by decide) (fun c7 => ?_) (fun c7 => ?_)
          · refine lv_aload_n F.1 F.2.1 dX8_passesPart_149 rfl (lv_at hl 3 rfl) ?_
            refine gf_X8_7 F hP (by omega) mW_o (v := .ref (ad (o + 1))) rfl dX8_passesPart_150 ?_
            refine lv_iload_n F.1 F.2.1 dX8_passesPart_153 rfl (lv_at hl 4 rfl) ?_
            refine lv_bipush (v := 10) F.1 F.2.1 dX8_passesPart_154 (by decide) ?_
            refine lv_iadd F.1 F.2.1 dX8_passesPart_156 ?_
            refine lv_dup2_11 F.1 F.2.1 dX8_passesPart_157 rfl rfl ?_
            refine w_iald F hP (by omega) mW_s (k := P + 10) (ix_add (X := P) (Y := 10) (Z := P + 10) rfl rfl (by omega)) (by omega) (Nat.le_of_ble_eq_true rfl) (v := r 10) (put_at (k := 10) (by omega) (by omega)) dX8_passesPart_158 ?_
            refine lv_iconst (v := 1) F.1 F.2.1 dX8_passesPart_159 (by decide) ?_
            refine lv_iadd F.1 F.2.1 dX8_passesPart_160 ?_
            refine lv_topi (fun v8 ev8 => ?_)
            refine w_iast F hI hP hS (by omega) mW_s (k := P + 10) (ix_add (X := P) (Y := 10) (Z := P + 10) rfl rfl (by omega)) (by omega) (Nat.le_of_ble_eq_true rfl) (C1 := mW Y ad C o kn n gr P (upd r 10 v8) s0) (fun q => congrFun (mW_upds (k := 10) (by omega) (by omega)) q) dX8_passesPart_161 (fun H locs hP hS => ?_)
            refine lv_iconst (v := 0) F.1 F.2.1 dX8_passesPart_162 (by decide) ?_
            exact w_iret F hr hlocks hP hS dX8_passesPart_163 (by have hm := (show T_meet k r = (r, 0) from (if_neg c2).trans ((if_neg c3).trans (congrArg (Prod.mk _) (if_neg (i_nlt c4))))); unfold T_pass; rw [hm, if_pos (show ((r, (0 : Int32)) : (Nat → Int32) × Int32).2 = 0 from rfl)]; have hg := show (if gr < iabs (r 8) then iabs (r 8) else gr) = _ from if_neg (i_nlt c6); rw [if_neg (show ¬ r 0 ≤ iabs (r 8) from i_nle c7), hg, ← ev8]; exact ⟨rfl, rfl⟩)
          · refine lv_iconst (v := 1) F.1 F.2.1 dX8_passesPart_147 (by decide) ?_
            exact w_iret F hr hlocks hP hS dX8_passesPart_148 (by have hm := (show T_meet k r = (r, 0) from (if_neg c2).trans ((if_neg c3).trans (congrArg (Prod.mk _) (if_neg (i_nlt c4))))); unfold T_pass; rw [hm, if_pos (show ((r, (0 : Int32)) : (Nat → Int32) × Int32).2 = 0 from rfl)]; have hg := show (if gr < iabs (r 8) then iabs (r 8) else gr) = _ from if_neg (i_nlt c6); rw [if_pos (show r 0 ≤ iabs (r 8) from i_le c7), hg]; exact ⟨rfl, rfl⟩)
        · refine lv_iload F.1 F.2.1 dX8_passesPart_122 (lv_at hl 0 rfl) ?_
          refine lv_goto (tgt := 131) F.1 F.2.1 dX8_passesPart_124 (by decide) ?_
          refine lv_topi (fun v9 ev9 => ?_)
          refine pf_X8_52 F hI hP hS (by omega) mW_o (Nat.le_of_ble_eq_true rfl) (C1 := mW Y ad C o kn n v9 P r s0) (fun q => congrFun mW_updo q) dX8_passesPart_131 (fun H locs hP hS => ?_)
          refine lv_iload F.1 F.2.1 dX8_passesPart_134 (lv_at hl 0 rfl) ?_
          refine lv_aload_n F.1 F.2.1 dX8_passesPart_136 rfl (lv_at hl 3 rfl) ?_
          refine gf_X8_7 F hP (by omega) mW_o (v := .ref (ad (o + 1))) rfl dX8_passesPart_137 ?_
          refine lv_iload_n F.1 F.2.1 dX8_passesPart_140 rfl (lv_at hl 4 rfl) ?_
          refine lv_iconst (v := 0) F.1 F.2.1 dX8_passesPart_141 (by decide) ?_
          refine lv_iadd F.1 F.2.1 dX8_passesPart_142 ?_
          refine w_iald F hP (by omega) mW_s (k := P + 0) (ix_add (X := P) (Y := 0) (Z := P + 0) rfl rfl (by omega)) (by omega) (Nat.le_of_ble_eq_true rfl) (v := r 0) (put_at (k := 0) (by omega) (by omega)) dX8_passesPart_143 ?_
          refine lv_icmp_lt (tgt := 149) F.1 F.2.1 dX8_passesPart_144 (by decide) (fun c10 => ?_) (fun c10 => ?_)
          · refine lv_aload_n F.1 F.2.1 dX8_passesPart_149 rfl (lv_at hl 3 rfl) ?_
            refine gf_X8_7 F hP (by omega) mW_o (v := .ref (ad (o + 1))) rfl dX8_passesPart_150 ?_
            refine lv_iload_n F.1 F.2.1 dX8_passesPart_153 rfl (lv_at hl 4 rfl) ?_
            refine lv_bipush (v := 10) F.1 F.2.1 dX8_passesPart_154 (by decide) ?_
            refine lv_iadd F.1 F.2.1 dX8_passesPart_156 ?_
            refine lv_dup2_11 F.1 F.2.1 dX8_passesPart_157 rfl rfl ?_
            refine w_iald F hP (by omega) mW_s (k := P + 10) (ix_add (X := P) (Y := 10) (Z := P + 10) rfl rfl (by omega)) (by omega) (Nat.le_of_ble_eq_true rfl) (v := r 10) (put_at (k := 10) (by omega) (by omega)) dX8_passesPart_158 ?_
            refine lv_iconst (v := 1) F.1 F.2.1 dX8_passesPart_159 (by decide) ?_
            refine lv_iadd F.1 F.2.1 dX8_passesPart_160 ?_
            refine lv_topi (fun v11 ev11 => ?_)
            refine w_iast F hI hP hS (by omega) mW_s (k := P + 10) (ix_add (X := P) (Y := 10) (Z := P + 10) rfl rfl (by omega)) (by omega) (Nat.le_of_ble_eq_true rfl) (C1 := mW Y ad C o kn n v9 P (upd r 10 v11) s0) (fun q => congrFun (mW_upds (k := 10) (by omega) (by omega)) q) dX8_passesPart_161 (fun H locs hP hS => ?_)
            refine lv_iconst (v := 0) F.1 F.2.1 dX8_passesPart_162 (by decide) ?_
            exact w_iret F hr hlocks hP hS dX8_passesPart_163 (by have hm := (show T_meet k r = (r, 0) from (if_neg c2).trans ((if_neg c3).trans (congrArg (Prod.mk _) (if_neg (i_nlt c4))))); unfold T_pass; rw [hm, if_pos (show ((r, (0 : Int32)) : (Nat → Int32) × Int32).2 = 0 from rfl)]; have hg := show (if gr < iabs (r 8) then iabs (r 8) else gr) = _ from (if_pos (i_lt c6)).trans ev9.symm; rw [if_neg (show ¬ r 0 ≤ iabs (r 8) from i_nle c10), hg, ← ev11]; exact ⟨rfl, rfl⟩)
          · refine lv_iconst (v := 1) F.1 F.2.1 dX8_passesPart_147 (by decide) ?_
            exact w_iret F hr hlocks hP hS dX8_passesPart_148 (by have hm := (show T_meet k r = (r, 0) from (if_neg c2).trans ((if_neg c3).trans (congrArg (Prod.mk _) (if_neg (i_nlt c4))))); unfold T_pass; rw [hm, if_pos (show ((r, (0 : Int32)) : (Nat → Int32) × Int32).2 = 0 from rfl)]; have hg := show (if gr < iabs (r 8) then iabs (r 8) else gr) = _ from (if_pos (i_lt c6)).trans ev9.symm; rw [if_pos (show r 0 ≤ iabs (r 8) from i_le c10), hg]; exact ⟨rfl, rfl⟩)
      · refine lv_iconst (v := 2) F.1 F.2.1 dX8_passesPart_96 (by decide) ?_
        exact w_iret F hr hlocks hP hS dX8_passesPart_97 (by have hm := (show T_meet k r = (r, 2) from (if_neg c2).trans ((if_neg c3).trans (congrArg (Prod.mk _) (if_pos (i_lt c4))))); unfold T_pass; rw [hm, if_neg (show ¬ ((r, (2 : Int32)) : (Nat → Int32) × Int32).2 = 0 from (show ¬ (2 : Int32) = 0 by decide))]; exact ⟨rfl, rfl⟩)
    · refine lv_aload_n F.1 F.2.1 dX8_passesPart_51 rfl (lv_at hl 2 rfl) ?_
      refine lv_iload_n F.1 F.2.1 dX8_passesPart_52 rfl (lv_at hl 3 rfl) ?_
      refine lv_iload_n F.1 F.2.1 dX8_passesPart_53 rfl (lv_at hl 0 rfl) ?_
      refine w_callv F hP hS (c_X8_lands l D Y ad N hI C o hh kn n gr P hP0 r s0 v (by omega) (r (62 + 5 * k)) ev) (cwVm 2 F.2.2.2.2.1 (fun _ h => h) mw_381 mw_378 mw_379 mw_380 mw_5 rfl rfl ydX8_lands ⟨by decide, by decide⟩) (by omega) mW_o rfl rfl hl.1 rfl (Nat.le_of_ble_eq_true rfl) dX8_passesPart_54 ⟨Nat.zero_le _, Nat.zero_le _⟩ (fun Kq12 H locs hq12 hP hS => ?_)
      subst hq12
      refine lv_aload_n F.1 F.2.1 dX8_passesPart_57 rfl (lv_at hl 2 rfl) ?_
      refine gf_X8_7 F hP (by omega) mW_o (v := .ref (ad (o + 1))) rfl dX8_passesPart_58 ?_
      refine lv_iload_n F.1 F.2.1 dX8_passesPart_61 rfl (lv_at hl 3 rfl) ?_
      refine lv_bipush (v := 7) F.1 F.2.1 dX8_passesPart_62 (by decide) ?_
      refine lv_iadd F.1 F.2.1 dX8_passesPart_64 ?_
      refine w_iald F hP (by omega) mW_s (k := P + 7) (ix_add (X := P) (Y := 7) (Z := P + 7) rfl rfl (by omega)) (by omega) (Nat.le_of_ble_eq_true rfl) (v := (T_lands v r) 7) (put_at (k := 7) (by omega) (by omega)) dX8_passesPart_65 ?_
      refine lv_if_ne (tgt := 98) F.1 F.2.1 dX8_passesPart_66 (by decide) (fun c13 => ?_) (fun c13 => ?_)
      · refine lv_aload_n F.1 F.2.1 dX8_passesPart_98 rfl (lv_at hl 2 rfl) ?_
        refine gf_X8_7 F hP (by omega) mW_o (v := .ref (ad (o + 1))) rfl dX8_passesPart_99 ?_
        refine lv_iload_n F.1 F.2.1 dX8_passesPart_102 rfl (lv_at hl 3 rfl) ?_
        refine lv_bipush (v := 8) F.1 F.2.1 dX8_passesPart_103 (by decide) ?_
        refine lv_iadd F.1 F.2.1 dX8_passesPart_105 ?_
        refine w_iald F hP (by omega) mW_s (k := P + 8) (ix_add (X := P) (Y := 8) (Z := P + 8) rfl rfl (by omega)) (by omega) (Nat.le_of_ble_eq_true rfl) (v := (T_lands v r) 8) (put_at (k := 8) (by omega) (by omega)) dX8_passesPart_106 ?_
        refine w_calls F hP hS (c_X8_size l D Y ad N hI _ ((T_lands v r) 8)) (cwSm 1 F.2.2.2.2.1 (fun _ h => h) mw_384 mw_382 mw_383 mw_5 rfl rfl ydX8_size ⟨by decide, by decide⟩) rfl hl.1 rfl (Nat.le_of_ble_eq_true rfl) dX8_passesPart_107 ⟨Nat.zero_le _, Nat.zero_le _⟩ (fun rq14 Kq14 H locs hq14 hP hS => ?_)
        obtain ⟨hq14w, hq14r⟩ := hq14; rw [hq14w] at hP
        subst hq14r
        refine lv_istore (lv' := [(4, .int (iabs ((T_lands v r) 8))), (3, .int (r (62 + 5 * k))), (2, .int ((nI P) + 61 + 5 * (r 10))), (0, .ref (ad o)), (1, .int (nI P))]) F.1 F.2.1 dX8_passesPart_110 hl (by decide) rfl (fun ls hl => ?_)
        refine lv_aload_n F.1 F.2.1 dX8_passesPart_112 rfl (lv_at hl 3 rfl) ?_
        refine lv_iload F.1 F.2.1 dX8_passesPart_113 (lv_at hl 0 rfl) ?_
        refine lv_aload_n F.1 F.2.1 dX8_passesPart_115 rfl (lv_at hl 3 rfl) ?_
        refine gf_X8_52 F hP (by omega) mW_o (v := .int (gr)) rfl dX8_passesPart_116 ?_
        refine lv_icmp_le (tgt := 127) F.1 F.2.1 dX8_passesPart_119 (by decide) (fun c15 => ?_) (fun c15 => ?_)
        · refine lv_aload_n F.1 F.2.1 dX8_passesPart_127 rfl (lv_at hl 3 rfl) ?_
          refine gf_X8_52 F hP (by omega) mW_o (v := .int (gr)) rfl dX8_passesPart_128 ?_
          refine pf_X8_52 F hI hP hS (by omega) mW_o (Nat.le_of_ble_eq_true rfl) (C1 := mW Y ad C o kn n gr P (T_lands v r) s0) (fun q => congrFun mW_updo q) dX8_passesPart_131 (fun H locs hP hS => ?_)
          refine lv_iload F.1 F.2.1 dX8_passesPart_134 (lv_at hl 0 rfl) ?_
          refine lv_aload_n F.1 F.2.1 dX8_passesPart_136 rfl (lv_at hl 3 rfl) ?_
          refine gf_X8_7 F hP (by omega) mW_o (v := .ref (ad (o + 1))) rfl dX8_passesPart_137 ?_
          refine lv_iload_n F.1 F.2.1 dX8_passesPart_140 rfl (lv_at hl 4 rfl) ?_
          refine lv_iconst (v := 0) F.1 F.2.1 dX8_passesPart_141 (by decide) ?_
          refine lv_iadd F.1 F.2.1 dX8_passesPart_142 ?_
          refine w_iald F hP (by omega) mW_s (k := P + 0) (ix_add (X := P) (Y := 0) (Z := P + 0) rfl rfl (by omega)) (by omega) (Nat.le_of_ble_eq_true rfl) (v := r 0) ((put_at (k := 0) (by omega) (by omega)).trans (Eq.trans (show _ = (T_lands v r) 0 from rfl) (T_lands_fr v (by decide) (by decide) (by decide)))) dX8_passesPart_143 ?_
          refine lv_icmp_lt (tgt := 149) F.1 F.2.1 dX8_passesPart_144 (by decide) (fun c16 => ?_) (fun c16 => ?_)
          · refine lv_aload_n F.1 F.2.1 dX8_passesPart_149 rfl (lv_at hl 3 rfl) ?_
            refine gf_X8_7 F hP (by omega) mW_o (v := .ref (ad (o + 1))) rfl dX8_passesPart_150 ?_
            refine lv_iload_n F.1 F.2.1 dX8_passesPart_153 rfl (lv_at hl 4 rfl) ?_
            refine lv_bipush (v := 10) F.1 F.2.1 dX8_passesPart_154 (by decide) ?_
            refine lv_iadd F.1 F.2.1 dX8_passesPart_156 ?_
            refine lv_dup2_11 F.1 F.2.1 dX8_passesPart_157 rfl rfl ?_
            refine w_iald F hP (by omega) mW_s (k := P + 10) (ix_add (X := P) (Y := 10) (Z := P + 10) rfl rfl (by omega)) (by omega) (Nat.le_of_ble_eq_true rfl) (v := r 10) ((put_at (k := 10) (by omega) (by omega)).trans (Eq.trans (show _ = (T_lands v r) 10 from rfl) (T_lands_fr v (by decide) (by decide) (by decide)))) dX8_passesPart_158 ?_
            refine lv_iconst (v := 1) F.1 F.2.1 dX8_passesPart_159 (by decide) ?_
            refine lv_iadd F.1 F.2.1 dX8_passesPart_160 ?_
            refine lv_topi (fun v17 ev17 => ?_)
            refine w_iast F hI hP hS (by omega) mW_s (k := P + 10) (ix_add (X := P) (Y := 10) (Z := P + 10) rfl rfl (by omega)) (by omega) (Nat.le_of_ble_eq_true rfl) (C1 := mW Y ad C o kn n gr P (upd (T_lands v r) 10 v17) s0) (fun q => congrFun (mW_upds (k := 10) (by omega) (by omega)) q) dX8_passesPart_161 (fun H locs hP hS => ?_)
            refine lv_iconst (v := 0) F.1 F.2.1 dX8_passesPart_162 (by decide) ?_
            exact w_iret F hr hlocks hP hS dX8_passesPart_163 (by have hm := (show T_meet k r = (T_lands v r, 0) from (if_neg c2).trans ((if_pos c3).trans (by unfold valAt; rw [evc]; exact congrArg (Prod.mk _) (if_neg c13)))); unfold T_pass; rw [hm, if_pos (show ((T_lands v r, (0 : Int32)) : (Nat → Int32) × Int32).2 = 0 from rfl)]; have hg := show (if gr < iabs ((T_lands v r) 8) then iabs ((T_lands v r) 8) else gr) = _ from if_neg (i_nlt c15); rw [if_neg (show ¬ r 0 ≤ iabs ((T_lands v r) 8) from i_nle c16), hg, ← ev17]; exact ⟨rfl, rfl⟩)
          · refine lv_iconst (v := 1) F.1 F.2.1 dX8_passesPart_147 (by decide) ?_
            exact w_iret F hr hlocks hP hS dX8_passesPart_148 (by have hm := (show T_meet k r = (T_lands v r, 0) from (if_neg c2).trans ((if_pos c3).trans (by unfold valAt; rw [evc]; exact congrArg (Prod.mk _) (if_neg c13)))); unfold T_pass; rw [hm, if_pos (show ((T_lands v r, (0 : Int32)) : (Nat → Int32) × Int32).2 = 0 from rfl)]; have hg := show (if gr < iabs ((T_lands v r) 8) then iabs ((T_lands v r) 8) else gr) = _ from if_neg (i_nlt c15); rw [if_pos (show r 0 ≤ iabs ((T_lands v r) 8) from i_le c16), hg]; exact ⟨rfl, rfl⟩)
        · refine lv_iload F.1 F.2.1 dX8_passesPart_122 (lv_at hl 0 rfl) ?_
          refine lv_goto (tgt := 131) F.1 F.2.1 dX8_passesPart_124 (by decide) ?_
          refine lv_topi (fun v18 ev18 => ?_)
          refine pf_X8_52 F hI hP hS (by omega) mW_o (Nat.le_of_ble_eq_true rfl) (C1 := mW Y ad C o kn n v18 P (T_lands v r) s0) (fun q => congrFun mW_updo q) dX8_passesPart_131 (fun H locs hP hS => ?_)
          refine lv_iload F.1 F.2.1 dX8_passesPart_134 (lv_at hl 0 rfl) ?_
          refine lv_aload_n F.1 F.2.1 dX8_passesPart_136 rfl (lv_at hl 3 rfl) ?_
          refine gf_X8_7 F hP (by omega) mW_o (v := .ref (ad (o + 1))) rfl dX8_passesPart_137 ?_
          refine lv_iload_n F.1 F.2.1 dX8_passesPart_140 rfl (lv_at hl 4 rfl) ?_
          refine lv_iconst (v := 0) F.1 F.2.1 dX8_passesPart_141 (by decide) ?_
          refine lv_iadd F.1 F.2.1 dX8_passesPart_142 ?_
          refine w_iald F hP (by omega) mW_s (k := P + 0) (ix_add (X := P) (Y := 0) (Z := P + 0) rfl rfl (by omega)) (by omega) (Nat.le_of_ble_eq_true rfl) (v := r 0) ((put_at (k := 0) (by omega) (by omega)).trans (Eq.trans (show _ = (T_lands v r) 0 from rfl) (T_lands_fr v (by decide) (by decide) (by decide)))) dX8_passesPart_143 ?_
          refine lv_icmp_lt (tgt := 149) F.1 F.2.1 dX8_passesPart_144 (by decide) (fun c19 => ?_) (fun c19 => ?_)
          · refine lv_aload_n F.1 F.2.1 dX8_passesPart_149 rfl (lv_at hl 3 rfl) ?_
            refine gf_X8_7 F hP (by omega) mW_o (v := .ref (ad (o + 1))) rfl dX8_passesPart_150 ?_
            refine lv_iload_n F.1 F.2.1 dX8_passesPart_153 rfl (lv_at hl 4 rfl) ?_
            refine lv_bipush (v := 10) F.1 F.2.1 dX8_passesPart_154 (by decide) ?_
            refine lv_iadd F.1 F.2.1 dX8_passesPart_156 ?_
            refine lv_dup2_11 F.1 F.2.1 dX8_passesPart_157 rfl rfl ?_
            refine w_iald F hP (by omega) mW_s (k := P + 10) (ix_add (X := P) (Y := 10) (Z := P + 10) rfl rfl (by omega)) (by omega) (Nat.le_of_ble_eq_true rfl) (v := r 10) ((put_at (k := 10) (by omega) (by omega)).trans (Eq.trans (show _ = (T_lands v r) 10 from rfl) (T_lands_fr v (by decide) (by decide) (by decide)))) dX8_passesPart_158 ?_
            refine lv_iconst (v := 1) F.1 F.2.1 dX8_passesPart_159 (by decide) ?_
            refine lv_iadd F.1 F.2.1 dX8_passesPart_160 ?_
            refine lv_topi (fun v20 ev20 => ?_)
            refine w_iast F hI hP hS (by omega) mW_s (k := P + 10) (ix_add (X := P) (Y := 10) (Z := P + 10) rfl rfl (by omega)) (by omega) (Nat.le_of_ble_eq_true rfl) (C1 := mW Y ad C o kn n v18 P (upd (T_lands v r) 10 v20) s0) (fun q => congrFun (mW_upds (k := 10) (by omega) (by omega)) q) dX8_passesPart_161 (fun H locs hP hS => ?_)
            refine lv_iconst (v := 0) F.1 F.2.1 dX8_passesPart_162 (by decide) ?_
            exact w_iret F hr hlocks hP hS dX8_passesPart_163 (by have hm := (show T_meet k r = (T_lands v r, 0) from (if_neg c2).trans ((if_pos c3).trans (by unfold valAt; rw [evc]; exact congrArg (Prod.mk _) (if_neg c13)))); unfold T_pass; rw [hm, if_pos (show ((T_lands v r, (0 : Int32)) : (Nat → Int32) × Int32).2 = 0 from rfl)]; have hg := show (if gr < iabs ((T_lands v r) 8) then iabs ((T_lands v r) 8) else gr) = _ from (if_pos (i_lt c15)).trans ev18.symm; rw [if_neg (show ¬ r 0 ≤ iabs ((T_lands v r) 8) from i_nle c19), hg, ← ev20]; exact ⟨rfl, rfl⟩)
          · refine lv_iconst (v := 1) F.1 F.2.1 dX8_passesPart_147 (by decide) ?_
            exact w_iret F hr hlocks hP hS dX8_passesPart_148 (by have hm := (show T_meet k r = (T_lands v r, 0) from (if_neg c2).trans ((if_pos c3).trans (by unfold valAt; rw [evc]; exact congrArg (Prod.mk _) (if_neg c13)))); unfold T_pass; rw [hm, if_pos (show ((T_lands v r, (0 : Int32)) : (Nat → Int32) × Int32).2 = 0 from rfl)]; have hg := show (if gr < iabs ((T_lands v r) 8) then iabs ((T_lands v r) 8) else gr) = _ from (if_pos (i_lt c15)).trans ev18.symm; rw [if_pos (show r 0 ≤ iabs ((T_lands v r) 8) from i_le c19), hg]; exact ⟨rfl, rfl⟩)
      · refine lv_iconst (v := 3) F.1 F.2.1 dX8_passesPart_69 (by decide) ?_
        exact w_iret F hr hlocks hP hS dX8_passesPart_70 (by have hm := (show T_meet k r = (T_lands v r, 3) from (if_neg c2).trans ((if_pos c3).trans (by unfold valAt; rw [evc]; exact congrArg (Prod.mk _) (if_pos c13)))); unfold T_pass; rw [hm, if_neg (show ¬ ((T_lands v r, (3 : Int32)) : (Nat → Int32) × Int32).2 = 0 from (show ¬ (3 : Int32) = 0 by decide))]; exact ⟨rfl, rfl⟩)
  · refine lv_aload_n F.1 F.2.1 dX8_passesPart_32 rfl (lv_at hl 2 rfl) ?_
    refine lv_iload_n F.1 F.2.1 dX8_passesPart_33 rfl (lv_at hl 3 rfl) ?_
    refine lv_iload_n F.1 F.2.1 dX8_passesPart_34 rfl (lv_at hl 0 rfl) ?_
    refine w_callv F hP hS (c_X8_drops l D Y ad N hI C o hh kn n gr P hP0 r s0 (r (62 + 5 * k))) (cwVm 2 F.2.2.2.2.1 (fun _ h => h) mw_374 mw_371 mw_372 mw_373 mw_5 rfl rfl ydX8_drops ⟨by decide, by decide⟩) (by omega) mW_o rfl rfl hl.1 rfl (Nat.le_of_ble_eq_true rfl) dX8_passesPart_35 ⟨Nat.zero_le _, Nat.zero_le _⟩ (fun Kq21 H locs hq21 hP hS => ?_)
    subst hq21
    refine lv_goto (tgt := 98) F.1 F.2.1 dX8_passesPart_38 (by decide) ?_
    refine lv_aload_n F.1 F.2.1 dX8_passesPart_98 rfl (lv_at hl 2 rfl) ?_
    refine gf_X8_7 F hP (by omega) mW_o (v := .ref (ad (o + 1))) rfl dX8_passesPart_99 ?_
    refine lv_iload_n F.1 F.2.1 dX8_passesPart_102 rfl (lv_at hl 3 rfl) ?_
    refine lv_bipush (v := 8) F.1 F.2.1 dX8_passesPart_103 (by decide) ?_
    refine lv_iadd F.1 F.2.1 dX8_passesPart_105 ?_
    refine w_iald F hP (by omega) mW_s (k := P + 8) (ix_add (X := P) (Y := 8) (Z := P + 8) rfl rfl (by omega)) (by omega) (Nat.le_of_ble_eq_true rfl) (v := (T_drop (r (62 + 5 * k)) r) 8) (put_at (k := 8) (by omega) (by omega)) dX8_passesPart_106 ?_
    refine w_calls F hP hS (c_X8_size l D Y ad N hI _ ((T_drop (r (62 + 5 * k)) r) 8)) (cwSm 1 F.2.2.2.2.1 (fun _ h => h) mw_384 mw_382 mw_383 mw_5 rfl rfl ydX8_size ⟨by decide, by decide⟩) rfl hl.1 rfl (Nat.le_of_ble_eq_true rfl) dX8_passesPart_107 ⟨Nat.zero_le _, Nat.zero_le _⟩ (fun rq22 Kq22 H locs hq22 hP hS => ?_)
    obtain ⟨hq22w, hq22r⟩ := hq22; rw [hq22w] at hP
    subst hq22r
    refine lv_istore (lv' := [(4, .int (iabs ((T_drop (r (62 + 5 * k)) r) 8))), (3, .int (r (62 + 5 * k))), (2, .int ((nI P) + 61 + 5 * (r 10))), (0, .ref (ad o)), (1, .int (nI P))]) F.1 F.2.1 dX8_passesPart_110 hl (by decide) rfl (fun ls hl => ?_)
    refine lv_aload_n F.1 F.2.1 dX8_passesPart_112 rfl (lv_at hl 3 rfl) ?_
    refine lv_iload F.1 F.2.1 dX8_passesPart_113 (lv_at hl 0 rfl) ?_
    refine lv_aload_n F.1 F.2.1 dX8_passesPart_115 rfl (lv_at hl 3 rfl) ?_
    refine gf_X8_52 F hP (by omega) mW_o (v := .int (gr)) rfl dX8_passesPart_116 ?_
    refine lv_icmp_le (tgt := 127) F.1 F.2.1 dX8_passesPart_119 (by decide) (fun c23 => ?_) (fun c23 => ?_)
    · refine lv_aload_n F.1 F.2.1 dX8_passesPart_127 rfl (lv_at hl 3 rfl) ?_
      refine gf_X8_52 F hP (by omega) mW_o (v := .int (gr)) rfl dX8_passesPart_128 ?_
      refine pf_X8_52 F hI hP hS (by omega) mW_o (Nat.le_of_ble_eq_true rfl) (C1 := mW Y ad C o kn n gr P (T_drop (r (62 + 5 * k)) r) s0) (fun q => congrFun mW_updo q) dX8_passesPart_131 (fun H locs hP hS => ?_)
      refine lv_iload F.1 F.2.1 dX8_passesPart_134 (lv_at hl 0 rfl) ?_
      refine lv_aload_n F.1 F.2.1 dX8_passesPart_136 rfl (lv_at hl 3 rfl) ?_
      refine gf_X8_7 F hP (by omega) mW_o (v := .ref (ad (o + 1))) rfl dX8_passesPart_137 ?_
      refine lv_iload_n F.1 F.2.1 dX8_passesPart_140 rfl (lv_at hl 4 rfl) ?_
      refine lv_iconst (v := 0) F.1 F.2.1 dX8_passesPart_141 (by decide) ?_
      refine lv_iadd F.1 F.2.1 dX8_passesPart_142 ?_
      refine w_iald F hP (by omega) mW_s (k := P + 0) (ix_add (X := P) (Y := 0) (Z := P + 0) rfl rfl (by omega)) (by omega) (Nat.le_of_ble_eq_true rfl) (v := r 0) ((put_at (k := 0) (by omega) (by omega)).trans (Eq.trans (show _ = (T_drop (r (62 + 5 * k)) r) 0 from rfl) (T_drop_fr (by decide) (by decide) (by decide)))) dX8_passesPart_143 ?_
      refine lv_icmp_lt (tgt := 149) F.1 F.2.1 dX8_passesPart_144 (by decide) (fun c24 => ?_) (fun c24 => ?_)
      · refine lv_aload_n F.1 F.2.1 dX8_passesPart_149 rfl (lv_at hl 3 rfl) ?_
        refine gf_X8_7 F hP (by omega) mW_o (v := .ref (ad (o + 1))) rfl dX8_passesPart_150 ?_
        refine lv_iload_n F.1 F.2.1 dX8_passesPart_153 rfl (lv_at hl 4 rfl) ?_
        refine lv_bipush (v := 10) F.1 F.2.1 dX8_passesPart_154 (by decide) ?_
        refine lv_iadd F.1 F.2.1 dX8_passesPart_156 ?_
        refine lv_dup2_11 F.1 F.2.1 dX8_passesPart_157 rfl rfl ?_
        refine w_iald F hP (by omega) mW_s (k := P + 10) (ix_add (X := P) (Y := 10) (Z := P + 10) rfl rfl (by omega)) (by omega) (Nat.le_of_ble_eq_true rfl) (v := r 10) ((put_at (k := 10) (by omega) (by omega)).trans (Eq.trans (show _ = (T_drop (r (62 + 5 * k)) r) 10 from rfl) (T_drop_fr (by decide) (by decide) (by decide)))) dX8_passesPart_158 ?_
        refine lv_iconst (v := 1) F.1 F.2.1 dX8_passesPart_159 (by decide) ?_
        refine lv_iadd F.1 F.2.1 dX8_passesPart_160 ?_
        refine lv_topi (fun v25 ev25 => ?_)
        refine w_iast F hI hP hS (by omega) mW_s (k := P + 10) (ix_add (X := P) (Y := 10) (Z := P + 10) rfl rfl (by omega)) (by omega) (Nat.le_of_ble_eq_true rfl) (C1 := mW Y ad C o kn n gr P (upd (T_drop (r (62 + 5 * k)) r) 10 v25) s0) (fun q => congrFun (mW_upds (k := 10) (by omega) (by omega)) q) dX8_passesPart_161 (fun H locs hP hS => ?_)
        refine lv_iconst (v := 0) F.1 F.2.1 dX8_passesPart_162 (by decide) ?_
        exact w_iret F hr hlocks hP hS dX8_passesPart_163 (by have hm := (show T_meet k r = (T_drop (r (62 + 5 * k)) r, 0) from if_pos c2); unfold T_pass; rw [hm, if_pos (show ((T_drop (r (62 + 5 * k)) r, (0 : Int32)) : (Nat → Int32) × Int32).2 = 0 from rfl)]; have hg := show (if gr < iabs ((T_drop (r (62 + 5 * k)) r) 8) then iabs ((T_drop (r (62 + 5 * k)) r) 8) else gr) = _ from if_neg (i_nlt c23); rw [if_neg (show ¬ r 0 ≤ iabs ((T_drop (r (62 + 5 * k)) r) 8) from i_nle c24), hg, ← ev25]; exact ⟨rfl, rfl⟩)
      · refine lv_iconst (v := 1) F.1 F.2.1 dX8_passesPart_147 (by decide) ?_
        exact w_iret F hr hlocks hP hS dX8_passesPart_148 (by have hm := (show T_meet k r = (T_drop (r (62 + 5 * k)) r, 0) from if_pos c2); unfold T_pass; rw [hm, if_pos (show ((T_drop (r (62 + 5 * k)) r, (0 : Int32)) : (Nat → Int32) × Int32).2 = 0 from rfl)]; have hg := show (if gr < iabs ((T_drop (r (62 + 5 * k)) r) 8) then iabs ((T_drop (r (62 + 5 * k)) r) 8) else gr) = _ from if_neg (i_nlt c23); rw [if_pos (show r 0 ≤ iabs ((T_drop (r (62 + 5 * k)) r) 8) from i_le c24), hg]; exact ⟨rfl, rfl⟩)
    · refine lv_iload F.1 F.2.1 dX8_passesPart_122 (lv_at hl 0 rfl) ?_
      refine lv_goto (tgt := 131) F.1 F.2.1 dX8_passesPart_124 (by decide) ?_
      refine lv_topi (fun v26 ev26 => ?_)
      refine pf_X8_52 F hI hP hS (by omega) mW_o (Nat.le_of_ble_eq_true rfl) (C1 := mW Y ad C o kn n v26 P (T_drop (r (62 + 5 * k)) r) s0) (fun q => congrFun mW_updo q) dX8_passesPart_131 (fun H locs hP hS => ?_)
      refine lv_iload F.1 F.2.1 dX8_passesPart_134 (lv_at hl 0 rfl) ?_
      refine lv_aload_n F.1 F.2.1 dX8_passesPart_136 rfl (lv_at hl 3 rfl) ?_
      refine gf_X8_7 F hP (by omega) mW_o (v := .ref (ad (o + 1))) rfl dX8_passesPart_137 ?_
      refine lv_iload_n F.1 F.2.1 dX8_passesPart_140 rfl (lv_at hl 4 rfl) ?_
      refine lv_iconst (v := 0) F.1 F.2.1 dX8_passesPart_141 (by decide) ?_
      refine lv_iadd F.1 F.2.1 dX8_passesPart_142 ?_
      refine w_iald F hP (by omega) mW_s (k := P + 0) (ix_add (X := P) (Y := 0) (Z := P + 0) rfl rfl (by omega)) (by omega) (Nat.le_of_ble_eq_true rfl) (v := r 0) ((put_at (k := 0) (by omega) (by omega)).trans (Eq.trans (show _ = (T_drop (r (62 + 5 * k)) r) 0 from rfl) (T_drop_fr (by decide) (by decide) (by decide)))) dX8_passesPart_143 ?_
      refine lv_icmp_lt (tgt := 149) F.1 F.2.1 dX8_passesPart_144 (by decide) (fun c27 => ?_) (fun c27 => ?_)
      · refine lv_aload_n F.1 F.2.1 dX8_passesPart_149 rfl (lv_at hl 3 rfl) ?_
        refine gf_X8_7 F hP (by omega) mW_o (v := .ref (ad (o + 1))) rfl dX8_passesPart_150 ?_
        refine lv_iload_n F.1 F.2.1 dX8_passesPart_153 rfl (lv_at hl 4 rfl) ?_
        refine lv_bipush (v := 10) F.1 F.2.1 dX8_passesPart_154 (by decide) ?_
        refine lv_iadd F.1 F.2.1 dX8_passesPart_156 ?_
        refine lv_dup2_11 F.1 F.2.1 dX8_passesPart_157 rfl rfl ?_
        refine w_iald F hP (by omega) mW_s (k := P + 10) (ix_add (X := P) (Y := 10) (Z := P + 10) rfl rfl (by omega)) (by omega) (Nat.le_of_ble_eq_true rfl) (v := r 10) ((put_at (k := 10) (by omega) (by omega)).trans (Eq.trans (show _ = (T_drop (r (62 + 5 * k)) r) 10 from rfl) (T_drop_fr (by decide) (by decide) (by decide)))) dX8_passesPart_158 ?_
        refine lv_iconst (v := 1) F.1 F.2.1 dX8_passesPart_159 (by decide) ?_
        refine lv_iadd F.1 F.2.1 dX8_passesPart_160 ?_
        refine lv_topi (fun v28 ev28 => ?_)
        refine w_iast F hI hP hS (by omega) mW_s (k := P + 10) (ix_add (X := P) (Y := 10) (Z := P + 10) rfl rfl (by omega)) (by omega) (Nat.le_of_ble_eq_true rfl) (C1 := mW Y ad C o kn n v26 P (upd (T_drop (r (62 + 5 * k)) r) 10 v28) s0) (fun q => congrFun (mW_upds (k := 10) (by omega) (by omega)) q) dX8_passesPart_161 (fun H locs hP hS => ?_)
        refine lv_iconst (v := 0) F.1 F.2.1 dX8_passesPart_162 (by decide) ?_
        exact w_iret F hr hlocks hP hS dX8_passesPart_163 (by have hm := (show T_meet k r = (T_drop (r (62 + 5 * k)) r, 0) from if_pos c2); unfold T_pass; rw [hm, if_pos (show ((T_drop (r (62 + 5 * k)) r, (0 : Int32)) : (Nat → Int32) × Int32).2 = 0 from rfl)]; have hg := show (if gr < iabs ((T_drop (r (62 + 5 * k)) r) 8) then iabs ((T_drop (r (62 + 5 * k)) r) 8) else gr) = _ from (if_pos (i_lt c23)).trans ev26.symm; rw [if_neg (show ¬ r 0 ≤ iabs ((T_drop (r (62 + 5 * k)) r) 8) from i_nle c27), hg, ← ev28]; exact ⟨rfl, rfl⟩)
      · refine lv_iconst (v := 1) F.1 F.2.1 dX8_passesPart_147 (by decide) ?_
        exact w_iret F hr hlocks hP hS dX8_passesPart_148 (by have hm := (show T_meet k r = (T_drop (r (62 + 5 * k)) r, 0) from if_pos c2); unfold T_pass; rw [hm, if_pos (show ((T_drop (r (62 + 5 * k)) r, (0 : Int32)) : (Nat → Int32) × Int32).2 = 0 from rfl)]; have hg := show (if gr < iabs ((T_drop (r (62 + 5 * k)) r) 8) then iabs ((T_drop (r (62 + 5 * k)) r) 8) else gr) = _ from (if_pos (i_lt c23)).trans ev26.symm; rw [if_pos (show r 0 ≤ iabs ((T_drop (r (62 + 5 * k)) r) 8) from i_le c27), hg]; exact ⟨rfl, rfl⟩)
