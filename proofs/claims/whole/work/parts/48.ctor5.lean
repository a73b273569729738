/-! Constructors: HoopStairsModel's -/
theorem put0 {z r : Nat → Int32} (h : ∀ j, j < 161 → z j = r j) : z = put 0 r z := by
  funext j
  unfold put
  by_cases q : 0 ≤ j ∧ j < 0 + 161
  · rw [if_pos q, h j (by omega), Nat.sub_zero]
  · rw [if_neg q]
set_option maxRecDepth 20000 in
set_option maxHeartbeats 4000000 in
/-- HoopStairsModel's -/
theorem c_X8_init (l : Launch) (D : va_G) (Y : Nat → ClassId) (ad : Nat → Nat) (N sz : Nat) (hI : wI ad N) (C : Nat → va_E) (o : Nat) (ho : o + 1 = N) (hC : C o = .inr (8, [.null, .null, .int 0, .null, .null, .null, .int 0, .int 0])) : Met l yX8_init (wm yX8_init cX8_init 1 none) { frames := 1, cells := 5, slots := 1692, locals := 12 } (gPc D Y ad N sz [.ref (ad o)] C) (gQ D ad N sz (gMk C o 5 (fun ad' C' o => mdlA Y ad' C' o fr0 (fun _ => fr0) 0 (fun _ => fr0) (fun _ => 0) (fun _ => 0) 0))) 5 1692 (gA ad N sz) := by
  subst ho
  refine gMet RX8 rfl (by decide +kernel) (Nat.le_of_ble_eq_true rfl) (lv := [(0, .ref (ad o))]) rfl ?_
  intro p e s m below meth c ls F hr hlocks hname hP hl
  refine lv_aload_n F.1 F.2.1 dX8_init_0 rfl (lv_at hl 0 rfl) ?_
  refine g_obj F hl.1 mw_105 (by decide) (by decide) dX8_init_1 ?_
  have hA0 : ∀ i, i < o + 1 → ad i = ad i := fun _ _ => rfl
  have hS0 : va_S (gA ad (o + 1) sz) s.heap s.heap [] := va_S.rf
  have hD0 : va_D (gA ad (o + 1) sz) (wld ad (o + 1) C) := gD hI
  refine lv_aload_n F.1 F.2.1 dX8_init_4 rfl (lv_at hl 0 rfl) ?_
  refine lv_sipush (v := 322) F.1 F.2.1 dX8_init_5 (by decide) ?_
  refine g_newa (N := o + 1) (atype := .int) F hP hD0 hS0 (t0 := 0) rfl (fun U cA h => h) rfl mw_50 (by decide) (n' := 322) rfl (by decide) (by decide) (by decide) dX8_init_8 (fun q1 G1 hQ1 hE1 hT1 => ?_)
  obtain ⟨ad1, ea1, eq1, hAn1⟩ := ad_nm ad (o + 1) q1
  obtain ⟨B1, eB1, hB1, hBo1⟩ := up_nm C (o + 1) (.inl (Y 0, 322, .inl (fun _ => 0)))
  rw [← ea1, ← eB1] at hQ1 hE1
  rw [eq1]
  have hA1 : ∀ i, i < o + 1 → ad1 i = ad i := fun i hi => by rw [hAn1 i (by omega), hA0 i hi]
  obtain ⟨C1, eC1, hC1, hCo1⟩ := up_nm B1 o (.inr (8, [.ref (ad1 (o + 1)), .null, .int 0, .null, .null, .null, .int 0, .int 0]))
  refine g_putF (v := .ref (ad1 (o + 1))) (C1 := C1) F hQ1 hE1 hT1 (hA1 o (by omega)).symm (by omega) ((hBo1 o (by omega)).trans hC) rfl Wi_wsX80 tyX8 tyX8_ok nmX8 0 (by decide) mw_106 rfl hname rfl rfl rfl (Nat.le_of_ble_eq_true rfl) (fun j => congrFun eC1.symm j) dX8_init_10 (fun H1 locs1 hP1 hD1 hS1 => ?_)
  refine lv_aload_n F.1 F.2.1 dX8_init_13 rfl (lv_at hl 0 rfl) ?_
  refine lv_sipush (v := 966) F.1 F.2.1 dX8_init_14 (by decide) ?_
  refine g_newa (N := o + 2) (atype := .int) F hP1 hD1 hS1 (t0 := 0) rfl (fun U cA h => h) rfl mw_50 (by decide) (n' := 966) rfl (by decide) (by decide) (by decide) dX8_init_17 (fun q2 G2 hQ2 hE2 hT2 => ?_)
  obtain ⟨ad2, ea2, eq2, hAn2⟩ := ad_nm ad1 (o + 2) q2
  obtain ⟨B2, eB2, hB2, hBo2⟩ := up_nm C1 (o + 2) (.inl (Y 0, 966, .inl (fun _ => 0)))
  rw [← ea2, ← eB2] at hQ2 hE2
  rw [eq2]
  have hA2 : ∀ i, i < o + 1 → ad2 i = ad i := fun i hi => by rw [hAn2 i (by omega), hA1 i hi]
  obtain ⟨C2, eC2, hC2, hCo2⟩ := up_nm B2 o (.inr (8, [.ref (ad1 (o + 1)), .ref (ad2 (o + 2)), .int 0, .null, .null, .null, .int 0, .int 0]))
  refine g_putF (v := .ref (ad2 (o + 2))) (C1 := C2) F hQ2 hE2 hT2 (hA2 o (by omega)).symm (by omega) ((hBo2 o (by omega)).trans hC1) rfl Wi_wsX80 tyX8 tyX8_ok nmX8 1 (by decide) mw_107 rfl hname rfl rfl rfl (Nat.le_of_ble_eq_true rfl) (fun j => congrFun eC2.symm j) dX8_init_19 (fun H2 locs2 hP2 hD2 hS2 => ?_)
  refine lv_aload_n F.1 F.2.1 dX8_init_22 rfl (lv_at hl 0 rfl) ?_
  refine lv_sipush (v := 322) F.1 F.2.1 dX8_init_23 (by decide) ?_
  refine g_newa (N := o + 3) (atype := .int) F hP2 hD2 hS2 (t0 := 0) rfl (fun U cA h => h) rfl mw_50 (by decide) (n' := 322) rfl (by decide) (by decide) (by decide) dX8_init_26 (fun q3 G3 hQ3 hE3 hT3 => ?_)
  obtain ⟨ad3, ea3, eq3, hAn3⟩ := ad_nm ad2 (o + 3) q3
  obtain ⟨B3, eB3, hB3, hBo3⟩ := up_nm C2 (o + 3) (.inl (Y 0, 322, .inl (fun _ => 0)))
  rw [← ea3, ← eB3] at hQ3 hE3
  rw [eq3]
  have hA3 : ∀ i, i < o + 1 → ad3 i = ad i := fun i hi => by rw [hAn3 i (by omega), hA2 i hi]
  obtain ⟨C3, eC3, hC3, hCo3⟩ := up_nm B3 o (.inr (8, [.ref (ad1 (o + 1)), .ref (ad2 (o + 2)), .int 0, .ref (ad3 (o + 3)), .null, .null, .int 0, .int 0]))
  refine g_putF (v := .ref (ad3 (o + 3))) (C1 := C3) F hQ3 hE3 hT3 (hA3 o (by omega)).symm (by omega) ((hBo3 o (by omega)).trans hC2) rfl Wi_wsX80 tyX8 tyX8_ok nmX8 3 (by decide) mw_108 rfl hname rfl rfl rfl (Nat.le_of_ble_eq_true rfl) (fun j => congrFun eC3.symm j) dX8_init_28 (fun H3 locs3 hP3 hD3 hS3 => ?_)
  refine lv_aload_n F.1 F.2.1 dX8_init_31 rfl (lv_at hl 0 rfl) ?_
  refine lv_iconst (v := 2) F.1 F.2.1 dX8_init_32 (by decide) ?_
  refine g_newa (N := o + 4) (atype := .boolean) F hP3 hD3 hS3 (t0 := 1) rfl (fun U cA h => h) rfl mw_22 (by decide) (n' := 2) rfl (by decide) (by decide) (by decide) dX8_init_33 (fun q4 G4 hQ4 hE4 hT4 => ?_)
  obtain ⟨ad4, ea4, eq4, hAn4⟩ := ad_nm ad3 (o + 4) q4
  obtain ⟨B4, eB4, hB4, hBo4⟩ := up_nm C3 (o + 4) (.inl (Y 1, 2, .inl (fun _ => 0)))
  rw [← ea4, ← eB4] at hQ4 hE4
  rw [eq4]
  have hA4 : ∀ i, i < o + 1 → ad4 i = ad i := fun i hi => by rw [hAn4 i (by omega), hA3 i hi]
  obtain ⟨C4, eC4, hC4, hCo4⟩ := up_nm B4 o (.inr (8, [.ref (ad1 (o + 1)), .ref (ad2 (o + 2)), .int 0, .ref (ad3 (o + 3)), .ref (ad4 (o + 4)), .null, .int 0, .int 0]))
  refine g_putF (v := .ref (ad4 (o + 4))) (C1 := C4) F hQ4 hE4 hT4 (hA4 o (by omega)).symm (by omega) ((hBo4 o (by omega)).trans hC3) rfl Wi_wsX80 tyX8 tyX8_ok nmX8 4 (by decide) mw_109 rfl hname rfl rfl rfl (Nat.le_of_ble_eq_true rfl) (fun j => congrFun eC4.symm j) dX8_init_35 (fun H4 locs4 hP4 hD4 hS4 => ?_)
  refine lv_aload_n F.1 F.2.1 dX8_init_38 rfl (lv_at hl 0 rfl) ?_
  refine lv_bipush (v := 80) F.1 F.2.1 dX8_init_39 (by decide) ?_
  refine g_newa (N := o + 5) (atype := .int) F hP4 hD4 hS4 (t0 := 0) rfl (fun U cA h => h) rfl mw_50 (by decide) (n' := 80) rfl (by decide) (by decide) (by decide) dX8_init_41 (fun q5 G5 hQ5 hE5 hT5 => ?_)
  obtain ⟨ad5, ea5, eq5, hAn5⟩ := ad_nm ad4 (o + 5) q5
  obtain ⟨B5, eB5, hB5, hBo5⟩ := up_nm C4 (o + 5) (.inl (Y 0, 80, .inl (fun _ => 0)))
  rw [← ea5, ← eB5] at hQ5 hE5
  rw [eq5]
  have hA5 : ∀ i, i < o + 1 → ad5 i = ad i := fun i hi => by rw [hAn5 i (by omega), hA4 i hi]
  obtain ⟨C5, eC5, hC5, hCo5⟩ := up_nm B5 o (.inr (8, [.ref (ad1 (o + 1)), .ref (ad2 (o + 2)), .int 0, .ref (ad3 (o + 3)), .ref (ad4 (o + 4)), .ref (ad5 (o + 5)), .int 0, .int 0]))
  refine g_putF (v := .ref (ad5 (o + 5))) (C1 := C5) F hQ5 hE5 hT5 (hA5 o (by omega)).symm (by omega) ((hBo5 o (by omega)).trans hC4) rfl Wi_wsX80 tyX8 tyX8_ok nmX8 5 (by decide) mw_110 rfl hname rfl rfl rfl (Nat.le_of_ble_eq_true rfl) (fun j => congrFun eC5.symm j) dX8_init_43 (fun H5 locs5 hP5 hD5 hS5 => ?_)
  have hs1 : C5 (o + 1) = .inl (Y 0, 322, .inl (fun _ => 0)) := by rw [hCo5 _ (by omega), hBo5 _ (by omega), hCo4 _ (by omega), hBo4 _ (by omega), hCo3 _ (by omega), hBo3 _ (by omega), hCo2 _ (by omega), hBo2 _ (by omega), hCo1 _ (by omega)]; exact hB1
  have ha1 : ad1 (o + 1) = ad5 (o + 1) := by rw [hAn5 _ (by omega), hAn4 _ (by omega), hAn3 _ (by omega), hAn2 _ (by omega)]
  refine lv_aload_n F.1 F.2.1 dX8_init_46 rfl (lv_at hl 0 rfl) ?_
  refine g_get F hP5 (hA5 o (by omega)).symm (by omega) hC5 rfl Wi_wsX80 0 (by decide) mw_106 (v := .ref (ad1 (o + 1))) rfl dX8_init_47 ?_
  refine lv_iconst (v := 0) F.1 F.2.1 dX8_init_50 (by decide) ?_
  refine lv_bipush (v := 45) F.1 F.2.1 dX8_init_51 (by decide) ?_
  obtain ⟨C6, eC6, hs6, hCo6⟩ := up_nm C5 (o + 1) (.inl (Y 0, 322, .inl (upd (fun _ => 0) 0 45)))
  refine g_iast (C1 := C6) F hP5 hD5 hS5 ha1 (by omega) hs1 (k := 0) rfl (by decide) (by decide) (fun j => congrFun eC6.symm j) dX8_init_53 (fun H6 locs6 hP6 hD6 hS6 => ?_)
  have hO6 := (hCo6 o (by omega)).trans hC5
  refine lv_aload_n F.1 F.2.1 dX8_init_54 rfl (lv_at hl 0 rfl) ?_
  refine g_get F hP6 (hA5 o (by omega)).symm (by omega) hO6 rfl Wi_wsX80 0 (by decide) mw_106 (v := .ref (ad1 (o + 1))) rfl dX8_init_55 ?_
  refine lv_iconst (v := 1) F.1 F.2.1 dX8_init_58 (by decide) ?_
  refine lv_iconst (v := 4) F.1 F.2.1 dX8_init_59 (by decide) ?_
  obtain ⟨C7, eC7, hs7, hCo7⟩ := up_nm C6 (o + 1) (.inl (Y 0, 322, .inl (upd (upd (fun _ => 0) 0 45) 1 4)))
  refine g_iast (C1 := C7) F hP6 hD6 hS6 ha1 (by omega) hs6 (k := 1) rfl (by decide) (by decide) (fun j => congrFun eC7.symm j) dX8_init_60 (fun H7 locs7 hP7 hD7 hS7 => ?_)
  have hO7 := (hCo7 o (by omega)).trans hO6
  refine lv_aload_n F.1 F.2.1 dX8_init_61 rfl (lv_at hl 0 rfl) ?_
  refine g_get F hP7 (hA5 o (by omega)).symm (by omega) hO7 rfl Wi_wsX80 0 (by decide) mw_106 (v := .ref (ad1 (o + 1))) rfl dX8_init_62 ?_
  refine lv_iconst (v := 2) F.1 F.2.1 dX8_init_65 (by decide) ?_
  refine lv_iconst (v := 3) F.1 F.2.1 dX8_init_66 (by decide) ?_
  obtain ⟨C8, eC8, hs8, hCo8⟩ := up_nm C7 (o + 1) (.inl (Y 0, 322, .inl (upd (upd (upd (fun _ => 0) 0 45) 1 4) 2 3)))
  refine g_iast (C1 := C8) F hP7 hD7 hS7 ha1 (by omega) hs7 (k := 2) rfl (by decide) (by decide) (fun j => congrFun eC8.symm j) dX8_init_67 (fun H8 locs8 hP8 hD8 hS8 => ?_)
  have hO8 := (hCo8 o (by omega)).trans hO7
  refine lv_aload_n F.1 F.2.1 dX8_init_68 rfl (lv_at hl 0 rfl) ?_
  refine g_get F hP8 (hA5 o (by omega)).symm (by omega) hO8 rfl Wi_wsX80 0 (by decide) mw_106 (v := .ref (ad1 (o + 1))) rfl dX8_init_69 ?_
  refine lv_iconst (v := 3) F.1 F.2.1 dX8_init_72 (by decide) ?_
  refine lv_bipush (v := 8) F.1 F.2.1 dX8_init_73 (by decide) ?_
  obtain ⟨C9, eC9, hs9, hCo9⟩ := up_nm C8 (o + 1) (.inl (Y 0, 322, .inl (upd (upd (upd (upd (fun _ => 0) 0 45) 1 4) 2 3) 3 8)))
  refine g_iast (C1 := C9) F hP8 hD8 hS8 ha1 (by omega) hs8 (k := 3) rfl (by decide) (by decide) (fun j => congrFun eC9.symm j) dX8_init_75 (fun H9 locs9 hP9 hD9 hS9 => ?_)
  have hO9 := (hCo9 o (by omega)).trans hO8
  have up : ∀ j, j ≠ o + 1 → C9 j = C5 j := fun j q => by rw [hCo9 j q, hCo8 j q, hCo7 j q, hCo6 j q]
  refine g_vret2 F hr hlocks hP9 hD9 hS9 ⟨rfl, rfl⟩ dX8_init_76 (by omega) hA5 ⟨rfl, fun j hj => ?_, (upd (upd (upd (upd (fun _ => 0) 0 45) 1 4) 2 3) 3 8), fun _ => 0, fun _ => 0, 0, ?_, ?_, by decide, by decide, ?_, fun i j hi => absurd hi (Nat.not_lt_zero _), ?_, fun k j hk hj h => absurd rfl h, ?_, ?_⟩
  · rw [up j (by omega), hCo5 j (by omega), hBo5 j (by omega), hCo4 j (by omega), hBo4 j (by omega), hCo3 j (by omega), hBo3 j (by omega), hCo2 j (by omega), hBo2 j (by omega), hCo1 j (by omega), hBo1 j (by omega)]
  · rw [up o (by omega), hC5, ha1, ← hAn3 (o + 2) (by omega), ← hAn4 (o + 2) (by omega), ← hAn5 (o + 2) (by omega), ← hAn4 (o + 3) (by omega), ← hAn5 (o + 3) (by omega), ← hAn5 (o + 4) (by omega)]
    rfl
  · rw [hs9]
    show _ = sA Y 0 fr0 (upd (upd (upd (upd (fun _ => 0) 0 45) 1 4) 2 3) 3 8)
    unfold sA
    rw [← put0 (fun j hj => ?_)]
    match j with
    | 0 => rfl
    | 1 => rfl
    | 2 => rfl
    | 3 => rfl
    | j + 4 => unfold fr0; rw [if_neg (by omega), upd_n (by omega), upd_n (by omega), upd_n (by omega), upd_n (by omega)]
  · rw [up _ (by omega), hCo5 _ (by omega), hBo5 _ (by omega), hCo4 _ (by omega), hBo4 _ (by omega), hCo3 _ (by omega), hBo3 _ (by omega), hCo2 _ (by omega)]; exact hB2
  · rw [up _ (by omega), hCo5 _ (by omega), hBo5 _ (by omega), hCo4 _ (by omega), hBo4 _ (by omega), hCo3 _ (by omega)]; exact hB3
  · rw [up _ (by omega), hCo5 _ (by omega), hBo5 _ (by omega), hCo4 _ (by omega)]; exact hB4
  · rw [up _ (by omega), hCo5 _ (by omega)]; exact hB5
