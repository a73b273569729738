/-! Constructors: State's -/
theorem fsX4 : ∀ j, j < 1 → defaultValue (tyX4 j) = vp_V [.null] j := fun j hj => match j, hj with
  | 0, _ => rfl
  | n + 1, h => absurd h (by omega)
theorem fsX5 : ∀ j, j < 2 → defaultValue (tyX5 j) = vp_V [.null, .int 0] j := fun j hj => match j, hj with
  | 0, _ => rfl
  | 1, _ => rfl
  | n + 2, h => absurd h (by omega)
theorem fsX3 : ∀ j, j < 2 → defaultValue (tyX3 j) = vp_V [.null, .int 0] j := fun j hj => match j, hj with
  | 0, _ => rfl
  | 1, _ => rfl
  | n + 2, h => absurd h (by omega)
theorem fsX0 : ∀ j, j < 3 → defaultValue (tyX0 j) = vp_V [.null, .int 0, .int 0] j := fun j hj => match j, hj with
  | 0, _ => rfl
  | 1, _ => rfl
  | 2, _ => rfl
  | n + 3, h => absurd h (by omega)
theorem fsX2 : ∀ j, j < 5 → defaultValue (tyX2 j) = vp_V [.null, .int 0, .int 0, .int 0, .int 0] j := fun j hj => match j, hj with
  | 0, _ => rfl
  | 1, _ => rfl
  | 2, _ => rfl
  | 3, _ => rfl
  | 4, _ => rfl
  | n + 5, h => absurd h (by omega)
theorem fsX1 : ∀ j, j < 10 → defaultValue (tyX1 j) = vp_V [.int 0, .int 0, .int 0, .int 0, .int 0, .int 0, .int 0, .int 0, .int 0, .int 0] j := fun j hj => match j, hj with
  | 0, _ => rfl
  | 1, _ => rfl
  | 2, _ => rfl
  | 3, _ => rfl
  | 4, _ => rfl
  | 5, _ => rfl
  | 6, _ => rfl
  | 7, _ => rfl
  | 8, _ => rfl
  | 9, _ => rfl
  | n + 10, h => absurd h (by omega)
theorem fsX6 : ∀ j, j < 7 → defaultValue (tyX6 j) = vp_V [.null, .null, .null, .null, .null, .int 0, .int 0] j := fun j hj => match j, hj with
  | 0, _ => rfl
  | 1, _ => rfl
  | 2, _ => rfl
  | 3, _ => rfl
  | 4, _ => rfl
  | 5, _ => rfl
  | 6, _ => rfl
  | n + 7, h => absurd h (by omega)
theorem fsX7 : ∀ j, j < 6 → defaultValue (tyX7 j) = vp_V [.null, .null, .null, .null, .null, .null] j := fun j hj => match j, hj with
  | 0, _ => rfl
  | 1, _ => rfl
  | 2, _ => rfl
  | 3, _ => rfl
  | 4, _ => rfl
  | 5, _ => rfl
  | n + 6, h => absurd h (by omega)
/-- a world with one cell another: named -/
theorem up_nm (C : Nat → va_E) (h : Nat) (e : va_E) : ∃ C1 : Nat → va_E, C1 = va_up C h e ∧ C1 h = e ∧ ∀ j, j ≠ h → C1 j = C j := ⟨_, rfl, va_up_self _ _ _, fun j hj => va_up_ne _ _ hj⟩
theorem ad_nm (ad : Nat → Nat) (N q : Nat) : ∃ ad1 : Nat → Nat, ad1 = va_up ad N q ∧ q = ad1 N ∧ ∀ i, i < N → ad1 i = ad i := ⟨_, rfl, (va_up_self _ _ _).symm, fun i hi => va_up_ne _ _ (by omega)⟩
set_option maxRecDepth 20000 in
set_option maxHeartbeats 4000000 in
/-- State's -/
theorem c_X6_init (l : Launch) (D : va_G) (Y : Nat → ClassId) (ad : Nat → Nat) (N sz : Nat) (hI : wI ad N) (C : Nat → va_E) (o : Nat) (ho : o + 1 = N) (hC : C o = .inr (6, [.null, .null, .null, .null, .null, .int 0, .int 0])) : Met l yX6_init (wm yX6_init cX6_init 1 none) { frames := 2, cells := 17, slots := 173, locals := 35 } (gPc D Y ad N sz [.ref (ad o)] C) (gQ D ad N sz (gMk C o 17 (fun ad' C' o => isState Y ad' C' o fr0 0))) 17 173 (gA ad N sz) := by
  subst ho
  refine gMet RX6 rfl (by decide +kernel) (Nat.le_of_ble_eq_true rfl) (lv := [(0, .ref (ad o))]) rfl ?_
  intro p e s m below meth c ls F hr hlocks hname hP hl
  refine lv_aload_n F.1 F.2.1 dX6_init_0 rfl (lv_at hl 0 rfl) ?_
  refine g_obj F hl.1 mw_35 (by decide) (by decide) dX6_init_1 ?_
  refine lv_aload_n F.1 F.2.1 dX6_init_4 rfl (lv_at hl 0 rfl) ?_
  refine g_mk F hP (gD hI) va_S.rf Wi_wsX40 tyX4 tyX4_ok mw_36 mw_37 mw_38 rfl fsX4 (fun ad N sz hI C o ho hC => c_X4_init l D Y ad N sz hI C o ho hC) (cwIm 0 F.2.2.2.2.1 (fun _ h => h) mw_56 mw_54 mw_55 mw_38 rfl rfl rfl ⟨by decide, by decide, by decide +kernel⟩ ⟨by decide, by decide⟩) hl.1 (Nat.le_of_ble_eq_true rfl) (by decide) (by decide) dX6_init_5 dX6_init_8 dX6_init_9 (fun ad1 C1 H1 locs1 hA1 hB1 is1 hP1 hD1 hS1 => ?_)
  have hC1 := (hB1 o (by omega)).trans hC
  obtain ⟨C2, eC2, hC2, hB2⟩ := up_nm C1 o (.inr (6, [.ref (ad1 (o + 1)), .null, .null, .null, .null, .int 0, .int 0]))
  refine g_putF (v := .ref (ad1 (o + 1))) (C1 := C2) F hP1 hD1 hS1 (hA1 o (by omega)).symm (by omega) hC1 rfl Wi_wsX60 tyX6 tyX6_ok nmX6 0 (by decide) mw_39 rfl hname rfl rfl rfl (Nat.le_of_ble_eq_true rfl) (fun j => congrFun eC2.symm j) dX6_init_12 (fun H2 locs2 hP2 hD2 hS2 => ?_)
  refine lv_aload_n F.1 F.2.1 dX6_init_15 rfl (lv_at hl 0 rfl) ?_
  refine g_mk (N := o + 3) F hP2 hD2 hS2 Wi_wsX50 tyX5 tyX5_ok mw_40 mw_41 mw_42 rfl fsX5 (fun ad N sz hI C o ho hC => c_X5_init l D Y ad N sz hI C o ho hC) (cwIm 0 F.2.2.2.2.1 (fun _ h => h) mw_68 mw_66 mw_67 mw_42 rfl rfl rfl ⟨by decide, by decide, by decide +kernel⟩ ⟨by decide, by decide⟩) hl.1 (Nat.le_of_ble_eq_true rfl) (by decide) (by decide) dX6_init_16 dX6_init_19 dX6_init_20 (fun ad3 C3 H3 locs3 hA3 hB3 is3 hP3 hD3 hS3 => ?_)
  have hC3 := (hB3 o (by omega)).trans hC2
  obtain ⟨C4, eC4, hC4, hB4⟩ := up_nm C3 o (.inr (6, [.ref (ad1 (o + 1)), .ref (ad3 (o + 3)), .null, .null, .null, .int 0, .int 0]))
  refine g_putF (v := .ref (ad3 (o + 3))) (C1 := C4) F hP3 hD3 hS3 ((hA3 o (by omega)).trans (hA1 o (by omega))).symm (by omega) hC3 rfl Wi_wsX60 tyX6 tyX6_ok nmX6 1 (by decide) mw_43 rfl hname rfl rfl rfl (Nat.le_of_ble_eq_true rfl) (fun j => congrFun eC4.symm j) dX6_init_23 (fun H4 locs4 hP4 hD4 hS4 => ?_)
  refine lv_aload_n F.1 F.2.1 dX6_init_26 rfl (lv_at hl 0 rfl) ?_
  refine g_mk (N := o + 10) F hP4 hD4 hS4 Wi_wsX10 tyX1 tyX1_ok mw_44 mw_29 mw_30 rfl fsX1 (fun ad N sz hI C o ho hC => c_X1_init l D Y ad N sz hI C o ho hC) (cwIm 0 F.2.2.2.2.1 (fun _ h => h) mw_75 mw_73 mw_74 mw_30 rfl rfl rfl ⟨by decide, by decide, by decide +kernel⟩ ⟨by decide, by decide⟩) hl.1 (Nat.le_of_ble_eq_true rfl) (by decide) (by decide) dX6_init_27 dX6_init_30 dX6_init_31 (fun ad5 C5 H5 locs5 hA5 hB5 is5 hP5 hD5 hS5 => ?_)
  have hC5 := (hB5 o (by omega)).trans hC4
  obtain ⟨C6, eC6, hC6, hB6⟩ := up_nm C5 o (.inr (6, [.ref (ad1 (o + 1)), .ref (ad3 (o + 3)), .ref (ad5 (o + 10)), .null, .null, .int 0, .int 0]))
  have a5 : ∀ i, i < o + 1 → ad5 i = ad i := fun i hi => by rw [hA5 i (by omega), hA3 i (by omega), hA1 i (by omega)]
  refine g_putF (v := .ref (ad5 (o + 10))) (C1 := C6) F hP5 hD5 hS5 (a5 o (by omega)).symm (by omega) hC5 rfl Wi_wsX60 tyX6 tyX6_ok nmX6 2 (by decide) mw_45 rfl hname rfl rfl rfl (Nat.le_of_ble_eq_true rfl) (fun j => congrFun eC6.symm j) dX6_init_34 (fun H6 locs6 hP6 hD6 hS6 => ?_)
  refine lv_aload_n F.1 F.2.1 dX6_init_37 rfl (lv_at hl 0 rfl) ?_
  refine g_mk (N := o + 11) F hP6 hD6 hS6 Wi_wsX30 tyX3 tyX3_ok mw_46 mw_47 mw_48 rfl fsX3 (fun ad N sz hI C o ho hC => c_X3_init l D Y ad N sz hI C o ho hC) (cwIm 0 F.2.2.2.2.1 (fun _ h => h) mw_80 mw_78 mw_79 mw_48 rfl rfl rfl ⟨by decide, by decide, by decide +kernel⟩ ⟨by decide, by decide⟩) hl.1 (Nat.le_of_ble_eq_true rfl) (by decide) (by decide) dX6_init_38 dX6_init_41 dX6_init_42 (fun ad7 C7 H7 locs7 hA7 hB7 is7 hP7 hD7 hS7 => ?_)
  have hC7 := (hB7 o (by omega)).trans hC6
  obtain ⟨C8, eC8, hC8, hB8⟩ := up_nm C7 o (.inr (6, [.ref (ad1 (o + 1)), .ref (ad3 (o + 3)), .ref (ad5 (o + 10)), .ref (ad7 (o + 11)), .null, .int 0, .int 0]))
  have a7 : ∀ i, i < o + 1 → ad7 i = ad i := fun i hi => by rw [hA7 i (by omega), a5 i hi]
  refine g_putF (v := .ref (ad7 (o + 11))) (C1 := C8) F hP7 hD7 hS7 (a7 o (by omega)).symm (by omega) hC7 rfl Wi_wsX60 tyX6 tyX6_ok nmX6 3 (by decide) mw_49 rfl hname rfl rfl rfl (Nat.le_of_ble_eq_true rfl) (fun j => congrFun eC8.symm j) dX6_init_45 (fun H8 locs8 hP8 hD8 hS8 => ?_)
  refine lv_aload_n F.1 F.2.1 dX6_init_48 rfl (lv_at hl 0 rfl) ?_
  refine lv_iconst (v := 5) F.1 F.2.1 dX6_init_49 (by decide) ?_
  refine g_newa (N := o + 17) (atype := .int) F hP8 hD8 hS8 (t0 := 0) rfl (fun U cA h => h) rfl mw_50 (by decide) (n' := 5) rfl (by decide) (by decide) (by decide) dX6_init_50 (fun q H9 hP9 hD9 hS9 => ?_)
  obtain ⟨ad9, ea9, eq9, hA9⟩ := ad_nm ad7 (o + 17) q
  obtain ⟨C9, eC9, hC9, hB9⟩ := up_nm C8 (o + 17) (.inl (Y 0, 5, .inl (fun _ => 0)))
  rw [← ea9, ← eC9] at hP9 hD9
  rw [eq9]
  have a9 : ∀ i, i < o + 1 → ad9 i = ad i := fun i hi => by rw [hA9 i (by omega), a7 i hi]
  have hC9o := (hB9 o (by omega)).trans hC8
  obtain ⟨Cz, eCz, hCz, hBz⟩ := up_nm C9 o (.inr (6, [.ref (ad1 (o + 1)), .ref (ad3 (o + 3)), .ref (ad5 (o + 10)), .ref (ad7 (o + 11)), .ref (ad9 (o + 17)), .int 0, .int 0]))
  refine g_putF (v := .ref (ad9 (o + 17))) (C1 := Cz) F hP9 hD9 hS9 (a9 o (by omega)).symm (by omega) hC9o rfl Wi_wsX60 tyX6 tyX6_ok nmX6 4 (by decide) mw_51 rfl hname rfl rfl rfl (Nat.le_of_ble_eq_true rfl) (fun j => congrFun eCz.symm j) dX6_init_52 (fun Ha locsa hPa hDa hSa => ?_)
  refine lv_aload_n F.1 F.2.1 dX6_init_55 rfl (lv_at hl 0 rfl) ?_
  refine lv_iconst (v := 0) F.1 F.2.1 dX6_init_56 (by decide) ?_
  refine g_put F hPa hDa hSa (C1 := Cz) (a9 o (by omega)).symm (by omega) hCz rfl Wi_wsX60 tyX6 tyX6_ok nmX6 5 (by decide) mw_52 rfl rfl rfl (Nat.le_of_ble_eq_true rfl) (fun j => congrFun (up_id hCz).symm j) dX6_init_57 (fun Hb locsb hPb hDb hSb => ?_)
  refine lv_aload_n F.1 F.2.1 dX6_init_60 rfl (lv_at hl 0 rfl) ?_
  refine lv_iconst (v := 0) F.1 F.2.1 dX6_init_61 (by decide) ?_
  refine g_put F hPb hDb hSb (C1 := Cz) (a9 o (by omega)).symm (by omega) hCz rfl Wi_wsX60 tyX6 tyX6_ok nmX6 6 (by decide) mw_53 rfl rfl rfl (Nat.le_of_ble_eq_true rfl) (fun j => congrFun (up_id hCz).symm j) dX6_init_62 (fun Hc locsc hPc hDc hSc => ?_)
  have b8 : ∀ j, j ≠ o → j < o + 17 → Cz j = C8 j := fun j a b => by rw [hBz j a, hB9 j (by omega)]
  have b7 : ∀ j, j ≠ o → j < o + 17 → Cz j = C7 j := fun j a b => by rw [b8 j a b, hB8 j a]
  have b5 : ∀ j, j ≠ o → j < o + 11 → Cz j = C5 j := fun j a b => by rw [b7 j a (by omega), hB7 j (by omega), hB6 j a]
  have b3 : ∀ j, j ≠ o → j < o + 10 → Cz j = C3 j := fun j a b => by rw [b5 j a (by omega), hB5 j (by omega), hB4 j a]
  have b1 : ∀ j, j ≠ o → j < o + 3 → Cz j = C1 j := fun j a b => by rw [b3 j a (by omega), hB3 j (by omega), hB2 j a]
  have f7 : ∀ i, i < o + 17 → ad9 i = ad7 i := fun i hi => hA9 i hi
  have f5 : ∀ i, i < o + 11 → ad9 i = ad5 i := fun i hi => by rw [f7 i (by omega), hA7 i hi]
  have f3 : ∀ i, i < o + 10 → ad9 i = ad3 i := fun i hi => by rw [f5 i (by omega), hA5 i hi]
  have f1 : ∀ i, i < o + 3 → ad9 i = ad1 i := fun i hi => by rw [f3 i (by omega), hA3 i hi]
  refine g_vret2 F hr hlocks hPc hDc hSc ⟨rfl, rfl⟩ dX6_init_65 (by omega) a9 ⟨rfl, fun j hj => by rw [b1 j (by omega) (by omega), hB1 j (by omega)], ?_, isSett_mv is1 (fun j a b => b1 j (by omega) (by omega)) (fun j a b => f1 j (by omega)), isStair_mv is3 (fun j a b => b3 j (by omega) (by omega)) (fun j a b => f3 j (by omega)), (b5 _ (by omega) (by omega)).trans is5, isLog_mv is7 (fun j a b => b7 j (by omega) (by omega)) (fun j a b => f7 j (by omega)), fun _ => 0, ?_, fun i hi hj => (if_neg (by omega)).symm⟩
  · rw [hCz, ← f1 (o + 1) (by omega), ← f3 (o + 3) (by omega), ← f5 (o + 10) (by omega), ← f7 (o + 11) (by omega)]
    rfl
  · rw [hBz _ (by omega)]; exact hC9

