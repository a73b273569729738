/-! Constructors -/
set_option maxRecDepth 20000 in
set_option maxHeartbeats 2000000 in
/-- Hoop's -/
theorem c_X1_init (l : Launch) (D : va_G) (Y : Nat → ClassId) (ad : Nat → Nat) (N sz : Nat) (hI : wI ad N) (C : Nat → va_E) (o : Nat) (ho : o < N) (hC : C o = hpV 0 0 0 0 0 0 0 0 0 0) : Met l yX1_init (wm yX1_init cX1_init 1 none) { frames := 1, cells := 0, slots := 0, locals := 12 } (gPc D Y ad N sz [.ref (ad o)] C) (gQ D ad N sz (fun ad' N' C' => ad' = ad ∧ N' = N ∧ C' = C)) 0 0 (gA ad N sz) := by
  refine gMet RX1 rfl (by decide +kernel) (Nat.le_of_ble_eq_true rfl) (lv := [(0, .ref (ad o))]) rfl ?_
  intro p e s m below meth c ls F hr hlocks hname hP hl
  refine lv_aload_n F.1 F.2.1 dX1_init_0 rfl (lv_at hl 0 rfl) ?_
  refine g_obj F hl.1 mw_76 (by decide) (by decide) dX1_init_1 ?_
  refine lv_aload_n F.1 F.2.1 dX1_init_4 rfl (lv_at hl 0 rfl) ?_
  refine lv_iconst (v := 0) F.1 F.2.1 dX1_init_5 (by decide) ?_
  refine g_put F hP (gD hI) va_S.rf rfl ho hC rfl Wi_wsX10 tyX1 tyX1_ok nmX1 0 (by decide) mw_77 rfl rfl rfl (Nat.le_of_ble_eq_true rfl) (C1 := C) (fun j => congrFun (up_id hC).symm j) dX1_init_6 (fun H1 locs1 hP1 hD1 hS1 => ?_)
  exact g_vret F hr hlocks hP1 hS1 ⟨rfl, rfl⟩ dX1_init_9 ⟨Nat.le_refl _, fun _ _ => rfl, hI, fun i a b => by omega⟩ ⟨rfl, rfl, rfl⟩
set_option maxRecDepth 20000 in
set_option maxHeartbeats 2000000 in
/-- Pad's -/
theorem c_X2_init (l : Launch) (D : va_G) (Y : Nat → ClassId) (ad : Nat → Nat) (N sz : Nat) (hI : wI ad N) (C : Nat → va_E) (o : Nat) (ho : o < N) (hC : C o = .inr (2, [.null, .int 0, .int 0, .int 0, .int 0])) : Met l yX2_init (wm yX2_init cX2_init 1 none) { frames := 1, cells := 1, slots := 80, locals := 12 } (gPc D Y ad N sz [.ref (ad o)] C) (gQ D ad N sz (fun ad' N' C' => N' = N + 1 ∧ C' = va_up (va_up C N (.inl (Y 0, 80, .inl (fun _ => 0)))) o (.inr (2, [.ref (ad' N), .int 0, .int 0, .int 0, .int 0])))) 1 80 (gA ad N sz) := by
  refine gMet RX2 rfl (by decide +kernel) (Nat.le_of_ble_eq_true rfl) (lv := [(0, .ref (ad o))]) rfl ?_
  intro p e s m below meth c ls F hr hlocks hname hP hl
  refine lv_aload_n F.1 F.2.1 dX2_init_0 rfl (lv_at hl 0 rfl) ?_
  refine g_obj F hl.1 mw_97 (by decide) (by decide) dX2_init_1 ?_
  refine lv_aload_n F.1 F.2.1 dX2_init_4 rfl (lv_at hl 0 rfl) ?_
  refine lv_bipush (v := 80) F.1 F.2.1 dX2_init_5 (by decide) ?_
  refine g_newa (atype := .int) F hP (gD hI) va_S.rf (t0 := 0) rfl (fun U cA h => h) rfl mw_50 (by decide) (n' := 80) rfl (by decide) (by decide) (by decide) dX2_init_7 (fun q H1 hP1 hD1 hS1 => ?_)
  obtain ⟨ad1, ea1⟩ : ∃ z, z = va_up ad N q := ⟨_, rfl⟩
  have e0 : ad o = ad1 o := by rw [ea1, va_up_ne _ _ (by omega)]
  have eN : q = ad1 N := by rw [ea1, va_up_self]
  rw [← ea1] at hP1 hD1
  have hq := g_new_ge (by rw [ea1] at hD1; exact hD1)
  have hC1 : va_up C N (.inl (Y 0, 80, .inl (fun _ => 0))) o = .inr (2, [.null, .int 0, .int 0, .int 0, .int 0]) := (va_up_ne _ _ (by omega)).trans hC
  rw [eN]
  refine g_putF (v := .ref (ad1 N)) F hP1 hD1 hS1 e0 (by omega) hC1 rfl Wi_wsX20 tyX2 tyX2_ok nmX2 0 (by decide) mw_98 rfl hname rfl rfl rfl (Nat.le_of_ble_eq_true rfl) (fun j => rfl) dX2_init_9 (fun H2 locs2 hP2 hD2 hS2 => ?_)
  refine lv_aload_n F.1 F.2.1 dX2_init_12 rfl (lv_at hl 0 rfl) ?_
  refine lv_iconst (v := 0) F.1 F.2.1 dX2_init_13 (by decide) ?_
  refine g_put F hP2 hD2 hS2 e0 (by omega) (va_up_self _ _ _) rfl Wi_wsX20 tyX2 tyX2_ok nmX2 1 (by decide) mw_99 rfl rfl rfl (Nat.le_of_ble_eq_true rfl) (fun j => congrFun (uu (e' := .inr (2, [.ref (ad1 N), .int 0, .int 0, .int 0, .int 0]))) j) dX2_init_14 (fun H3 locs3 hP3 hD3 hS3 => ?_)
  refine lv_aload_n F.1 F.2.1 dX2_init_17 rfl (lv_at hl 0 rfl) ?_
  refine lv_iconst (v := 0) F.1 F.2.1 dX2_init_18 (by decide) ?_
  refine g_put F hP3 hD3 hS3 e0 (by omega) (va_up_self _ _ _) rfl Wi_wsX20 tyX2 tyX2_ok nmX2 2 (by decide) mw_100 rfl rfl rfl (Nat.le_of_ble_eq_true rfl) (fun j => congrFun (uu (e' := .inr (2, [.ref (ad1 N), .int 0, .int 0, .int 0, .int 0]))) j) dX2_init_19 (fun H4 locs4 hP4 hD4 hS4 => ?_)
  exact g_vret F hr hlocks hP4 hS4 ⟨rfl, rfl⟩ dX2_init_22 ⟨by omega, fun i hi => by rw [ea1, va_up_ne _ _ (by omega)], wI_of hD4, fun i a b => by rw [show i = N by omega, ← eN]; exact hq⟩ ⟨rfl, rfl⟩
