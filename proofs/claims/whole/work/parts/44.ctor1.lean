/-! Constructors -/
set_option maxRecDepth 20000 in
set_option maxHeartbeats 2000000 in
/-- Hoop's -/
theorem c_X1_init (l : Launch) (D : va_G) (Y : Nat → ClassId) (ad : Nat → Nat) (N sz : Nat) (hI : wI ad N) (C : Nat → va_E) (o : Nat) (ho : o < N) (hC : C o = hpV 0 0 0 0 0 0 0 0 0 0) : Met l yX1_init (wm yX1_init cX1_init 1 none) { frames := 1, cells := 0, slots := 0, locals := 12 } (gPc D Y ad N sz [.ref (ad o)] C) (gQ D ad N sz (fun ad' N' C' => ad' = ad ∧ N' = N ∧ C' = C)) 0 0 (gA ad N sz) := by
  refine gMet RX1 rfl (by decide +kernel) (Nat.le_of_ble_eq_true rfl) (lv := [(0, .ref (ad o))]) rfl ?_
  intro p e s m below meth c ls F hr hlocks hname hP hl
  refine lv_aload_n F.1 F.2.1 dX1_init_0 rfl (lv_at hl 0 rfl) ?_
  refine g_obj F hl.1 mw_76 (by decide) (by decide) dX1_init_1 ?_
  refine lv_aload_n F.1 F.2.1 dX1_init_4 rfl (lv_at hl 0 rfl) ?_
  refine lv_iconst (v := 0) F.1 F.2.1 dX1_init_5 (by decide) ?_
  refine g_put F hP (gD hI) va_S.rf ho hC rfl Wi_wsX10 tyX1 tyX1_ok nmX1 0 (by decide) mw_77 rfl rfl rfl (Nat.le_of_ble_eq_true rfl) (C1 := C) (fun j => congrFun (up_id hC).symm j) dX1_init_6 (fun H1 locs1 hP1 hD1 hS1 => ?_)
  exact g_vret F hr hlocks hP1 hS1 ⟨rfl, rfl⟩ dX1_init_9 ⟨Nat.le_refl _, fun _ _ => rfl, hI, fun i a b => by omega⟩ ⟨rfl, rfl, rfl⟩
