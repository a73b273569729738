/-! Constructors: the small ones -/
theorem g_ge {ad ad0 : Nat → Nat} {N N0 sz : Nat} {C : Nat → va_E} (hD : va_D (gA ad0 N0 sz) (wld ad N C)) (hN : N0 ≤ N) (hA : ∀ i, i < N0 → ad i = ad0 i) : ∀ i, N0 ≤ i → i < N → sz ≤ ad i := by
  intro i h1 h2
  rcases wA_of hD h2 with ⟨j, hj, e⟩ | h
  · rw [← hA j hj] at e
    have := wI_of hD i j h2 (by omega) e
    omega
  · exact h
section END2
variable {p : Program} {l : Launch} {e : Env} {R : Room} {s : State} {m : MethodId} {args : Array Value} {below : List Frame} {meth : Method} {c : Code} {H : Heap} {locs : List Loc} {cells slots : Nat}
variable {cc : ByteArray} {pc : Nat} {ls : Array Slot} {D : va_G} {Y : Nat → ClassId} {ad ad0 : Nat → Nat} {N N0 sz : Nat} {C : Nat → va_E} {own : String} {nL : Nat}
theorem g_vret2 {post : (Nat → Nat) → Nat → (Nat → va_E) → Prop} {mc ms : Nat} (F : gFix p s m c args cc own nL D Y ad0 N0 sz) (hr : meth.sig.returnType = none) (hlocks : meth.locks = false) (hP : wP D ad N C H) (hD : va_D (gA ad0 N0 sz) (wld ad N C)) (hS : va_S (gA ad0 N0 sz) s.heap H locs) (hcs : cells = mc ∧ slots = ms) (hdg : decode cc pc = .ok (.return_, 1)) (hN : N0 ≤ N) (hA : ∀ i, i < N0 → ad i = ad0 i) (hq : post ad N C) : W p l e R s m args below meth c H locs cells slots (MQ below (gQ D ad0 N0 sz post) args s mc ms (gA ad0 N0 sz)) (F0 m pc ls []) :=
  g_vret F hr hlocks hP hS hcs hdg ⟨hN, hA, wI_of hD, g_ge hD hN hA⟩ hq
end END2
def fr0 : Nat → Int32 := fun j => if j < 4 then FIv j else 0
section MV
variable {Y : Nat → ClassId} {ad ad' : Nat → Nat} {C C' : Nat → va_E} {f : Nat → Int32} {b : Nat}
theorem isSett_mv (h : isSett Y ad C b f) (hC : ∀ j, b ≤ j → j < b + 2 → C' j = C j) (hA : ∀ j, b ≤ j → j < b + 2 → ad' j = ad j) : isSett Y ad' C' b f := by
  obtain ⟨h1, q, h2, h3⟩ := h
  exact ⟨by rw [hC _ (by omega) (by omega), h1, hA _ (by omega) (by omega)], q, by rw [hC _ (by omega) (by omega), h2], h3⟩
theorem isStair_mv (h : isStair Y ad C b f) (hC : ∀ j, b ≤ j → j < b + 7 → C' j = C j) (hA : ∀ j, b ≤ j → j < b + 7 → ad' j = ad j) : isStair Y ad' C' b f := by
  obtain ⟨h1, ⟨q, h2, h3⟩, h4⟩ := h
  refine ⟨by rw [hC _ (by omega) (by omega), h1, hA _ (by omega) (by omega)], ⟨q, by rw [hC _ (by omega) (by omega), h2], fun i hi => by rw [h3 i hi, hA _ (by omega) (by omega)]⟩, fun i hi => ?_⟩
  obtain ⟨q2, h5, h6⟩ := h4 i hi
  exact ⟨q2, by rw [hC _ (by omega) (by omega), h5], h6⟩
theorem isLog_mv (h : isLog Y ad C b f) (hC : ∀ j, b ≤ j → j < b + 6 → C' j = C j) (hA : ∀ j, b ≤ j → j < b + 6 → ad' j = ad j) : isLog Y ad' C' b f := by
  obtain ⟨h1, ⟨q, h2, h3⟩, h4⟩ := h
  refine ⟨by rw [hC _ (by omega) (by omega), h1, hA _ (by omega) (by omega)], ⟨q, by rw [hC _ (by omega) (by omega), h2], fun i hi => by rw [h3 i hi, hA _ (by omega) (by omega)]⟩, fun i hi => ?_⟩
  obtain ⟨q2, h5, h6⟩ := h4 i hi
  exact ⟨q2, by rw [hC _ (by omega) (by omega), h5], h6⟩
theorem isState_mv {g : Int32} (h : isState Y ad C b f g) (hC : ∀ j, b ≤ j → j < b + 18 → C' j = C j) (hA : ∀ j, b ≤ j → j < b + 18 → ad' j = ad j) : isState Y ad' C' b f g := by
  obtain ⟨h1, h2, h3, h4, h5, h6⟩ := h
  refine ⟨?_, isSett_mv h2 (fun j a c => hC j (by omega) (by omega)) (fun j a c => hA j (by omega) (by omega)), isStair_mv h3 (fun j a c => hC j (by omega) (by omega)) (fun j a c => hA j (by omega) (by omega)), by rw [hC _ (by omega) (by omega), h4], isLog_mv h5 (fun j a c => hC j (by omega) (by omega)) (fun j a c => hA j (by omega) (by omega)), isEnd_same h6 (hC _ (by omega) (by omega))⟩
  rw [hC _ (by omega) (by omega), h1]
  unfold stO
  rw [hA _ (by omega) (by omega), hA _ (by omega) (by omega), hA _ (by omega) (by omega), hA _ (by omega) (by omega), hA _ (by omega) (by omega)]
end MV
set_option maxRecDepth 20000 in
set_option maxHeartbeats 2000000 in
/-- Hoop's -/
theorem c_X1_init (l : Launch) (D : va_G) (Y : Nat → ClassId) (ad : Nat → Nat) (N sz : Nat) (hI : wI ad N) (C : Nat → va_E) (o : Nat) (ho : o + 1 = N) (hC : C o = hpV 0 0 0 0 0 0 0 0 0 0) : Met l yX1_init (wm yX1_init cX1_init 1 none) { frames := 1, cells := 0, slots := 0, locals := 12 } (gPc D Y ad N sz [.ref (ad o)] C) (gQ D ad N sz (gMk C o 0 (fun _ C' o => C' o = hpV 0 0 0 0 0 0 0 0 0 0))) 0 0 (gA ad N sz) := by
  refine gMet RX1 rfl (by decide +kernel) (Nat.le_of_ble_eq_true rfl) (lv := [(0, .ref (ad o))]) rfl ?_
  intro p e s m below meth c ls F hr hlocks hname hP hl
  refine lv_aload_n F.1 F.2.1 dX1_init_0 rfl (lv_at hl 0 rfl) ?_
  refine g_obj F hl.1 mw_76 (by decide) (by decide) dX1_init_1 ?_
  refine lv_aload_n F.1 F.2.1 dX1_init_4 rfl (lv_at hl 0 rfl) ?_
  refine lv_iconst (v := 0) F.1 F.2.1 dX1_init_5 (by decide) ?_
  refine g_put F hP (gD hI) va_S.rf rfl (show o < N by omega) hC rfl Wi_wsX10 tyX1 tyX1_ok nmX1 0 (by decide) mw_77 rfl rfl rfl (Nat.le_of_ble_eq_true rfl) (C1 := C) (fun j => congrFun (up_id hC).symm j) dX1_init_6 (fun H1 locs1 hP1 hD1 hS1 => ?_)
  exact g_vret2 F hr hlocks hP1 hD1 hS1 ⟨rfl, rfl⟩ dX1_init_9 (Nat.le_refl _) (fun _ _ => rfl) ⟨ho.symm, fun _ _ => rfl, hC⟩
set_option maxRecDepth 20000 in
set_option maxHeartbeats 2000000 in
/-- Pad's -/
theorem c_X2_init (l : Launch) (D : va_G) (Y : Nat → ClassId) (ad : Nat → Nat) (N sz : Nat) (hI : wI ad N) (C : Nat → va_E) (o : Nat) (ho : o + 1 = N) (hC : C o = .inr (2, [.null, .int 0, .int 0, .int 0, .int 0])) : Met l yX2_init (wm yX2_init cX2_init 1 none) { frames := 1, cells := 1, slots := 80, locals := 12 } (gPc D Y ad N sz [.ref (ad o)] C) (gQ D ad N sz (gMk C o 1 (fun ad' C' o => C' o = pdV ad' o 0 0 0 0 ∧ C' (o + 1) = .inl (Y 0, 80, .inl (fun _ => 0))))) 1 80 (gA ad N sz) := by
  subst ho
  refine gMet RX2 rfl (by decide +kernel) (Nat.le_of_ble_eq_true rfl) (lv := [(0, .ref (ad o))]) rfl ?_
  intro p e s m below meth c ls F hr hlocks hname hP hl
  refine lv_aload_n F.1 F.2.1 dX2_init_0 rfl (lv_at hl 0 rfl) ?_
  refine g_obj F hl.1 mw_97 (by decide) (by decide) dX2_init_1 ?_
  refine lv_aload_n F.1 F.2.1 dX2_init_4 rfl (lv_at hl 0 rfl) ?_
  refine lv_bipush (v := 80) F.1 F.2.1 dX2_init_5 (by decide) ?_
  refine g_newa (atype := .int) F hP (gD hI) va_S.rf (t0 := 0) rfl (fun U cA h => h) rfl mw_50 (by decide) (n' := 80) rfl (by decide) (by decide) (by decide) dX2_init_7 (fun q H1 hP1 hD1 hS1 => ?_)
  obtain ⟨ad1, ea1⟩ : ∃ z, z = va_up ad (o + 1) q := ⟨_, rfl⟩
  have e0 : ad o = ad1 o := by rw [ea1, va_up_ne _ _ (by omega)]
  have eN : q = ad1 (o + 1) := by rw [ea1, va_up_self]
  rw [← ea1] at hP1 hD1
  have hC1 : va_up C (o + 1) (.inl (Y 0, 80, .inl (fun _ => 0))) o = .inr (2, [.null, .int 0, .int 0, .int 0, .int 0]) := (va_up_ne _ _ (by omega)).trans hC
  rw [eN]
  refine g_putF (v := .ref (ad1 (o + 1))) F hP1 hD1 hS1 e0 (by omega) hC1 rfl Wi_wsX20 tyX2 tyX2_ok nmX2 0 (by decide) mw_98 rfl hname rfl rfl rfl (Nat.le_of_ble_eq_true rfl) (fun j => rfl) dX2_init_9 (fun H2 locs2 hP2 hD2 hS2 => ?_)
  refine lv_aload_n F.1 F.2.1 dX2_init_12 rfl (lv_at hl 0 rfl) ?_
  refine lv_iconst (v := 0) F.1 F.2.1 dX2_init_13 (by decide) ?_
  refine g_put F hP2 hD2 hS2 e0 (by omega) (va_up_self _ _ _) rfl Wi_wsX20 tyX2 tyX2_ok nmX2 1 (by decide) mw_99 rfl rfl rfl (Nat.le_of_ble_eq_true rfl) (fun j => congrFun (uu (e' := .inr (2, [.ref (ad1 (o + 1)), .int 0, .int 0, .int 0, .int 0]))) j) dX2_init_14 (fun H3 locs3 hP3 hD3 hS3 => ?_)
  refine lv_aload_n F.1 F.2.1 dX2_init_17 rfl (lv_at hl 0 rfl) ?_
  refine lv_iconst (v := 0) F.1 F.2.1 dX2_init_18 (by decide) ?_
  refine g_put F hP3 hD3 hS3 e0 (by omega) (va_up_self _ _ _) rfl Wi_wsX20 tyX2 tyX2_ok nmX2 2 (by decide) mw_100 rfl rfl rfl (Nat.le_of_ble_eq_true rfl) (fun j => congrFun (uu (e' := .inr (2, [.ref (ad1 (o + 1)), .int 0, .int 0, .int 0, .int 0]))) j) dX2_init_19 (fun H4 locs4 hP4 hD4 hS4 => ?_)
  exact g_vret2 F hr hlocks hP4 hD4 hS4 ⟨rfl, rfl⟩ dX2_init_22 (by omega) (fun i hi => by rw [ea1, va_up_ne _ _ (by omega)]) ⟨rfl, fun j hj => by rw [va_up_ne _ _ (by omega), va_up_ne _ _ (by omega)], va_up_self _ _ _, by rw [va_up_ne _ _ (by omega), va_up_self]⟩
set_option maxRecDepth 20000 in
set_option maxHeartbeats 2000000 in
/-- Settings' -/
theorem c_X4_init (l : Launch) (D : va_G) (Y : Nat → ClassId) (ad : Nat → Nat) (N sz : Nat) (hI : wI ad N) (C : Nat → va_E) (o : Nat) (ho : o + 1 = N) (hC : C o = .inr (4, [.null])) : Met l yX4_init (wm yX4_init cX4_init 1 none) { frames := 1, cells := 1, slots := 4, locals := 15 } (gPc D Y ad N sz [.ref (ad o)] C) (gQ D ad N sz (gMk C o 1 (fun ad' C' o => isSett Y ad' C' o fr0))) 1 4 (gA ad N sz) := by
  subst ho
  refine gMet RX4 rfl (by decide +kernel) (Nat.le_of_ble_eq_true rfl) (lv := [(0, .ref (ad o))]) rfl ?_
  intro p e s m below meth c ls F hr hlocks hname hP hl
  refine lv_aload_n F.1 F.2.1 dX4_init_0 rfl (lv_at hl 0 rfl) ?_
  refine g_obj F hl.1 mw_57 (by decide) (by decide) dX4_init_1 ?_
  refine lv_aload_n F.1 F.2.1 dX4_init_4 rfl (lv_at hl 0 rfl) ?_
  obtain ⟨t, cell, hz, h1, h2, h3, h4, h5, h6, h7⟩ := F.2.2.2.2.2.2.1.2.2.2
  refine va_gets F.1 F.2.1 hz va_S.rf F.2.2.2.1 (F.2.2.2.2.1 _ mw_58) (fun _ h9 => h9) dX4_init_5 ?_
  refine g_clone F hl.1 hP (gD hI) va_S.rf h1 h2 h3 h4 h5 h6 h7 mw_59 (by decide) (Nat.le_of_ble_eq_true rfl) (by decide) (by decide) dX4_init_8 (fun q H1 hP1 hD1 hS1 => ?_)
  obtain ⟨ad1, ea1⟩ : ∃ z, z = va_up ad (o + 1) q := ⟨_, rfl⟩
  have e0 : ad o = ad1 o := by rw [ea1, va_up_ne _ _ (by omega)]
  have eN : q = ad1 (o + 1) := by rw [ea1, va_up_self]
  rw [← ea1] at hP1 hD1
  have hC1 : va_up C (o + 1) (.inl (Y 0, 4, .inl FIv)) o = .inr (4, [.null]) := (va_up_ne _ _ (by omega)).trans hC
  rw [eN]
  refine va_castA F.1 F.2.1 F.2.2.2.1 (F.2.2.2.2.1 _ mw_64) hP1 (o + 1) (wld_at (show o + 1 < o + 1 + 1 by omega) (va_up_self _ _ _)) (va_nm_int (F.2.2.2.2.2.1.2 0 _ rfl).2) dX4_init_11 ?_
  refine g_putF (v := .ref (ad1 (o + 1))) F hP1 hD1 hS1 e0 (by omega) hC1 rfl Wi_wsX40 tyX4 tyX4_ok nmX4 0 (by decide) mw_65 rfl hname rfl rfl rfl (Nat.le_of_ble_eq_true rfl) (fun j => rfl) dX4_init_14 (fun H2 locs2 hP2 hD2 hS2 => ?_)
  exact g_vret2 F hr hlocks hP2 hD2 hS2 ⟨rfl, rfl⟩ dX4_init_17 (by omega) (fun i hi => by rw [ea1, va_up_ne _ _ (by omega)]) ⟨rfl, fun j hj => by rw [va_up_ne _ _ (by omega), va_up_ne _ _ (by omega)], va_up_self _ _ _, FIv, by rw [va_up_ne _ _ (by omega), va_up_self], fun i hi => (if_pos hi).symm⟩
set_option maxRecDepth 20000 in
set_option maxHeartbeats 2000000 in
/-- Stair's -/
theorem c_X5_init (l : Launch) (D : va_G) (Y : Nat → ClassId) (ad : Nat → Nat) (N sz : Nat) (hI : wI ad N) (C : Nat → va_E) (o : Nat) (ho : o + 1 = N) (hC : C o = .inr (5, [.null, .int 0])) : Met l yX5_init (wm yX5_init cX5_init 1 none) { frames := 1, cells := 6, slots := 105, locals := 12 } (gPc D Y ad N sz [.ref (ad o)] C) (gQ D ad N sz (gMk C o 6 (fun ad' C' o => isStair Y ad' C' o fr0))) 6 105 (gA ad N sz) := by
  subst ho
  refine gMet RX5 rfl (by decide +kernel) (Nat.le_of_ble_eq_true rfl) (lv := [(0, .ref (ad o))]) rfl ?_
  intro p e s m below meth c ls F hr hlocks hname hP hl
  refine lv_aload_n F.1 F.2.1 dX5_init_0 rfl (lv_at hl 0 rfl) ?_
  refine g_obj F hl.1 mw_69 (by decide) (by decide) dX5_init_1 ?_
  refine lv_aload_n F.1 F.2.1 dX5_init_4 rfl (lv_at hl 0 rfl) ?_
  refine lv_iconst (v := 5) F.1 F.2.1 dX5_init_5 (by decide) ?_
  refine lv_bipush (v := 20) F.1 F.2.1 dX5_init_6 (by decide) ?_
  refine g_mna F hP (gD hI) va_S.rf mw_70 (N' := 5) (K' := 20) (by decide) (by decide) rfl rfl (by decide) (by decide) (by decide) (by decide) (by decide) dX5_init_8 (fun ad1 C1 H1 hA1 hB1 hG hcol hP1 hD1 hS1 => ?_)
  obtain ⟨g, hg, hgi⟩ := hG
  have hC1 : C1 o = .inr (5, [.null, .int 0]) := (hB1 o (by omega)).trans hC
  refine g_putF (v := .ref (ad1 (o + 1))) F hP1 hD1 hS1 (hA1 o (by omega)).symm (by omega) hC1 rfl Wi_wsX50 tyX5 tyX5_ok nmX5 0 (by decide) mw_71 rfl hname rfl rfl rfl (Nat.le_of_ble_eq_true rfl) (fun j => rfl) dX5_init_12 (fun H2 locs2 hP2 hD2 hS2 => ?_)
  refine lv_aload_n F.1 F.2.1 dX5_init_15 rfl (lv_at hl 0 rfl) ?_
  refine lv_iconst (v := 0) F.1 F.2.1 dX5_init_16 (by decide) ?_
  refine g_put F hP2 hD2 hS2 (hA1 o (by omega)).symm (by omega) (va_up_self _ _ _) rfl Wi_wsX50 tyX5 tyX5_ok nmX5 1 (by decide) mw_72 rfl rfl rfl (Nat.le_of_ble_eq_true rfl) (fun j => congrFun (uu (e' := .inr (5, [.ref (ad1 (o + 1)), .int 0]))) j) dX5_init_17 (fun H3 locs3 hP3 hD3 hS3 => ?_)
  refine g_vret2 F hr hlocks hP3 hD3 hS3 ⟨rfl, rfl⟩ dX5_init_20 (by omega) hA1 ⟨rfl, fun j hj => by rw [va_up_ne _ _ (by omega), hB1 j (by omega)], va_up_self _ _ _, ⟨g, (va_up_ne _ _ (by omega)).trans hg, hgi⟩, fun i hi => ⟨fun _ => 0, ?_, fun k hk => (if_neg (by omega)).symm⟩⟩
  rw [va_up_ne _ _ (by omega)]; exact hcol i hi
set_option maxRecDepth 20000 in
set_option maxHeartbeats 2000000 in
/-- RunLog's -/
theorem c_X3_init (l : Launch) (D : va_G) (Y : Nat → ClassId) (ad : Nat → Nat) (N sz : Nat) (hI : wI ad N) (C : Nat → va_E) (o : Nat) (ho : o + 1 = N) (hC : C o = .inr (3, [.null, .int 0])) : Met l yX3_init (wm yX3_init cX3_init 1 none) { frames := 1, cells := 5, slots := 44, locals := 12 } (gPc D Y ad N sz [.ref (ad o)] C) (gQ D ad N sz (gMk C o 5 (fun ad' C' o => isLog Y ad' C' o fr0))) 5 44 (gA ad N sz) := by
  subst ho
  refine gMet RX3 rfl (by decide +kernel) (Nat.le_of_ble_eq_true rfl) (lv := [(0, .ref (ad o))]) rfl ?_
  intro p e s m below meth c ls F hr hlocks hname hP hl
  refine lv_aload_n F.1 F.2.1 dX3_init_0 rfl (lv_at hl 0 rfl) ?_
  refine g_obj F hl.1 mw_81 (by decide) (by decide) dX3_init_1 ?_
  refine lv_aload_n F.1 F.2.1 dX3_init_4 rfl (lv_at hl 0 rfl) ?_
  refine lv_iconst (v := 4) F.1 F.2.1 dX3_init_5 (by decide) ?_
  refine lv_bipush (v := 10) F.1 F.2.1 dX3_init_6 (by decide) ?_
  refine g_mna F hP (gD hI) va_S.rf mw_82 (N' := 4) (K' := 10) (by decide) (by decide) rfl rfl (by decide) (by decide) (by decide) (by decide) (by decide) dX3_init_8 (fun ad1 C1 H1 hA1 hB1 hG hcol hP1 hD1 hS1 => ?_)
  obtain ⟨g, hg, hgi⟩ := hG
  have hC1 : C1 o = .inr (3, [.null, .int 0]) := (hB1 o (by omega)).trans hC
  refine g_putF (v := .ref (ad1 (o + 1))) F hP1 hD1 hS1 (hA1 o (by omega)).symm (by omega) hC1 rfl Wi_wsX30 tyX3 tyX3_ok nmX3 0 (by decide) mw_83 rfl hname rfl rfl rfl (Nat.le_of_ble_eq_true rfl) (fun j => rfl) dX3_init_12 (fun H2 locs2 hP2 hD2 hS2 => ?_)
  refine lv_aload_n F.1 F.2.1 dX3_init_15 rfl (lv_at hl 0 rfl) ?_
  refine lv_iconst (v := 0) F.1 F.2.1 dX3_init_16 (by decide) ?_
  refine g_put F hP2 hD2 hS2 (hA1 o (by omega)).symm (by omega) (va_up_self _ _ _) rfl Wi_wsX30 tyX3 tyX3_ok nmX3 1 (by decide) mw_84 rfl rfl rfl (Nat.le_of_ble_eq_true rfl) (fun j => congrFun (uu (e' := .inr (3, [.ref (ad1 (o + 1)), .int 0]))) j) dX3_init_17 (fun H3 locs3 hP3 hD3 hS3 => ?_)
  refine g_vret2 F hr hlocks hP3 hD3 hS3 ⟨rfl, rfl⟩ dX3_init_20 (by omega) hA1 ⟨rfl, fun j hj => by rw [va_up_ne _ _ (by omega), hB1 j (by omega)], va_up_self _ _ _, ⟨g, (va_up_ne _ _ (by omega)).trans hg, hgi⟩, fun i hi => ⟨fun _ => 0, ?_, fun k hk => (if_neg (by omega)).symm⟩⟩
  rw [va_up_ne _ _ (by omega)]; exact hcol i hi

