/-! Constructors: History's -/
def isNew0 (Y : Nat → ClassId) (ad : Nat → Nat) (C : Nat → va_E) (o : Nat) : Prop := isRing Y ad C o 0 0 ∧ ∀ i, i < 6 → isState Y ad C (o + 2 + 18 * i) fr0 0
theorem isNew0_mv {Y : Nat → ClassId} {ad ad' : Nat → Nat} {C C' : Nat → va_E} {b : Nat} (h : isNew0 Y ad C b) (hC : ∀ j, b ≤ j → j < b + 110 → C' j = C j) (hA : ∀ j, b ≤ j → j < b + 110 → ad' j = ad j) : isNew0 Y ad' C' b := by
  obtain ⟨⟨h1, q, h2, h3⟩, h4⟩ := h
  exact ⟨⟨by rw [hC _ (by omega) (by omega), h1, hA _ (by omega) (by omega)], q, by rw [hC _ (by omega) (by omega), h2], fun i hi => by rw [h3 i hi, hA _ (by omega) (by omega)]⟩, fun i hi => isState_mv (h4 i hi) (fun j a c => hC j (by omega) (by omega)) (fun j a c => hA j (by omega) (by omega))⟩
/-- a row of states in the making: k of n are there -/
def isMk (Y : Nat → ClassId) (ad : Nat → Nat) (C : Nat → va_E) (a b n k : Nat) : Prop := (∃ q : Nat → Option Nat, C a = .inl (Y 2, n, .inr (.inr (.inr (.inr q)))) ∧ ∀ i, i < k → q i = some (ad (b + 18 * i))) ∧ ∀ i, i < k → isState Y ad C (b + 18 * i) fr0 0
set_option maxRecDepth 20000 in
set_option maxHeartbeats 4000000 in
/-- History's -/
theorem c_X0_init (l : Launch) (D : va_G) (Y : Nat → ClassId) (ad : Nat → Nat) (N sz : Nat) (hI : wI ad N) (C : Nat → va_E) (o : Nat) (ho : o + 1 = N) (hC : C o = .inr (0, [.null, .int 0, .int 0])) : Met l yX0_init (wm yX0_init cX0_init 2 none) { frames := 3, cells := 109, slots := 1086, locals := 55 } (gPc D Y ad N sz [.ref (ad o)] C) (gQ D ad N sz (gMk C o 109 (fun ad' C' o => isNew0 Y ad' C' o))) 109 1086 (gA ad N sz) := by
  subst ho
  refine gMet RX0 rfl (by decide +kernel) (Nat.le_of_ble_eq_true rfl) (lv := [(0, .ref (ad o))]) rfl ?_
  intro p e s m below meth c ls F hr hlocks hname hP hl
  refine lv_aload_n F.1 F.2.1 dX0_init_0 rfl (lv_at hl 0 rfl) ?_
  refine g_obj F hl.1 mw_88 (by decide) (by decide) dX0_init_1 ?_
  refine lv_aload_n F.1 F.2.1 dX0_init_4 rfl (lv_at hl 0 rfl) ?_
  refine lv_bipush (v := 6) F.1 F.2.1 dX0_init_5 (by decide) ?_
  refine g_newq F hP (gD hI) va_S.rf mw_89 (by decide) (n' := 6) rfl (by decide) (by decide) (by decide) dX0_init_7 (fun q H1 hP1 hD1 hS1 => ?_)
  obtain ⟨ad1, ea1, eq1, hA1⟩ := ad_nm ad (o + 1) q
  obtain ⟨C1, eC1, hC1, hB1⟩ := up_nm C (o + 1) (.inl (Y 2, 6, .inr (.inr (.inr (.inr (fun _ => none))))))
  rw [← ea1, ← eC1] at hP1 hD1
  rw [eq1]
  obtain ⟨C2, eC2, hC2, hB2⟩ := up_nm C1 o (.inr (0, [.ref (ad1 (o + 1)), .int 0, .int 0]))
  refine g_putF (v := .ref (ad1 (o + 1))) (C1 := C2) F hP1 hD1 hS1 (hA1 o (by omega)).symm (by omega) ((hB1 o (by omega)).trans hC) rfl Wi_wsX00 tyX0 tyX0_ok nmX0 0 (by decide) mw_90 rfl hname rfl rfl rfl (Nat.le_of_ble_eq_true rfl) (fun j => congrFun eC2.symm j) dX0_init_10 (fun H2 locs2 hP2 hD2 hS2 => ?_)
  refine lv_iconst (v := 0) F.1 F.2.1 dX0_init_13 (by decide) ?_
  refine lv_istore_n (lv' := [(1, .int 0), (0, .ref (ad o))]) F.1 F.2.1 dX0_init_14 rfl hl (by decide) rfl (fun ls hl => ?_)
  have loop : ∀ (d k : Nat), d + k = 6 → ∀ (ad1 : Nat → Nat) (C1 : Nat → va_E) (H : Heap) (locs : List Loc) (ls : Array Slot), (∀ i, i < o + 1 → ad1 i = ad i) → (∀ j, j < o → C1 j = C j) → C1 o = .inr (0, [.ref (ad1 (o + 1)), .int 0, .int 0]) → isMk Y ad1 C1 (o + 1) (o + 2) 6 k → wP D ad1 (o + 2 + 18 * k) C1 H → va_D (gA ad (o + 1) sz) (wld ad1 (o + 2 + 18 * k) C1) → va_S (gA ad (o + 1) sz) s.heap H locs → lv_has ls 2 [(1, .int (nI k)), (0, .ref (ad o))] →
      W p l e { frames := 3, cells := 109, slots := 1086, locals := 55 } s m #[.ref (ad o)] below meth c H locs (1 + 18 * k) (6 + 180 * k) (MQ below (gQ D ad (o + 1) sz (gMk C o 109 (fun ad' C' o => isNew0 Y ad' C' o))) #[.ref (ad o)] s 109 1086 (gA ad (o + 1) sz)) (F0 m 15 ls []) := by
    intro d
    induction d with
    | zero =>
      intro k hk ad1 C1 H locs ls hA hB hCo hM hP hD hS hl
      obtain rfl : k = 6 := by omega
      obtain ⟨⟨g, hg, hgi⟩, hst⟩ := hM
      refine lv_iload_n F.1 F.2.1 dX0_init_15 rfl (lv_at hl 0 rfl) ?_
      refine lv_bipush (v := 6) F.1 F.2.1 dX0_init_16 (by decide) ?_
      refine lv_icmp_ge (tgt := 40) F.1 F.2.1 dX0_init_18 (by decide) (fun c1 => ?_) (fun c1 => absurd (show (6 : Int32) ≤ nI 6 by decide) c1)
      refine lv_aload_n F.1 F.2.1 dX0_init_40 rfl (lv_at hl 1 rfl) ?_
      refine lv_iconst (v := 0) F.1 F.2.1 dX0_init_41 (by decide) ?_
      refine g_put F hP hD hS (C1 := C1) (hA o (by omega)).symm (by omega) hCo rfl Wi_wsX00 tyX0 tyX0_ok nmX0 1 (by decide) mw_91 rfl rfl rfl (Nat.le_of_ble_eq_true rfl) (fun j => congrFun (up_id hCo).symm j) dX0_init_42 (fun H2 locs2 hP hD hS => ?_)
      refine lv_aload_n F.1 F.2.1 dX0_init_45 rfl (lv_at hl 1 rfl) ?_
      refine lv_iconst (v := 0) F.1 F.2.1 dX0_init_46 (by decide) ?_
      refine g_put F hP hD hS (C1 := C1) (hA o (by omega)).symm (by omega) hCo rfl Wi_wsX00 tyX0 tyX0_ok nmX0 2 (by decide) mw_92 rfl rfl rfl (Nat.le_of_ble_eq_true rfl) (fun j => congrFun (up_id hCo).symm j) dX0_init_47 (fun H3 locs3 hP hD hS => ?_)
      exact g_vret2 F hr hlocks hP hD hS ⟨rfl, rfl⟩ dX0_init_50 (by omega) hA ⟨rfl, hB, ⟨hCo, g, hg, hgi⟩, hst⟩
    | succ d ih =>
      intro k hk ad1 C1 H locs ls hA hB hCo hM hP hD hS hl
      obtain ⟨⟨g, hg, hgi⟩, hst⟩ := hM
      have hk6 : k < 6 := by omega
      refine lv_iload_n F.1 F.2.1 dX0_init_15 rfl (lv_at hl 0 rfl) ?_
      refine lv_bipush (v := 6) F.1 F.2.1 dX0_init_16 (by decide) ?_
      refine lv_icmp_ge (tgt := 40) F.1 F.2.1 dX0_init_18 (by decide) (fun c1 => absurd c1 (nI_ge (b := 6) hk6 (by decide))) (fun c1 => ?_)
      refine lv_aload_n F.1 F.2.1 dX0_init_21 rfl (lv_at hl 1 rfl) ?_
      refine g_get F hP (hA o (by omega)).symm (by omega) hCo rfl Wi_wsX00 0 (by decide) mw_90 (v := .ref (ad1 (o + 1))) rfl dX0_init_22 ?_
      refine lv_iload_n F.1 F.2.1 dX0_init_25 rfl (lv_at hl 0 rfl) ?_
      refine g_mk F hP hD hS Wi_wsX60 tyX6 tyX6_ok mw_89 mw_14 mw_15 rfl fsX6 (fun ad N sz hI C o ho hC => c_X6_init l D Y ad N sz hI C o ho hC) (cwIm 0 F.2.2.2.2.1 (fun _ h => h) mw_34 mw_93 mw_33 mw_15 rfl rfl rfl ⟨by decide, by decide, by decide +kernel⟩ ⟨by decide, by decide⟩) hl.1 (Nat.le_of_ble_eq_true rfl) (by show 1 + 18 * k + 1 + 17 ≤ 109; omega) (by show 6 + 180 * k + 7 + 173 ≤ 1086; omega) dX0_init_26 dX0_init_29 dX0_init_30 (fun ad2 C2 H2 locs2 hA2 hB2 is2 hP2 hD2 hS2 => ?_)
      obtain ⟨C3, eC3, hC3, hB3⟩ := up_nm C2 (o + 1) (.inl (Y 2, 6, .inr (.inr (.inr (.inr (va_up g k (some (ad2 (o + 2 + 18 * k)))))))))
      refine g_aast (C1 := C3) F hP2 hD2 hS2 (hA2 (o + 1) (by omega)).symm (by omega) ((hB2 (o + 1) (by omega)).trans hg) rfl (by omega) is2.1 rfl hk6 (by decide) (fun j => congrFun eC3.symm j) dX0_init_33 (fun H3 locs3 hP3 hD3 hS3 => ?_)
      refine lv_iinc (v := (nI k) + 1) (lv' := [(1, .int ((nI k) + 1)), (0, .ref (ad o))]) F.1 F.2.1 dX0_init_34 hl (k := 0) rfl rfl (by decide) rfl (fun ls hl => ?_)
      refine lv_goto (tgt := 15) F.1 F.2.1 dX0_init_37 (by decide) ?_
      have eN : o + 2 + 18 * k + 1 + 17 = o + 2 + 18 * (k + 1) := by omega
      rw [eN] at hP3 hD3
      rw [show 1 + 18 * k + 1 + 17 = 1 + 18 * (k + 1) by omega, show 6 + 180 * k + 7 + 173 = 6 + 180 * (k + 1) by omega]
      refine ih (k + 1) (by omega) ad2 C3 H3 locs3 ls (fun i hi => by rw [hA2 i (by omega), hA i hi]) (fun j hj => by rw [hB3 j (by omega), hB2 j (by omega), hB j hj]) (by rw [hB3 o (by omega), hB2 o (by omega), hCo, hA2 (o + 1) (by omega)]) ⟨⟨_, hC3, fun i hi => ?_⟩, fun i hi => ?_⟩ hP3 hD3 hS3 (by rw [nI_succ]; exact hl)
      · by_cases q : i = k
        · rw [q, va_up_self]
        · rw [va_up_ne _ _ q, hgi i (by omega), hA2 _ (by omega)]
      · by_cases q : i = k
        · rw [q]; exact isState_mv is2 (fun j a b => hB3 j (by omega)) (fun j a b => rfl)
        · exact isState_mv (hst i (by omega)) (fun j a b => by rw [hB3 j (by omega), hB2 j (by omega)]) (fun j a b => hA2 j (by omega))
  exact loop 6 0 rfl ad1 C2 H2 locs2 ls hA1 (fun j hj => by rw [hB2 j (by omega), hB1 j (by omega)]) hC2 ⟨⟨_, (hB2 (o + 1) (by omega)).trans hC1, fun i hi => absurd hi (Nat.not_lt_zero _)⟩, fun i hi => absurd hi (Nat.not_lt_zero _)⟩ hP2 hD2 hS2 hl

