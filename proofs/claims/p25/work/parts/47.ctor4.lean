/-! Constructors: HoopStairs' -/
def isCls0 (Y : Nat → ClassId) (ad : Nat → Nat) (C : Nat → va_E) (o : Nat) : Prop := isCls Y ad C o (fun _ => fr0) (fun _ => 0) 0 0 (fun _ => 0) (fun _ => 0) 0
set_option maxRecDepth 20000 in
set_option maxHeartbeats 4000000 in
/-- HoopStairs' -/
theorem c_X7_init (l : Launch) (D : va_G) (Y : Nat → ClassId) (ad : Nat → Nat) (N sz : Nat) (hI : wI ad N) (C : Nat → va_E) (o : Nat) (ho : o + 1 = N) (hC : C o = .inr (7, [.null, .null, .null, .null, .null, .null])) : Met l yX7_init (wm yX7_init cX7_init 2 none) { frames := 4, cells := 169, slots := 1728, locals := 76 } (gPc D Y ad N sz [.ref (ad o)] C) (gQ D ad N sz (gMk C o 169 (fun ad' C' o => isCls0 Y ad' C' o))) 169 1728 (gA ad N sz) := by
  subst ho
  refine gMet RX7 rfl (by decide +kernel) (Nat.le_of_ble_eq_true rfl) (lv := [(0, .ref (ad o))]) rfl ?_
  intro p e s m below meth c ls F hr hlocks hname hP hl
  refine lv_aload_n F.1 F.2.1 dX7_init_0 rfl (lv_at hl 0 rfl) ?_
  refine g_obj F hl.1 mw_10 (by decide) (by decide) dX7_init_1 ?_
  refine lv_aload_n F.1 F.2.1 dX7_init_4 rfl (lv_at hl 0 rfl) ?_
  refine g_mk F hP (gD hI) va_S.rf Wi_wsX60 tyX6 tyX6_ok mw_13 mw_14 mw_15 rfl fsX6 (fun ad N sz hI C o ho hC => c_X6_init l D Y ad N sz hI C o ho hC) (cwIm 0 F.2.2.2.2.1 (fun _ h => h) mw_34 mw_32 mw_33 mw_15 rfl rfl rfl ⟨by decide, by decide, by decide +kernel⟩ ⟨by decide, by decide⟩) hl.1 (Nat.le_of_ble_eq_true rfl) (by decide) (by decide) dX7_init_5 dX7_init_8 dX7_init_9 (fun ad1 C1 H1 locs1 hA1 hB1 is1 hP1 hD1 hS1 => ?_)
  have hC1 := (hB1 o (by omega)).trans hC
  obtain ⟨C2, eC2, hC2, hB2⟩ := up_nm C1 o (.inr (7, [.ref (ad1 (o + 1)), .null, .null, .null, .null, .null]))
  refine g_putF (v := .ref (ad1 (o + 1))) (C1 := C2) F hP1 hD1 hS1 (hA1 o (by omega)).symm (by omega) hC1 rfl Wi_wsX70 tyX7 tyX7_ok nmX7 0 (by decide) mw_16 rfl hname rfl rfl rfl (Nat.le_of_ble_eq_true rfl) (fun j => congrFun eC2.symm j) dX7_init_12 (fun H2 locs2 hP2 hD2 hS2 => ?_)
  refine lv_aload_n F.1 F.2.1 dX7_init_15 rfl (lv_at hl 0 rfl) ?_
  refine g_mk (N := o + 19) F hP2 hD2 hS2 Wi_wsX00 tyX0 tyX0_ok mw_17 mw_18 mw_19 rfl fsX0 (fun ad N sz hI C o ho hC => c_X0_init l D Y ad N sz hI C o ho hC) (cwIm 0 F.2.2.2.2.1 (fun _ h => h) mw_87 mw_85 mw_86 mw_19 rfl rfl rfl ⟨by decide, by decide, by decide +kernel⟩ ⟨by decide, by decide⟩) hl.1 (Nat.le_of_ble_eq_true rfl) (by decide) (by decide) dX7_init_16 dX7_init_19 dX7_init_20 (fun ad3 C3 H3 locs3 hA3 hB3 is3 hP3 hD3 hS3 => ?_)
  have hC3 := (hB3 o (by omega)).trans hC2
  have a3 : ∀ i, i < o + 1 → ad3 i = ad i := fun i hi => by rw [hA3 i (by omega), hA1 i (by omega)]
  obtain ⟨C4, eC4, hC4, hB4⟩ := up_nm C3 o (.inr (7, [.ref (ad1 (o + 1)), .ref (ad3 (o + 19)), .null, .null, .null, .null]))
  refine g_putF (v := .ref (ad3 (o + 19))) (C1 := C4) F hP3 hD3 hS3 (a3 o (by omega)).symm (by omega) hC3 rfl Wi_wsX70 tyX7 tyX7_ok nmX7 1 (by decide) mw_20 rfl hname rfl rfl rfl (Nat.le_of_ble_eq_true rfl) (fun j => congrFun eC4.symm j) dX7_init_23 (fun H4 locs4 hP4 hD4 hS4 => ?_)
  refine lv_aload_n F.1 F.2.1 dX7_init_26 rfl (lv_at hl 0 rfl) ?_
  refine lv_iconst (v := 2) F.1 F.2.1 dX7_init_27 (by decide) ?_
  refine g_newq (N := o + 129) F hP4 hD4 hS4 mw_13 (by decide) (n' := 2) rfl (by decide) (by decide) (by decide) dX7_init_28 (fun q H5 hP5 hD5 hS5 => ?_)
  obtain ⟨ad5, ea5, eq5, hA5⟩ := ad_nm ad3 (o + 129) q
  obtain ⟨C5, eC5, hC5, hB5⟩ := up_nm C4 (o + 129) (.inl (Y 2, 2, .inr (.inr (.inr (.inr (fun _ => none))))))
  rw [← ea5, ← eC5] at hP5 hD5
  rw [eq5]
  have a5 : ∀ i, i < o + 1 → ad5 i = ad i := fun i hi => by rw [hA5 i (by omega), a3 i hi]
  obtain ⟨C6, eC6, hC6, hB6⟩ := up_nm C5 o (.inr (7, [.ref (ad1 (o + 1)), .ref (ad3 (o + 19)), .ref (ad5 (o + 129)), .null, .null, .null]))
  refine g_putF (v := .ref (ad5 (o + 129))) (C1 := C6) F hP5 hD5 hS5 (a5 o (by omega)).symm (by omega) ((hB5 o (by omega)).trans hC4) rfl Wi_wsX70 tyX7 tyX7_ok nmX7 2 (by decide) mw_21 rfl hname rfl rfl rfl (Nat.le_of_ble_eq_true rfl) (fun j => congrFun eC6.symm j) dX7_init_31 (fun H6 locs6 hP6 hD6 hS6 => ?_)
  have b3 : ∀ j, j ≠ o → j < o + 129 → C6 j = C3 j := fun j a b => by rw [hB6 j a, hB5 j (by omega), hB4 j a]
  have b1 : ∀ j, j ≠ o → j < o + 19 → C6 j = C1 j := fun j a b => by rw [b3 j a (by omega), hB3 j (by omega), hB2 j a]
  have f3 : ∀ i, i < o + 129 → ad5 i = ad3 i := hA5
  have f1 : ∀ i, i < o + 19 → ad5 i = ad1 i := fun i hi => by rw [f3 i (by omega), hA3 i hi]
  have s1 : isState Y ad5 C6 (o + 1) fr0 0 := isState_mv is1 (fun j a b => b1 j (by omega) (by omega)) (fun j a b => f1 j (by omega))
  have s3 : isNew0 Y ad5 C6 (o + 19) := isNew0_mv is3 (fun j a b => b3 j (by omega) (by omega)) (fun j a b => f3 j (by omega))
  have s5 : C6 (o + 129) = .inl (Y 2, 2, .inr (.inr (.inr (.inr (fun _ => none))))) := (hB6 _ (by omega)).trans hC5
  have s0 : ∀ j, j < o → C6 j = C j := fun j hj => by rw [b1 j (by omega) (by omega), hB1 j (by omega)]
  rw [← f1 (o + 1) (by omega), ← f3 (o + 19) (by omega)] at hC6
  clear b3 b1 f3 f1 is1 is3 hB6 hB5 hB4 hB3 hB2 hB1 hC1 hC2 hC3 hC4 hC5 hP5 hD5 hS5 hP4 hD4 hS4 hP3 hD3 hS3 hP2 hD2 hS2 hP1 hD1 hS1 eC6 eC5 eC4 eC2 ea5 eq5 hA5 hA3 hA1 a3
  have tail : ∀ (ad7 : Nat → Nat) (C7 : Nat → va_E) (H : Heap) (locs : List Loc) (ls : Array Slot), (∀ i, i < o + 130 → ad7 i = ad5 i) → (∀ j, j < o + 129 → C7 j = C6 j) → isMk Y ad7 C7 (o + 129) (o + 130) 2 2 → wP D ad7 (o + 166) C7 H → va_D (gA ad (o + 1) sz) (wld ad7 (o + 166) C7) → va_S (gA ad (o + 1) sz) s.heap H locs → lv_has ls 2 [(1, .int 2), (0, .ref (ad o))] →
      W p l e { frames := 4, cells := 169, slots := 1728, locals := 76 } s m #[.ref (ad o)] below meth c H locs 165 1631 (MQ below (gQ D ad (o + 1) sz (gMk C o 169 (fun ad' C' o => isCls0 Y ad' C' o))) #[.ref (ad o)] s 169 1728 (gA ad (o + 1) sz)) (F0 m 60 ls []) := by
    intro ad7 C7 H locs ls hA7 hB7 hM hP7 hD7 hS7 hl
    obtain ⟨⟨g, hg, hgi⟩, hst⟩ := hM
    have hC7 := (hB7 o (by omega)).trans hC6
    have a7 : ∀ i, i < o + 1 → ad7 i = ad i := fun i hi => by rw [hA7 i (by omega), a5 i hi]
    refine lv_aload_n F.1 F.2.1 dX7_init_60 rfl (lv_at hl 1 rfl) ?_
    refine lv_iconst (v := 2) F.1 F.2.1 dX7_init_61 (by decide) ?_
    refine g_newa (N := o + 166) (atype := .boolean) F hP7 hD7 hS7 (t0 := 1) rfl (fun U cA h => h) rfl mw_22 (by decide) (n' := 2) rfl (by decide) (by decide) (by decide) dX7_init_62 (fun q H8 hP8 hD8 hS8 => ?_)
    obtain ⟨ad8, ea8, eq8, hA8⟩ := ad_nm ad7 (o + 166) q
    obtain ⟨C8, eC8, hC8, hB8⟩ := up_nm C7 (o + 166) (.inl (Y 1, 2, .inl (fun _ => 0)))
    rw [← ea8, ← eC8] at hP8 hD8
    rw [eq8]
    have a8 : ∀ i, i < o + 1 → ad8 i = ad i := fun i hi => by rw [hA8 i (by omega), a7 i hi]
    obtain ⟨C9, eC9, hC9, hB9⟩ := up_nm C8 o (.inr (7, [.ref (ad5 (o + 1)), .ref (ad5 (o + 19)), .ref (ad5 (o + 129)), .ref (ad8 (o + 166)), .null, .null]))
    refine g_putF (v := .ref (ad8 (o + 166))) (C1 := C9) F hP8 hD8 hS8 (a8 o (by omega)).symm (by omega) ((hB8 o (by omega)).trans hC7) rfl Wi_wsX70 tyX7 tyX7_ok nmX7 3 (by decide) mw_23 rfl hname rfl rfl rfl (Nat.le_of_ble_eq_true rfl) (fun j => congrFun eC9.symm j) dX7_init_64 (fun H9 locs9 hP9 hD9 hS9 => ?_)
    refine lv_aload_n F.1 F.2.1 dX7_init_67 rfl (lv_at hl 1 rfl) ?_
    refine g_mk (N := o + 167) F hP9 hD9 hS9 Wi_wsX20 tyX2 tyX2_ok mw_24 mw_25 mw_26 rfl fsX2 (fun ad N sz hI C o ho hC => c_X2_init l D Y ad N sz hI C o ho hC) (cwIm 0 F.2.2.2.2.1 (fun _ h => h) mw_96 mw_94 mw_95 mw_26 rfl rfl rfl ⟨by decide, by decide, by decide +kernel⟩ ⟨by decide, by decide⟩) hl.1 (Nat.le_of_ble_eq_true rfl) (by decide) (by decide) dX7_init_68 dX7_init_71 dX7_init_72 (fun ada Ca Ha locsa hAa hBa isa hPa hDa hSa => ?_)
    have aa : ∀ i, i < o + 1 → ada i = ad i := fun i hi => by rw [hAa i (by omega), a8 i hi]
    obtain ⟨Cb, eCb, hCb, hBb⟩ := up_nm Ca o (.inr (7, [.ref (ad5 (o + 1)), .ref (ad5 (o + 19)), .ref (ad5 (o + 129)), .ref (ad8 (o + 166)), .ref (ada (o + 167)), .null]))
    refine g_putF (v := .ref (ada (o + 167))) (C1 := Cb) F hPa hDa hSa (aa o (by omega)).symm (by omega) ((hBa o (by omega)).trans hC9) rfl Wi_wsX70 tyX7 tyX7_ok nmX7 4 (by decide) mw_27 rfl hname rfl rfl rfl (Nat.le_of_ble_eq_true rfl) (fun j => congrFun eCb.symm j) dX7_init_75 (fun Hb locsb hPb hDb hSb => ?_)
    refine lv_aload_n F.1 F.2.1 dX7_init_78 rfl (lv_at hl 1 rfl) ?_
    refine g_mk (N := o + 169) F hPb hDb hSb Wi_wsX10 tyX1 tyX1_ok mw_28 mw_29 mw_30 rfl fsX1 (fun ad N sz hI C o ho hC => c_X1_init l D Y ad N sz hI C o ho hC) (cwIm 0 F.2.2.2.2.1 (fun _ h => h) mw_75 mw_101 mw_74 mw_30 rfl rfl rfl ⟨by decide, by decide, by decide +kernel⟩ ⟨by decide, by decide⟩) hl.1 (Nat.le_of_ble_eq_true rfl) (by decide) (by decide) dX7_init_79 dX7_init_82 dX7_init_83 (fun adc Cc Hc locsc hAc hBc isc hPc hDc hSc => ?_)
    have ac : ∀ i, i < o + 1 → adc i = ad i := fun i hi => by rw [hAc i (by omega), aa i hi]
    obtain ⟨Cd, eCd, hCd, hBd⟩ := up_nm Cc o (.inr (7, [.ref (ad5 (o + 1)), .ref (ad5 (o + 19)), .ref (ad5 (o + 129)), .ref (ad8 (o + 166)), .ref (ada (o + 167)), .ref (adc (o + 169))]))
    refine g_putF (v := .ref (adc (o + 169))) (C1 := Cd) F hPc hDc hSc (ac o (by omega)).symm (by omega) ((hBc o (by omega)).trans hCb) rfl Wi_wsX70 tyX7 tyX7_ok nmX7 5 (by decide) mw_31 rfl hname rfl rfl rfl (Nat.le_of_ble_eq_true rfl) (fun j => congrFun eCd.symm j) dX7_init_86 (fun Hd locsd hPd hDd hSd => ?_)
    have ba : ∀ j, j ≠ o → j < o + 169 → Cd j = Ca j := fun j a b => by rw [hBd j a, hBc j (by omega), hBb j a]
    have b8 : ∀ j, j ≠ o → j < o + 167 → Cd j = C8 j := fun j a b => by rw [ba j a (by omega), hBa j (by omega), hB9 j a]
    have b7 : ∀ j, j ≠ o → j < o + 166 → Cd j = C7 j := fun j a b => by rw [b8 j a (by omega), hB8 j (by omega)]
    have b6 : ∀ j, j ≠ o → j < o + 129 → Cd j = C6 j := fun j a b => by rw [b7 j a (by omega), hB7 j (by omega)]
    have fa : ∀ i, i < o + 169 → adc i = ada i := hAc
    have f8 : ∀ i, i < o + 167 → adc i = ad8 i := fun i hi => by rw [fa i (by omega), hAa i hi]
    have f7 : ∀ i, i < o + 166 → adc i = ad7 i := fun i hi => by rw [f8 i (by omega), hA8 i hi]
    have f6 : ∀ i, i < o + 130 → adc i = ad5 i := fun i hi => by rw [f7 i (by omega), hA7 i hi]
    have r3 := isNew0_mv s3 (C' := Cd) (ad' := adc) (fun j a b => b6 j (by omega) (by omega)) (fun j a b => f6 j (by omega))
    refine g_vret2 F hr hlocks hPd hDd hSd ⟨rfl, rfl⟩ dX7_init_89 (by omega) ac ⟨rfl, fun j hj => by rw [b6 j (by omega) (by omega), s0 j hj], ?_, r3.1, ⟨g, (b7 _ (by omega) (by omega)).trans hg, fun i hi => ?_⟩, (b8 _ (by omega) (by omega)).trans hC8, ⟨0, 0, 0, ?_⟩, (ba _ (by omega) (by omega)).trans isa.2, ⟨fun _ => 0, 0, (hBd _ (by omega)).trans isc⟩, fun k hk => ?_⟩
    · rw [hCd, ← f6 (o + 1) (by omega), ← f6 (o + 19) (by omega), ← f6 (o + 129) (by omega), ← f8 (o + 166) (by omega), ← fa (o + 167) (by omega)]
    · rw [hgi i hi, ← f7 (o + 130 + 18 * i) (by omega)]
      unfold bs
      rcases (show i = 0 ∨ i = 1 by omega) with q | q <;> subst q <;> rfl
    · rw [ba _ (by omega) (by omega), isa.1]
      unfold pdV
      rw [fa _ (by omega)]
      rfl
    · rcases (show k = 0 ∨ (1 ≤ k ∧ k < 7) ∨ k = 7 ∨ k = 8 by omega) with q | q | q | q
      · subst q
        show isState Y adc Cd (o + 1) fr0 0
        exact isState_mv s1 (fun j a b => b6 j (by omega) (by omega)) (fun j a b => f6 j (by omega))
      · have h9 := r3.2 (k - 1) (by omega)
        rw [show o + 19 + 2 + 18 * (k - 1) = o + bs k by unfold bs; rw [if_neg (by omega), if_pos q.2]; omega] at h9
        exact h9
      · subst q
        show isState Y adc Cd (o + 130 + 18 * 0) fr0 0
        exact isState_mv (hst 0 (by omega)) (fun j a b => b7 j (by omega) (by omega)) (fun j a b => f7 j (by omega))
      · subst q
        show isState Y adc Cd (o + 130 + 18 * 1) fr0 0
        exact isState_mv (hst 1 (by omega)) (fun j a b => b7 j (by omega) (by omega)) (fun j a b => f7 j (by omega))
  refine lv_iconst (v := 0) F.1 F.2.1 dX7_init_34 (by decide) ?_
  refine lv_istore_n (lv' := [(1, .int 0), (0, .ref (ad o))]) F.1 F.2.1 dX7_init_35 rfl hl (by decide) rfl (fun ls hl => ?_)
  have loop : ∀ (d k : Nat), d + k = 2 → ∀ (ad1 : Nat → Nat) (C1 : Nat → va_E) (H : Heap) (locs : List Loc) (ls : Array Slot), (∀ i, i < o + 130 → ad1 i = ad5 i) → (∀ j, j < o + 129 → C1 j = C6 j) → isMk Y ad1 C1 (o + 129) (o + 130) 2 k → wP D ad1 (o + 130 + 18 * k) C1 H → va_D (gA ad (o + 1) sz) (wld ad1 (o + 130 + 18 * k) C1) → va_S (gA ad (o + 1) sz) s.heap H locs → lv_has ls 2 [(1, .int (nI k)), (0, .ref (ad o))] →
      W p l e { frames := 4, cells := 169, slots := 1728, locals := 76 } s m #[.ref (ad o)] below meth c H locs (129 + 18 * k) (1271 + 180 * k) (MQ below (gQ D ad (o + 1) sz (gMk C o 169 (fun ad' C' o => isCls0 Y ad' C' o))) #[.ref (ad o)] s 169 1728 (gA ad (o + 1) sz)) (F0 m 36 ls []) := by
    intro d
    induction d with
    | zero =>
      intro k hk ad1 C1 H locs ls hA hB hM hP hD hS hl
      obtain rfl : k = 2 := by omega
      refine lv_iload_n F.1 F.2.1 dX7_init_36 rfl (lv_at hl 0 rfl) ?_
      refine lv_iconst (v := 2) F.1 F.2.1 dX7_init_37 (by decide) ?_
      refine lv_icmp_ge (tgt := 60) F.1 F.2.1 dX7_init_38 (by decide) (fun c1 => ?_) (fun c1 => absurd (show (2 : Int32) ≤ nI 2 by decide) c1)
      exact tail ad1 C1 H locs ls hA hB hM hP hD hS hl
    | succ d ih =>
      intro k hk ad1 C1 H locs ls hA hB hM hP hD hS hl
      obtain ⟨⟨g, hg, hgi⟩, hst⟩ := hM
      have hk6 : k < 2 := by omega
      refine lv_iload_n F.1 F.2.1 dX7_init_36 rfl (lv_at hl 0 rfl) ?_
      refine lv_iconst (v := 2) F.1 F.2.1 dX7_init_37 (by decide) ?_
      refine lv_icmp_ge (tgt := 60) F.1 F.2.1 dX7_init_38 (by decide) (fun c1 => absurd c1 (nI_ge (b := 2) hk6 (by decide))) (fun c1 => ?_)
      refine lv_aload_n F.1 F.2.1 dX7_init_41 rfl (lv_at hl 1 rfl) ?_
      refine g_get F hP ((hA o (by omega)).trans (a5 o (by omega))).symm (by omega) ((hB o (by omega)).trans hC6) rfl Wi_wsX70 2 (by decide) mw_21 (v := .ref (ad5 (o + 129))) rfl dX7_init_42 ?_
      refine lv_iload_n F.1 F.2.1 dX7_init_45 rfl (lv_at hl 0 rfl) ?_
      refine g_mk F hP hD hS Wi_wsX60 tyX6 tyX6_ok mw_13 mw_14 mw_15 rfl fsX6 (fun ad N sz hI C o ho hC => c_X6_init l D Y ad N sz hI C o ho hC) (cwIm 0 F.2.2.2.2.1 (fun _ h => h) mw_34 mw_32 mw_33 mw_15 rfl rfl rfl ⟨by decide, by decide, by decide +kernel⟩ ⟨by decide, by decide⟩) hl.1 (Nat.le_of_ble_eq_true rfl) (by show 129 + 18 * k + 1 + 17 ≤ 169; omega) (by show 1271 + 180 * k + 7 + 173 ≤ 1728; omega) dX7_init_46 dX7_init_49 dX7_init_50 (fun ad2 C2 H2 locs2 hA2 hB2 is2 hP2 hD2 hS2 => ?_)
      obtain ⟨C3, eC3, hC3, hB3⟩ := up_nm C2 (o + 129) (.inl (Y 2, 2, .inr (.inr (.inr (.inr (va_up g k (some (ad2 (o + 130 + 18 * k)))))))))
      refine g_aast (C1 := C3) F hP2 hD2 hS2 ((hA2 (o + 129) (by omega)).trans (hA _ (by omega))).symm (by omega) ((hB2 (o + 129) (by omega)).trans hg) rfl (by omega) is2.1 rfl hk6 (by decide) (fun j => congrFun eC3.symm j) dX7_init_53 (fun H3 locs3 hP3 hD3 hS3 => ?_)
      refine lv_iinc (v := (nI k) + 1) (lv' := [(1, .int ((nI k) + 1)), (0, .ref (ad o))]) F.1 F.2.1 dX7_init_54 hl (k := 0) rfl rfl (by decide) rfl (fun ls hl => ?_)
      refine lv_goto (tgt := 36) F.1 F.2.1 dX7_init_57 (by decide) ?_
      have eN : o + 130 + 18 * k + 1 + 17 = o + 130 + 18 * (k + 1) := by omega
      rw [eN] at hP3 hD3
      rw [show 129 + 18 * k + 1 + 17 = 129 + 18 * (k + 1) by omega, show 1271 + 180 * k + 7 + 173 = 1271 + 180 * (k + 1) by omega]
      refine ih (k + 1) (by omega) ad2 C3 H3 locs3 ls (fun i hi => by rw [hA2 i (by omega), hA i hi]) (fun j hj => by rw [hB3 j (by omega), hB2 j (by omega), hB j hj]) ⟨⟨_, hC3, fun i hi => ?_⟩, fun i hi => ?_⟩ hP3 hD3 hS3 (by rw [nI_succ]; exact hl)
      · by_cases q : i = k
        · rw [q, va_up_self]
        · rw [va_up_ne _ _ q, hgi i (by omega), hA2 _ (by omega)]
      · by_cases q : i = k
        · rw [q]; exact isState_mv is2 (fun j a b => hB3 j (by omega)) (fun j a b => rfl)
        · exact isState_mv (hst i (by omega)) (fun j a b => by rw [hB3 j (by omega), hB2 j (by omega)]) (fun j a b => hA2 j (by omega))
  exact loop 2 0 rfl ad5 C6 H6 locs6 ls (fun _ _ => rfl) (fun _ _ => rfl) ⟨⟨_, s5, fun i hi => absurd hi (Nat.not_lt_zero _)⟩, fun i hi => absurd hi (Nat.not_lt_zero _)⟩ hP6 hD6 hS6 hl

