/-! HoopStairsModel: what there is -/
theorem le_lt {x c d : Int32} (h : d.toInt = c.toInt + 1) : x ≤ c ↔ x < d := by
  rw [Int32.le_iff_toInt_le, Int32.lt_iff_toInt_lt]; omega
theorem about_is {f : Nat → Int32} {k : Nat} (h : k ≤ 7) (h2 : k ≠ 2) : T_about f (nI k) = f (6 + k) := by
  match k, h, h2 with
  | 0, _, _ => rfl
  | 1, _, _ => rfl
  | 2, _, h => exact absurd rfl h
  | 3, _, _ => rfl
  | 4, _, _ => rfl
  | 5, _, _ => rfl
  | 6, _, _ => rfl
  | 7, _, _ => rfl
theorem run_0 {B : Int} {x : Int32} {f : Nat → Int32} (hs : okRow B f) : (0 ≤ x ∧ x ≤ f 20 - 1) ↔ (0 ≤ x ∧ x < f 20 ∧ x < 10) := by
  have z : (0 : Int32).toInt = 0 := rfl
  have o : (1 : Int32).toInt = 1 := rfl
  have t : (10 : Int32).toInt = 10 := rfl
  have s4 := hs.2.2.2
  have d := i_sub (a := f 20) (b := 1) (by omega) (by omega)
  rw [Int32.le_iff_toInt_le, Int32.le_iff_toInt_le, Int32.lt_iff_toInt_lt, Int32.lt_iff_toInt_lt, d]; omega
theorem cnt_10 {f : Nat → Int32} {kn n : Nat} {x : Int32} (h : 10 ≤ x ∧ x ≤ 13) : T_count f kn n x = f (x - 10).toNatClampNeg ∧ ∃ k : Nat, k < 4 ∧ x - 10 = nI k ∧ (x - 10).toNatClampNeg = k := by
  have a := Int32.le_iff_toInt_le.mp h.1
  have b := Int32.le_iff_toInt_le.mp h.2
  have t10 : (10 : Int32).toInt = 10 := rfl
  have t13 : (13 : Int32).toInt = 13 := rfl
  have t15 : (15 : Int32).toInt = 15 := rfl
  have t0 : (0 : Int32).toInt = 0 := rfl
  have h14 : ¬ x = 14 := fun q => by rw [q] at b; exact absurd b (by decide)
  have h15 : ¬ x = 15 := fun q => by rw [q] at b; exact absurd b (by decide)
  refine ⟨?_, cnt_x (Int32.le_iff_toInt_le.mpr (by omega)) h14 h15 (fun q => i_nle q h.1)⟩
  unfold T_count
  rw [if_pos ⟨Int32.le_iff_toInt_le.mpr (by omega), Int32.le_iff_toInt_le.mpr (by omega)⟩, if_neg h14, if_neg h15, if_pos h.1]
set_option maxRecDepth 20000 in
set_option maxHeartbeats 4000000 in
/-- of -/
theorem c_X8_of (l : Launch) (D : va_G) (Y : Nat → ClassId) (ad : Nat → Nat) (N : Nat) (hI : wI ad N) (C : Nat → va_E) (o : Nat) (hh : o + 6 ≤ N) (gr : Int32) (r s0 : Nat → Int32) (k0 : Nat) (hk0 : k0 ≤ 6) (hs : Nat → Nat → Int32) (pa : Nat → Int32) (hpa : C (o + 2) = pA Y pa) (hhs : ∀ i j, i < k0 → j < 161 → pa (161 * i + j) = hs i j) (sl : Nat → Nat → Int32) (sla sv : Nat → Int32) (hsl : C (o + 3) = .inl (Y 0, 322, .inl sla)) (hsls : ∀ k j, k < 2 → j < 161 → ¬ sv k = 0 → sla (161 * k + j) = sl k j) (hsv : C (o + 4) = .inl (Y 1, 2, .inl sv)) (pd : Nat → Int32) (nn : Nat) (hn80 : nn ≤ 80) (hpdd : C (o + 5) = .inl (Y 0, 80, .inl pd)) (x y : Int32) (B : Int) (hok : okRow B r) (hBb : B + 60000 ≤ 900000000) (hB0 : 0 ≤ B) : Met l yX8_of (wm yX8_of cX8_of 3 (some .int)) { frames := 2, cells := 0, slots := 0, locals := 43 } (wPc D Y ad N [.ref (ad o), .int (x), .int (y)] (mW Y ad C o (nI k0) (nI nn) gr 0 r s0)) (wQi D ad N (fun q C' => q = T_of r x y ∧ mdlA Y ad C' o r hs k0 sl sv pd nn ∧ ∀ j, j < o ∨ o + 6 ≤ j → C' j = C j)) 0 0 (wA ad N) := by
  refine wMet RX8 rfl (by decide +kernel) (Nat.le_of_ble_eq_true rfl) (lv := [(0, .ref (ad o)), (1, .int (x)), (2, .int (y))]) rfl ?_
  intro p e s m below meth c ls F hr hlocks hP hl
  have hS : va_S (wA ad N) s.heap s.heap [] := va_S.rf
  refine lv_aload_n F.1 F.2.1 dX8_of_0 rfl (lv_at hl 0 rfl) ?_
  refine lv_iload_n F.1 F.2.1 dX8_of_1 rfl (lv_at hl 1 rfl) ?_
  refine w_calli F hP hS (c_X8_isPart l D Y ad N hI C o hh (nI k0) (nI nn) gr r s0 x) (cwVm 1 F.2.2.2.2.1 (fun _ h => h) mw_251 mw_248 mw_249 mw_250 mw_5 rfl rfl ydX8_isPart ⟨by decide, by decide⟩) (by omega) mW_o rfl rfl hl.1 rfl (Nat.le_of_ble_eq_true rfl) dX8_of_2 ⟨Nat.zero_le _, Nat.zero_le _⟩ (fun rq1 Kq1 H locs hq1 hP hS => ?_)
  obtain ⟨hq1w, hq1r⟩ := hq1; subst hq1w
  refine lv_if_ne (tgt := 10) F.1 F.2.1 dX8_of_5 (by decide) (fun c2 => ?_) (fun c2 => ?_)
  · obtain ⟨kp, mm, ek, hkm, hm20, h4, hcx, hf0⟩ := part_0 (b_t hq1r c2) hok.1
    refine lv_iload_n F.1 F.2.1 dX8_of_10 rfl (lv_at hl 2 rfl) ?_
    refine lv_iconst (v := 0) F.1 F.2.1 dX8_of_11 (by decide) ?_
    refine lv_iconst (v := 4) F.1 F.2.1 dX8_of_12 (by decide) ?_
    refine w_calls F hP hS (c_X8_in l D Y ad N hI _ y 0 4) (cwSm 3 F.2.2.2.2.1 (fun _ h => h) mw_183 mw_181 mw_182 mw_5 rfl rfl ydX8_in ⟨by decide, by decide⟩) rfl hl.1 rfl (Nat.le_of_ble_eq_true rfl) dX8_of_13 ⟨Nat.zero_le _, Nat.zero_le _⟩ (fun rq3 Kq3 H locs hq3 hP hS => ?_)
    obtain ⟨hq3w, hq3r⟩ := hq3; rw [hq3w] at hP
    refine lv_if_eq (tgt := 34) F.1 F.2.1 dX8_of_16 (by decide) (fun c4 => ?_) (fun c4 => ?_)
    · refine lv_bipush (v := (-2)) F.1 F.2.1 dX8_of_34 (by decide) ?_
      exact w_iret F hr hlocks hP hS dX8_of_36 ⟨by unfold T_of; rw [if_pos hf0, if_neg (fun q => (b_f hq3r c4) ⟨q.1, (le_lt (c := 4) (d := 5) rfl).mpr q.2⟩)], mdl_mk hk0 hn80 hpa hhs hsl hsls hsv hpdd, mfr_0⟩
    · obtain ⟨ky, hky, ey, ecy⟩ := in_x (M := 4) (m := 4) rfl (b_t hq3r c4).1 (b_t hq3r c4).2
      refine lv_aload_n F.1 F.2.1 dX8_of_19 rfl (lv_at hl 0 rfl) ?_
      refine gf_X8_7 F hP (by omega) mW_o (v := .ref (ad (o + 1))) rfl dX8_of_20 ?_
      refine lv_iconst (v := 0) F.1 F.2.1 dX8_of_23 (by decide) ?_
      refine lv_iload_n F.1 F.2.1 dX8_of_24 rfl (lv_at hl 1 rfl) ?_
      refine w_calls F hP hS (c_X8_at l D Y ad N hI _ 0 x) (cwSm 2 F.2.2.2.2.1 (fun _ h => h) mw_226 mw_224 mw_225 mw_5 rfl rfl ydX8_at ⟨by decide, by decide⟩) rfl hl.1 rfl (Nat.le_of_ble_eq_true rfl) dX8_of_25 ⟨Nat.zero_le _, Nat.zero_le _⟩ (fun rq5 Kq5 H locs hq5 hP hS => ?_)
      obtain ⟨hq5w, hq5r⟩ := hq5; rw [hq5w] at hP
      subst hq5r
      refine lv_iload_n F.1 F.2.1 dX8_of_28 rfl (lv_at hl 2 rfl) ?_
      refine lv_iadd F.1 F.2.1 dX8_of_29 ?_
      refine w_iald F hP (by omega) mW_s (k := 0 + 61 + 5 * kp + ky) (ix_add (X := 0 + 61 + 5 * kp) (Y := ky) (Z := 0 + 61 + 5 * kp + ky) (ix_add (X := 0 + 61) (Y := 5 * kp) (Z := 0 + 61 + 5 * kp) (ix_add (X := 0) (Y := 61) (Z := 0 + 61) rfl rfl (by omega)) (ix_mul (X := 5) (Y := kp) rfl ek) (by omega)) ey (by omega)) (by omega) (Nat.le_of_ble_eq_true rfl) (v := r (61 + 5 * kp + ky)) (put_at (k := (61 + 5 * kp + ky)) (by omega) (by omega)) dX8_of_30 ?_
      refine lv_goto (tgt := 36) F.1 F.2.1 dX8_of_31 (by decide) ?_
      exact w_iret F hr hlocks hP hS dX8_of_36 ⟨by unfold T_of; rw [if_pos hf0, if_pos ⟨(b_t hq3r c4).1, (le_lt (c := 4) (d := 5) rfl).mp (b_t hq3r c4).2⟩, hcx, ecy], mdl_mk hk0 hn80 hpa hhs hsl hsls hsv hpdd, mfr_0⟩
  · refine lv_iconst (v := (-1)) F.1 F.2.1 dX8_of_8 (by decide) ?_
    exact w_iret F hr hlocks hP hS dX8_of_9 ⟨by unfold T_of; rw [if_neg (fun q => (b_f hq1r c2) (part_1 q hok.1))], mdl_mk hk0 hn80 hpa hhs hsl hsls hsv hpdd, mfr_0⟩
theorem cm_X8_of (l : Launch) (D : va_G) (Y : Nat → ClassId) (ad : Nat → Nat) (N : Nat) (hI : wI ad N) (C : Nat → va_E) (o : Nat) (hh : o + 6 ≤ N) (f : Nat → Int32) (hs : Nat → Nat → Int32) (kn : Nat) (sl : Nat → Nat → Int32) (sv pd : Nat → Int32) (n : Nat) (hA : mdlA Y ad C o f hs kn sl sv pd n) (x y : Int32) (B : Int) (hok : okRow B f) (hBb : B + 60000 ≤ 900000000) (hB0 : 0 ≤ B) : Met l yX8_of (wm yX8_of cX8_of 3 (some .int)) { frames := 2, cells := 0, slots := 0, locals := 43 } (wPc D Y ad N [.ref (ad o), .int (x), .int (y)] C) (wQi D ad N (fun q C' => q = T_of f x y ∧ mdlA Y ad C' o f hs kn sl sv pd n ∧ ∀ j, j < o ∨ o + 6 ≤ j → C' j = C j)) 0 0 (wA ad N) := by
  obtain ⟨s0, pa, sla, gr, h1, h2, h3, h4, h5, h6, h7, h8, h9, h10⟩ := hA
  have h := c_X8_of l D Y ad N hI C o hh gr f s0 kn h3 hs pa h5 h6 sl sla sv h7 h8 h9 pd n h4 h10 x y B hok hBb hB0
  rw [← mW_id h1 h2] at h
  exact h
set_option maxRecDepth 20000 in
set_option maxHeartbeats 4000000 in
/-- run -/
theorem c_X8_run (l : Launch) (D : va_G) (Y : Nat → ClassId) (ad : Nat → Nat) (N : Nat) (hI : wI ad N) (C : Nat → va_E) (o : Nat) (hh : o + 6 ≤ N) (gr : Int32) (r s0 : Nat → Int32) (k0 : Nat) (hk0 : k0 ≤ 6) (hs : Nat → Nat → Int32) (pa : Nat → Int32) (hpa : C (o + 2) = pA Y pa) (hhs : ∀ i j, i < k0 → j < 161 → pa (161 * i + j) = hs i j) (sl : Nat → Nat → Int32) (sla sv : Nat → Int32) (hsl : C (o + 3) = .inl (Y 0, 322, .inl sla)) (hsls : ∀ k j, k < 2 → j < 161 → ¬ sv k = 0 → sla (161 * k + j) = sl k j) (hsv : C (o + 4) = .inl (Y 1, 2, .inl sv)) (pd : Nat → Int32) (nn : Nat) (hn80 : nn ≤ 80) (hpdd : C (o + 5) = .inl (Y 0, 80, .inl pd)) (x y : Int32) (B : Int) (hok : okRow B r) (hBb : B + 60000 ≤ 900000000) (hB0 : 0 ≤ B) : Met l yX8_run (wm yX8_run cX8_run 3 (some .int)) { frames := 1, cells := 0, slots := 0, locals := 22 } (wPc D Y ad N [.ref (ad o), .int (x), .int (y)] (mW Y ad C o (nI k0) (nI nn) gr 0 r s0)) (wQi D ad N (fun q C' => q = T_runs r x y ∧ mdlA Y ad C' o r hs k0 sl sv pd nn ∧ ∀ j, j < o ∨ o + 6 ≤ j → C' j = C j)) 0 0 (wA ad N) := by
  refine wMet RX8 rfl (by decide +kernel) (Nat.le_of_ble_eq_true rfl) (lv := [(0, .ref (ad o)), (1, .int (x)), (2, .int (y))]) rfl ?_
  intro p e s m below meth c ls F hr hlocks hP hl
  have hS : va_S (wA ad N) s.heap s.heap [] := va_S.rf
  refine lv_iload_n F.1 F.2.1 dX8_run_0 rfl (lv_at hl 1 rfl) ?_
  refine lv_iconst (v := 0) F.1 F.2.1 dX8_run_1 (by decide) ?_
  refine lv_aload_n F.1 F.2.1 dX8_run_2 rfl (lv_at hl 0 rfl) ?_
  refine gf_X8_7 F hP (by omega) mW_o (v := .ref (ad (o + 1))) rfl dX8_run_3 ?_
  refine lv_bipush (v := 20) F.1 F.2.1 dX8_run_6 (by decide) ?_
  refine w_iald F hP (by omega) mW_s (k := 20) rfl (by omega) (Nat.le_of_ble_eq_true rfl) (v := r 20) (put_at (k := 20) (by omega) (by omega)) dX8_run_8 ?_
  refine lv_iconst (v := 1) F.1 F.2.1 dX8_run_9 (by decide) ?_
  refine lv_isub F.1 F.2.1 dX8_run_10 ?_
  refine w_calls F hP hS (c_X8_in l D Y ad N hI _ x 0 ((r 20) - 1)) (cwSm 3 F.2.2.2.2.1 (fun _ h => h) mw_183 mw_181 mw_182 mw_5 rfl rfl ydX8_in ⟨by decide, by decide⟩) rfl hl.1 rfl (Nat.le_of_ble_eq_true rfl) dX8_run_11 ⟨Nat.zero_le _, Nat.zero_le _⟩ (fun rq1 Kq1 H locs hq1 hP hS => ?_)
  obtain ⟨hq1w, hq1r⟩ := hq1; rw [hq1w] at hP
  refine lv_if_ne (tgt := 19) F.1 F.2.1 dX8_run_14 (by decide) (fun c2 => ?_) (fun c2 => ?_)
  · have hf0 := (run_0 hok).mp (b_t hq1r c2)
    obtain ⟨kx, hkx, ek, hcx⟩ := lt_x (m := 10) (by decide) hf0.1 hf0.2.2
    refine lv_iload_n F.1 F.2.1 dX8_run_19 rfl (lv_at hl 2 rfl) ?_
    refine lv_iconst (v := 0) F.1 F.2.1 dX8_run_20 (by decide) ?_
    refine lv_iconst (v := 3) F.1 F.2.1 dX8_run_21 (by decide) ?_
    refine w_calls F hP hS (c_X8_in l D Y ad N hI _ y 0 3) (cwSm 3 F.2.2.2.2.1 (fun _ h => h) mw_183 mw_181 mw_182 mw_5 rfl rfl ydX8_in ⟨by decide, by decide⟩) rfl hl.1 rfl (Nat.le_of_ble_eq_true rfl) dX8_run_22 ⟨Nat.zero_le _, Nat.zero_le _⟩ (fun rq3 Kq3 H locs hq3 hP hS => ?_)
    obtain ⟨hq3w, hq3r⟩ := hq3; rw [hq3w] at hP
    refine lv_if_eq (tgt := 44) F.1 F.2.1 dX8_run_25 (by decide) (fun c4 => ?_) (fun c4 => ?_)
    · refine lv_bipush (v := (-2)) F.1 F.2.1 dX8_run_44 (by decide) ?_
      exact w_iret F hr hlocks hP hS dX8_run_46 ⟨by unfold T_runs; rw [if_pos hf0, if_neg (fun q => (b_f hq3r c4) ⟨q.1, (le_lt (c := 3) (d := 4) rfl).mpr q.2⟩)], mdl_mk hk0 hn80 hpa hhs hsl hsls hsv hpdd, mfr_0⟩
    · obtain ⟨ky, hky, ey, ecy⟩ := in_x (M := 3) (m := 3) rfl (b_t hq3r c4).1 (b_t hq3r c4).2
      refine lv_aload_n F.1 F.2.1 dX8_run_28 rfl (lv_at hl 0 rfl) ?_
      refine gf_X8_7 F hP (by omega) mW_o (v := .ref (ad (o + 1))) rfl dX8_run_29 ?_
      refine lv_bipush (v := 21) F.1 F.2.1 dX8_run_32 (by decide) ?_
      refine lv_iconst (v := 4) F.1 F.2.1 dX8_run_34 (by decide) ?_
      refine lv_iload_n F.1 F.2.1 dX8_run_35 rfl (lv_at hl 1 rfl) ?_
      refine lv_imul F.1 F.2.1 dX8_run_36 ?_
      refine lv_iadd F.1 F.2.1 dX8_run_37 ?_
      refine lv_iload_n F.1 F.2.1 dX8_run_38 rfl (lv_at hl 2 rfl) ?_
      refine lv_iadd F.1 F.2.1 dX8_run_39 ?_
      refine w_iald F hP (by omega) mW_s (k := 21 + 4 * kx + ky) (ix_add (X := 21 + 4 * kx) (Y := ky) (Z := 21 + 4 * kx + ky) (ix_add (X := 21) (Y := 4 * kx) (Z := 21 + 4 * kx) rfl (ix_mul (X := 4) (Y := kx) rfl ek) (by omega)) ey (by omega)) (by omega) (Nat.le_of_ble_eq_true rfl) (v := r (21 + 4 * kx + ky)) (put_at (k := (21 + 4 * kx + ky)) (by omega) (by omega)) dX8_run_40 ?_
      refine lv_goto (tgt := 46) F.1 F.2.1 dX8_run_41 (by decide) ?_
      exact w_iret F hr hlocks hP hS dX8_run_46 ⟨by unfold T_runs; rw [if_pos hf0, if_pos ⟨(b_t hq3r c4).1, (le_lt (c := 3) (d := 4) rfl).mp (b_t hq3r c4).2⟩, hcx, ecy], mdl_mk hk0 hn80 hpa hhs hsl hsls hsv hpdd, mfr_0⟩
  · refine lv_iconst (v := (-1)) F.1 F.2.1 dX8_run_17 (by decide) ?_
    exact w_iret F hr hlocks hP hS dX8_run_18 ⟨by unfold T_runs; rw [if_neg (fun q => (b_f hq1r c2) ((run_0 hok).mpr q))], mdl_mk hk0 hn80 hpa hhs hsl hsls hsv hpdd, mfr_0⟩
theorem cm_X8_run (l : Launch) (D : va_G) (Y : Nat → ClassId) (ad : Nat → Nat) (N : Nat) (hI : wI ad N) (C : Nat → va_E) (o : Nat) (hh : o + 6 ≤ N) (f : Nat → Int32) (hs : Nat → Nat → Int32) (kn : Nat) (sl : Nat → Nat → Int32) (sv pd : Nat → Int32) (n : Nat) (hA : mdlA Y ad C o f hs kn sl sv pd n) (x y : Int32) (B : Int) (hok : okRow B f) (hBb : B + 60000 ≤ 900000000) (hB0 : 0 ≤ B) : Met l yX8_run (wm yX8_run cX8_run 3 (some .int)) { frames := 1, cells := 0, slots := 0, locals := 22 } (wPc D Y ad N [.ref (ad o), .int (x), .int (y)] C) (wQi D ad N (fun q C' => q = T_runs f x y ∧ mdlA Y ad C' o f hs kn sl sv pd n ∧ ∀ j, j < o ∨ o + 6 ≤ j → C' j = C j)) 0 0 (wA ad N) := by
  obtain ⟨s0, pa, sla, gr, h1, h2, h3, h4, h5, h6, h7, h8, h9, h10⟩ := hA
  have h := c_X8_run l D Y ad N hI C o hh gr f s0 kn h3 hs pa h5 h6 sl sla sv h7 h8 h9 pd n h4 h10 x y B hok hBb hB0
  rw [← mW_id h1 h2] at h
  exact h
set_option maxRecDepth 20000 in
set_option maxHeartbeats 4000000 in
/-- ofHoop -/
theorem c_X8_ofHoop (l : Launch) (D : va_G) (Y : Nat → ClassId) (ad : Nat → Nat) (N : Nat) (hI : wI ad N) (C : Nat → va_E) (o : Nat) (hh : o + 6 ≤ N) (gr : Int32) (r s0 : Nat → Int32) (k0 : Nat) (hk0 : k0 ≤ 6) (hs : Nat → Nat → Int32) (pa : Nat → Int32) (hpa : C (o + 2) = pA Y pa) (hhs : ∀ i j, i < k0 → j < 161 → pa (161 * i + j) = hs i j) (sl : Nat → Nat → Int32) (sla sv : Nat → Int32) (hsl : C (o + 3) = .inl (Y 0, 322, .inl sla)) (hsls : ∀ k j, k < 2 → j < 161 → ¬ sv k = 0 → sla (161 * k + j) = sl k j) (hsv : C (o + 4) = .inl (Y 1, 2, .inl sv)) (pd : Nat → Int32) (nn : Nat) (hn80 : nn ≤ 80) (hpdd : C (o + 5) = .inl (Y 0, 80, .inl pd)) (x : Int32) : Met l yX8_ofHoop (wm yX8_ofHoop cX8_ofHoop 2 (some .int)) { frames := 1, cells := 0, slots := 0, locals := 22 } (wPc D Y ad N [.ref (ad o), .int (x)] (mW Y ad C o (nI k0) (nI nn) gr 0 r s0)) (wQi D ad N (fun q C' => q = T_ofHoop r x ∧ mdlA Y ad C' o r hs k0 sl sv pd nn ∧ ∀ j, j < o ∨ o + 6 ≤ j → C' j = C j)) 0 0 (wA ad N) := by
  refine wMet RX8 rfl (by decide +kernel) (Nat.le_of_ble_eq_true rfl) (lv := [(0, .ref (ad o)), (1, .int (x))]) rfl ?_
  intro p e s m below meth c ls F hr hlocks hP hl
  have hS : va_S (wA ad N) s.heap s.heap [] := va_S.rf
  refine lv_iload_n F.1 F.2.1 dX8_ofHoop_0 rfl (lv_at hl 1 rfl) ?_
  refine lv_iconst (v := 0) F.1 F.2.1 dX8_ofHoop_1 (by decide) ?_
  refine lv_bipush (v := 7) F.1 F.2.1 dX8_ofHoop_2 (by decide) ?_
  refine w_calls F hP hS (c_X8_in l D Y ad N hI _ x 0 7) (cwSm 3 F.2.2.2.2.1 (fun _ h => h) mw_183 mw_181 mw_182 mw_5 rfl rfl ydX8_in ⟨by decide, by decide⟩) rfl hl.1 rfl (Nat.le_of_ble_eq_true rfl) dX8_ofHoop_4 ⟨Nat.zero_le _, Nat.zero_le _⟩ (fun rq1 Kq1 H locs hq1 hP hS => ?_)
  obtain ⟨hq1w, hq1r⟩ := hq1; rw [hq1w] at hP
  refine lv_if_ne (tgt := 13) F.1 F.2.1 dX8_ofHoop_7 (by decide) (fun c2 => ?_) (fun c2 => ?_)
  · obtain ⟨k, hk, ek, ecl⟩ := in_x (M := 7) (m := 7) rfl (b_t hq1r c2).1 (b_t hq1r c2).2
    refine lv_aload_n F.1 F.2.1 dX8_ofHoop_13 rfl (lv_at hl 0 rfl) ?_
    refine gf_X8_7 F hP (by omega) mW_o (v := .ref (ad (o + 1))) rfl dX8_ofHoop_14 ?_
    refine lv_iconst (v := 5) F.1 F.2.1 dX8_ofHoop_17 (by decide) ?_
    refine w_iald F hP (by omega) mW_s (k := 5) rfl (by omega) (Nat.le_of_ble_eq_true rfl) (v := r 5) (put_at (k := 5) (by omega) (by omega)) dX8_ofHoop_18 ?_
    refine lv_if_ne (tgt := 25) F.1 F.2.1 dX8_ofHoop_19 (by decide) (fun c3 => ?_) (fun c3 => ?_)
    · refine lv_iload_n F.1 F.2.1 dX8_ofHoop_25 rfl (lv_at hl 1 rfl) ?_
      refine lv_iconst (v := 2) F.1 F.2.1 dX8_ofHoop_26 (by decide) ?_
      refine lv_icmp_ne (tgt := 44) F.1 F.2.1 dX8_ofHoop_27 (by decide) (fun c4 => ?_) (fun c4 => ?_)
      · refine lv_aload_n F.1 F.2.1 dX8_ofHoop_44 rfl (lv_at hl 0 rfl) ?_
        refine gf_X8_7 F hP (by omega) mW_o (v := .ref (ad (o + 1))) rfl dX8_ofHoop_45 ?_
        refine lv_bipush (v := 6) F.1 F.2.1 dX8_ofHoop_48 (by decide) ?_
        refine lv_iload_n F.1 F.2.1 dX8_ofHoop_50 rfl (lv_at hl 1 rfl) ?_
        refine lv_iadd F.1 F.2.1 dX8_ofHoop_51 ?_
        refine w_iald F hP (by omega) mW_s (k := 6 + k) (ix_add (X := 6) (Y := k) (Z := 6 + k) rfl ek (by omega)) (by omega) (Nat.le_of_ble_eq_true rfl) (v := r (6 + k)) (put_at (k := (6 + k)) (by omega) (by omega)) dX8_ofHoop_52 ?_
        exact w_iret F hr hlocks hP hS dX8_ofHoop_53 ⟨by unfold T_ofHoop; rw [if_pos (b_t hq1r c2), if_neg c3, ek, about_is hk (fun z => c4 (by rw [ek, z]; rfl))], mdl_mk hk0 hn80 hpa hhs hsl hsls hsv hpdd, mfr_0⟩
      · refine lv_aload_n F.1 F.2.1 dX8_ofHoop_30 rfl (lv_at hl 0 rfl) ?_
        refine gf_X8_7 F hP (by omega) mW_o (v := .ref (ad (o + 1))) rfl dX8_ofHoop_31 ?_
        refine lv_bipush (v := 8) F.1 F.2.1 dX8_ofHoop_34 (by decide) ?_
        refine w_iald F hP (by omega) mW_s (k := 8) rfl (by omega) (Nat.le_of_ble_eq_true rfl) (v := r 8) (put_at (k := 8) (by omega) (by omega)) dX8_ofHoop_36 ?_
        refine lv_sipush (v := 500) F.1 F.2.1 dX8_ofHoop_37 (by decide) ?_
        refine lv_iadd F.1 F.2.1 dX8_ofHoop_40 ?_
        refine lv_goto (tgt := 53) F.1 F.2.1 dX8_ofHoop_41 (by decide) ?_
        exact w_iret F hr hlocks hP hS dX8_ofHoop_53 ⟨by unfold T_ofHoop; rw [if_pos (b_t hq1r c2), if_neg c3, c4]; rfl, mdl_mk hk0 hn80 hpa hhs hsl hsls hsv hpdd, mfr_0⟩
    · refine lv_bipush (v := (-6)) F.1 F.2.1 dX8_ofHoop_22 (by decide) ?_
      exact w_iret F hr hlocks hP hS dX8_ofHoop_24 ⟨by unfold T_ofHoop; rw [if_pos (b_t hq1r c2), if_pos c3], mdl_mk hk0 hn80 hpa hhs hsl hsls hsv hpdd, mfr_0⟩
  · refine lv_bipush (v := (-2)) F.1 F.2.1 dX8_ofHoop_10 (by decide) ?_
    exact w_iret F hr hlocks hP hS dX8_ofHoop_12 ⟨by unfold T_ofHoop; rw [if_neg (b_f hq1r c2)], mdl_mk hk0 hn80 hpa hhs hsl hsls hsv hpdd, mfr_0⟩
theorem cm_X8_ofHoop (l : Launch) (D : va_G) (Y : Nat → ClassId) (ad : Nat → Nat) (N : Nat) (hI : wI ad N) (C : Nat → va_E) (o : Nat) (hh : o + 6 ≤ N) (f : Nat → Int32) (hs : Nat → Nat → Int32) (kn : Nat) (sl : Nat → Nat → Int32) (sv pd : Nat → Int32) (n : Nat) (hA : mdlA Y ad C o f hs kn sl sv pd n) (x : Int32) : Met l yX8_ofHoop (wm yX8_ofHoop cX8_ofHoop 2 (some .int)) { frames := 1, cells := 0, slots := 0, locals := 22 } (wPc D Y ad N [.ref (ad o), .int (x)] C) (wQi D ad N (fun q C' => q = T_ofHoop f x ∧ mdlA Y ad C' o f hs kn sl sv pd n ∧ ∀ j, j < o ∨ o + 6 ≤ j → C' j = C j)) 0 0 (wA ad N) := by
  obtain ⟨s0, pa, sla, gr, h1, h2, h3, h4, h5, h6, h7, h8, h9, h10⟩ := hA
  have h := c_X8_ofHoop l D Y ad N hI C o hh gr f s0 kn h3 hs pa h5 h6 sl sla sv h7 h8 h9 pd n h4 h10 x
  rw [← mW_id h1 h2] at h
  exact h
set_option maxRecDepth 20000 in
set_option maxHeartbeats 4000000 in
/-- about all parts -/
theorem c_X8_ofParts (l : Launch) (D : va_G) (Y : Nat → ClassId) (ad : Nat → Nat) (N : Nat) (hI : wI ad N) (C : Nat → va_E) (o : Nat) (hh : o + 6 ≤ N) (kn n gr : Int32) (r s0 : Nat → Int32) (x : Int32) (mm : Nat) (hm : mm ≤ 20) (h4 : r 4 = nI mm) : Met l yX8_ofParts (wm yX8_ofParts cX8_ofParts 7 (some .int)) { frames := 1, cells := 0, slots := 0, locals := 21 } (wPc D Y ad N [.ref (ad o), .int (x)] (mW Y ad C o kn n gr 0 r s0)) (wQi D ad N (fun q C' => C' = mW Y ad C o kn n gr 0 r s0 ∧ q = if x = 6 then T_least r mm else T_sum (x - 7) r mm)) 0 0 (wA ad N) := by
  refine wMet RX8 rfl (by decide +kernel) (Nat.le_of_ble_eq_true rfl) (lv := [(0, .ref (ad o)), (1, .int (x))]) rfl ?_
  intro p e s m below meth c ls F hr hlocks hP hl
  have hS : va_S (wA ad N) s.heap s.heap [] := va_S.rf
  refine lv_iconst (v := 0) F.1 F.2.1 dX8_ofParts_0 (by decide) ?_
  refine lv_istore_n (lv' := [(2, .int (0)), (0, .ref (ad o)), (1, .int (x))]) F.1 F.2.1 dX8_ofParts_1 rfl hl (by decide) rfl (fun ls hl => ?_)
  refine lv_iconst (v := 0) F.1 F.2.1 dX8_ofParts_2 (by decide) ?_
  refine lv_istore_n (lv' := [(3, .int (0)), (2, .int (0)), (0, .ref (ad o)), (1, .int (x))]) F.1 F.2.1 dX8_ofParts_3 rfl hl (by decide) rfl (fun ls hl => ?_)
  refine lv_iconst (v := 0) F.1 F.2.1 dX8_ofParts_4 (by decide) ?_
  refine lv_istore (lv' := [(4, .int (0)), (3, .int (0)), (2, .int (0)), (0, .ref (ad o)), (1, .int (x))]) F.1 F.2.1 dX8_ofParts_5 hl (by decide) rfl (fun ls hl => ?_)
  refine w_loop (Inv := fun j ls C' => ∃ k : Nat, j = mm - k ∧ k ≤ mm ∧ lv_has ls 7 [(2, .int (T_sum (x - 7) r k)), (3, .int (T_least r k)), (4, .int (nI k)), (0, .ref (ad o)), (1, .int x)] ∧ C' = mW Y ad C o kn n gr 0 r s0) ?_ mm ⟨0, rfl, Nat.zero_le _, lv_sub hl [2, 1, 0, 3, 4] rfl, rfl⟩ hP hS
  intro j ih H locs ls K0 hInv hP hS
  obtain ⟨k, hj, hk, hl, rfl⟩ := hInv
  refine lv_iload F.1 F.2.1 dX8_ofParts_7 (lv_at hl 2 rfl) ?_
  refine lv_aload_n F.1 F.2.1 dX8_ofParts_9 rfl (lv_at hl 3 rfl) ?_
  refine gf_X8_7 F hP (by omega) mW_o (v := .ref (ad (o + 1))) rfl dX8_ofParts_10 ?_
  refine lv_iconst (v := 4) F.1 F.2.1 dX8_ofParts_13 (by decide) ?_
  refine w_iald F hP (by omega) mW_s (k := 4) rfl (by omega) (Nat.le_of_ble_eq_true rfl) (v := r 4) (put_at (k := 4) (by omega) (by omega)) dX8_ofParts_14 ?_
  refine lv_icmp_ge (tgt := 93) F.1 F.2.1 dX8_ofParts_15 (by decide) (fun c1 => ?_) (fun c1 => ?_)
  · refine lv_iload_n F.1 F.2.1 dX8_ofParts_93 rfl (lv_at hl 4 rfl) ?_
    refine lv_bipush (v := 6) F.1 F.2.1 dX8_ofParts_94 (by decide) ?_
    refine lv_icmp_ne (tgt := 103) F.1 F.2.1 dX8_ofParts_96 (by decide) (fun c2 => ?_) (fun c2 => ?_)
    · refine lv_iload_n F.1 F.2.1 dX8_ofParts_103 rfl (lv_at hl 0 rfl) ?_
      exact w_iret F hr hlocks hP hS dX8_ofParts_104 (by have hkm : k = mm := Nat.le_antisymm hk (Nat.le_of_not_lt (fun z => nI_ge z (by omega) (by rw [← h4]; exact c1))); subst hkm; exact ⟨rfl, (if_neg c2).symm⟩)
    · refine lv_iload_n F.1 F.2.1 dX8_ofParts_99 rfl (lv_at hl 1 rfl) ?_
      refine lv_goto (tgt := 104) F.1 F.2.1 dX8_ofParts_100 (by decide) ?_
      exact w_iret F hr hlocks hP hS dX8_ofParts_104 (by have hkm : k = mm := Nat.le_antisymm hk (Nat.le_of_not_lt (fun z => nI_ge z (by omega) (by rw [← h4]; exact c1))); subst hkm; exact ⟨rfl, (if_pos c2).symm⟩)
  · have hk1 : k < mm := Nat.lt_of_not_le (fun z => c1 (by rw [h4]; exact nI_le z (by omega)))
    refine lv_aload_n F.1 F.2.1 dX8_ofParts_18 rfl (lv_at hl 3 rfl) ?_
    refine gf_X8_7 F hP (by omega) mW_o (v := .ref (ad (o + 1))) rfl dX8_ofParts_19 ?_
    refine lv_iconst (v := 0) F.1 F.2.1 dX8_ofParts_22 (by decide) ?_
    refine lv_iload F.1 F.2.1 dX8_ofParts_23 (lv_at hl 2 rfl) ?_
    refine w_calls F hP hS (c_X8_at l D Y ad N hI _ 0 (nI k)) (cwSm 2 F.2.2.2.2.1 (fun _ h => h) mw_226 mw_224 mw_225 mw_5 rfl rfl ydX8_at ⟨by decide, by decide⟩) rfl hl.1 rfl (Nat.le_of_ble_eq_true rfl) dX8_ofParts_25 ⟨Nat.zero_le _, Nat.zero_le _⟩ (fun rq3 Kq3 H locs hq3 hP hS => ?_)
    obtain ⟨hq3w, hq3r⟩ := hq3; rw [hq3w] at hP
    subst hq3r
    refine w_iald F hP (by omega) mW_s (k := 0 + 61 + 5 * k) (ix_add (X := 0 + 61) (Y := 5 * k) (Z := 0 + 61 + 5 * k) (ix_add (X := 0) (Y := 61) (Z := 0 + 61) rfl rfl (by omega)) (ix_mul (X := 5) (Y := k) rfl rfl) (by omega)) (by omega) (Nat.le_of_ble_eq_true rfl) (v := r (61 + 5 * k)) (put_at (k := (61 + 5 * k)) (by omega) (by omega)) dX8_ofParts_28 ?_
    refine lv_istore (lv' := [(5, .int (r (61 + 5 * k))), (2, .int (T_sum (x - 7) r k)), (3, .int (T_least r k)), (4, .int (nI k)), (0, .ref (ad o)), (1, .int (x))]) F.1 F.2.1 dX8_ofParts_29 hl (by decide) rfl (fun ls hl => ?_)
    refine lv_aload_n F.1 F.2.1 dX8_ofParts_31 rfl (lv_at hl 4 rfl) ?_
    refine gf_X8_7 F hP (by omega) mW_o (v := .ref (ad (o + 1))) rfl dX8_ofParts_32 ?_
    refine lv_iconst (v := 0) F.1 F.2.1 dX8_ofParts_35 (by decide) ?_
    refine lv_iload F.1 F.2.1 dX8_ofParts_36 (lv_at hl 3 rfl) ?_
    refine w_calls F hP hS (c_X8_at l D Y ad N hI _ 0 (nI k)) (cwSm 2 F.2.2.2.2.1 (fun _ h => h) mw_226 mw_224 mw_225 mw_5 rfl rfl ydX8_at ⟨by decide, by decide⟩) rfl hl.1 rfl (Nat.le_of_ble_eq_true rfl) dX8_ofParts_38 ⟨Nat.zero_le _, Nat.zero_le _⟩ (fun rq4 Kq4 H locs hq4 hP hS => ?_)
    obtain ⟨hq4w, hq4r⟩ := hq4; rw [hq4w] at hP
    subst hq4r
    refine lv_iconst (v := 1) F.1 F.2.1 dX8_ofParts_41 (by decide) ?_
    refine lv_iadd F.1 F.2.1 dX8_ofParts_42 ?_
    refine w_iald F hP (by omega) mW_s (k := 0 + 61 + 5 * k + 1) (ix_add (X := 0 + 61 + 5 * k) (Y := 1) (Z := 0 + 61 + 5 * k + 1) (ix_add (X := 0 + 61) (Y := 5 * k) (Z := 0 + 61 + 5 * k) (ix_add (X := 0) (Y := 61) (Z := 0 + 61) rfl rfl (by omega)) (ix_mul (X := 5) (Y := k) rfl rfl) (by omega)) rfl (by omega)) (by omega) (Nat.le_of_ble_eq_true rfl) (v := r (62 + 5 * k)) (put_at (k := (62 + 5 * k)) (by omega) (by omega)) dX8_ofParts_43 ?_
    refine lv_istore (lv' := [(6, .int (r (62 + 5 * k))), (5, .int (r (61 + 5 * k))), (2, .int (T_sum (x - 7) r k)), (3, .int (T_least r k)), (4, .int (nI k)), (0, .ref (ad o)), (1, .int (x))]) F.1 F.2.1 dX8_ofParts_44 hl (by decide) rfl (fun ls hl => ?_)
    refine lv_iload_n F.1 F.2.1 dX8_ofParts_46 rfl (lv_at hl 2 rfl) ?_
    refine lv_iload F.1 F.2.1 dX8_ofParts_47 (lv_at hl 1 rfl) ?_
    refine lv_iload_n F.1 F.2.1 dX8_ofParts_49 rfl (lv_at hl 6 rfl) ?_
    refine lv_bipush (v := 7) F.1 F.2.1 dX8_ofParts_50 (by decide) ?_
    refine lv_isub F.1 F.2.1 dX8_ofParts_52 ?_
    refine lv_icmp_ne (tgt := 61) F.1 F.2.1 dX8_ofParts_53 (by decide) (fun c5 => ?_) (fun c5 => ?_)
    · refine lv_iconst (v := 0) F.1 F.2.1 dX8_ofParts_61 (by decide) ?_
      refine lv_iadd F.1 F.2.1 dX8_ofParts_62 ?_
      refine lv_istore_n (lv' := [(2, .int ((T_sum (x - 7) r k) + 0)), (6, .int (r (62 + 5 * k))), (5, .int (r (61 + 5 * k))), (3, .int (T_least r k)), (4, .int (nI k)), (0, .ref (ad o)), (1, .int (x))]) F.1 F.2.1 dX8_ofParts_63 rfl hl (by decide) rfl (fun ls hl => ?_)
      refine lv_iload F.1 F.2.1 dX8_ofParts_64 (lv_at hl 2 rfl) ?_
      refine lv_iconst (v := 2) F.1 F.2.1 dX8_ofParts_66 (by decide) ?_
      refine lv_icmp_ne (tgt := 85) F.1 F.2.1 dX8_ofParts_67 (by decide) (fun c6 => ?_) (fun c6 => ?_)
      · refine lv_iload_n F.1 F.2.1 dX8_ofParts_85 rfl (lv_at hl 3 rfl) ?_
        refine lv_istore_n (lv' := [(3, .int (T_least r k)), (2, .int ((T_sum (x - 7) r k) + 0)), (6, .int (r (62 + 5 * k))), (5, .int (r (61 + 5 * k))), (4, .int (nI k)), (0, .ref (ad o)), (1, .int (x))]) F.1 F.2.1 dX8_ofParts_86 rfl hl (by decide) rfl (fun ls hl => ?_)
        refine lv_iinc (v := (nI k) + 1) (lv' := [(4, .int ((nI k) + 1)), (3, .int (T_least r k)), (2, .int ((T_sum (x - 7) r k) + 0)), (6, .int (r (62 + 5 * k))), (5, .int (r (61 + 5 * k))), (0, .ref (ad o)), (1, .int (x))]) F.1 F.2.1 dX8_ofParts_87 hl (k := 4) rfl rfl (by decide) rfl (fun ls hl => ?_)
        refine lv_goto (tgt := 7) F.1 F.2.1 dX8_ofParts_90 (by decide) ?_
        have hs2 : T_sum (x - 7) r (k + 1) = (T_sum (x - 7) r k) + 0 := (if_neg c5).trans (Int32.add_zero _).symm
        have hs3 : T_least r (k + 1) = T_least r k := if_neg (fun z => c6 z.1)
        exact ih _ (by omega) _ _ _ _ ⟨k + 1, rfl, by omega, (by rw [hs2, hs3, nI_succ]; exact lv_sub hl [2, 1, 0, 5, 6] rfl), rfl⟩ hP hS
      · refine lv_iload_n F.1 F.2.1 dX8_ofParts_70 rfl (lv_at hl 3 rfl) ?_
        refine lv_if_eq (tgt := 80) F.1 F.2.1 dX8_ofParts_71 (by decide) (fun c7 => ?_) (fun c7 => ?_)
        · refine lv_iload F.1 F.2.1 dX8_ofParts_80 (lv_at hl 1 rfl) ?_
          refine lv_goto (tgt := 86) F.1 F.2.1 dX8_ofParts_82 (by decide) ?_
          refine lv_istore_n (lv' := [(3, .int (r (62 + 5 * k))), (2, .int ((T_sum (x - 7) r k) + 0)), (6, .int (r (62 + 5 * k))), (5, .int (r (61 + 5 * k))), (4, .int (nI k)), (0, .ref (ad o)), (1, .int (x))]) F.1 F.2.1 dX8_ofParts_86 rfl hl (by decide) rfl (fun ls hl => ?_)
          refine lv_iinc (v := (nI k) + 1) (lv' := [(4, .int ((nI k) + 1)), (3, .int (r (62 + 5 * k))), (2, .int ((T_sum (x - 7) r k) + 0)), (6, .int (r (62 + 5 * k))), (5, .int (r (61 + 5 * k))), (0, .ref (ad o)), (1, .int (x))]) F.1 F.2.1 dX8_ofParts_87 hl (k := 4) rfl rfl (by decide) rfl (fun ls hl => ?_)
          refine lv_goto (tgt := 7) F.1 F.2.1 dX8_ofParts_90 (by decide) ?_
          have hs2 : T_sum (x - 7) r (k + 1) = (T_sum (x - 7) r k) + 0 := (if_neg c5).trans (Int32.add_zero _).symm
          have hs3 : T_least r (k + 1) = r (62 + 5 * k) := if_pos ⟨c6, Or.inl c7⟩
          exact ih _ (by omega) _ _ _ _ ⟨k + 1, rfl, by omega, (by rw [hs2, hs3, nI_succ]; exact lv_sub hl [2, 1, 0, 5, 6] rfl), rfl⟩ hP hS
        · refine lv_iload F.1 F.2.1 dX8_ofParts_74 (lv_at hl 1 rfl) ?_
          refine lv_iload_n F.1 F.2.1 dX8_ofParts_76 rfl (lv_at hl 3 rfl) ?_
          refine lv_icmp_ge (tgt := 85) F.1 F.2.1 dX8_ofParts_77 (by decide) (fun c8 => ?_) (fun c8 => ?_)
          · refine lv_iload_n F.1 F.2.1 dX8_ofParts_85 rfl (lv_at hl 3 rfl) ?_
            refine lv_istore_n (lv' := [(3, .int (T_least r k)), (2, .int ((T_sum (x - 7) r k) + 0)), (6, .int (r (62 + 5 * k))), (5, .int (r (61 + 5 * k))), (4, .int (nI k)), (0, .ref (ad o)), (1, .int (x))]) F.1 F.2.1 dX8_ofParts_86 rfl hl (by decide) rfl (fun ls hl => ?_)
            refine lv_iinc (v := (nI k) + 1) (lv' := [(4, .int ((nI k) + 1)), (3, .int (T_least r k)), (2, .int ((T_sum (x - 7) r k) + 0)), (6, .int (r (62 + 5 * k))), (5, .int (r (61 + 5 * k))), (0, .ref (ad o)), (1, .int (x))]) F.1 F.2.1 dX8_ofParts_87 hl (k := 4) rfl rfl (by decide) rfl (fun ls hl => ?_)
            refine lv_goto (tgt := 7) F.1 F.2.1 dX8_ofParts_90 (by decide) ?_
            have hs2 : T_sum (x - 7) r (k + 1) = (T_sum (x - 7) r k) + 0 := (if_neg c5).trans (Int32.add_zero _).symm
            have hs3 : T_least r (k + 1) = T_least r k := if_neg (fun t => t.2.elim c7 (i_nlt c8))
            exact ih _ (by omega) _ _ _ _ ⟨k + 1, rfl, by omega, (by rw [hs2, hs3, nI_succ]; exact lv_sub hl [2, 1, 0, 5, 6] rfl), rfl⟩ hP hS
          · refine lv_iload F.1 F.2.1 dX8_ofParts_80 (lv_at hl 1 rfl) ?_
            refine lv_goto (tgt := 86) F.1 F.2.1 dX8_ofParts_82 (by decide) ?_
            refine lv_istore_n (lv' := [(3, .int (r (62 + 5 * k))), (2, .int ((T_sum (x - 7) r k) + 0)), (6, .int (r (62 + 5 * k))), (5, .int (r (61 + 5 * k))), (4, .int (nI k)), (0, .ref (ad o)), (1, .int (x))]) F.1 F.2.1 dX8_ofParts_86 rfl hl (by decide) rfl (fun ls hl => ?_)
            refine lv_iinc (v := (nI k) + 1) (lv' := [(4, .int ((nI k) + 1)), (3, .int (r (62 + 5 * k))), (2, .int ((T_sum (x - 7) r k) + 0)), (6, .int (r (62 + 5 * k))), (5, .int (r (61 + 5 * k))), (0, .ref (ad o)), (1, .int (x))]) F.1 F.2.1 dX8_ofParts_87 hl (k := 4) rfl rfl (by decide) rfl (fun ls hl => ?_)
            refine lv_goto (tgt := 7) F.1 F.2.1 dX8_ofParts_90 (by decide) ?_
            have hs2 : T_sum (x - 7) r (k + 1) = (T_sum (x - 7) r k) + 0 := (if_neg c5).trans (Int32.add_zero _).symm
            have hs3 : T_least r (k + 1) = r (62 + 5 * k) := if_pos ⟨c6, Or.inr (i_lt c8)⟩
            exact ih _ (by omega) _ _ _ _ ⟨k + 1, rfl, by omega, (by rw [hs2, hs3, nI_succ]; exact lv_sub hl [2, 1, 0, 5, 6] rfl), rfl⟩ hP hS
    · refine lv_iload F.1 F.2.1 dX8_ofParts_56 (lv_at hl 0 rfl) ?_
      refine lv_goto (tgt := 62) F.1 F.2.1 dX8_ofParts_58 (by decide) ?_
      refine lv_iadd F.1 F.2.1 dX8_ofParts_62 ?_
      refine lv_istore_n (lv' := [(2, .int ((T_sum (x - 7) r k) + (r (62 + 5 * k)))), (6, .int (r (62 + 5 * k))), (5, .int (r (61 + 5 * k))), (3, .int (T_least r k)), (4, .int (nI k)), (0, .ref (ad o)), (1, .int (x))]) F.1 F.2.1 dX8_ofParts_63 rfl hl (by decide) rfl (fun ls hl => ?_)
      refine lv_iload F.1 F.2.1 dX8_ofParts_64 (lv_at hl 2 rfl) ?_
      refine lv_iconst (v := 2) F.1 F.2.1 dX8_ofParts_66 (by decide) ?_
      refine lv_icmp_ne (tgt := 85) F.1 F.2.1 dX8_ofParts_67 (by decide) (fun c9 => ?_) (fun c9 => ?_)
      · refine lv_iload_n F.1 F.2.1 dX8_ofParts_85 rfl (lv_at hl 3 rfl) ?_
        refine lv_istore_n (lv' := [(3, .int (T_least r k)), (2, .int ((T_sum (x - 7) r k) + (r (62 + 5 * k)))), (6, .int (r (62 + 5 * k))), (5, .int (r (61 + 5 * k))), (4, .int (nI k)), (0, .ref (ad o)), (1, .int (x))]) F.1 F.2.1 dX8_ofParts_86 rfl hl (by decide) rfl (fun ls hl => ?_)
        refine lv_iinc (v := (nI k) + 1) (lv' := [(4, .int ((nI k) + 1)), (3, .int (T_least r k)), (2, .int ((T_sum (x - 7) r k) + (r (62 + 5 * k)))), (6, .int (r (62 + 5 * k))), (5, .int (r (61 + 5 * k))), (0, .ref (ad o)), (1, .int (x))]) F.1 F.2.1 dX8_ofParts_87 hl (k := 4) rfl rfl (by decide) rfl (fun ls hl => ?_)
        refine lv_goto (tgt := 7) F.1 F.2.1 dX8_ofParts_90 (by decide) ?_
        have hs2 : T_sum (x - 7) r (k + 1) = (T_sum (x - 7) r k) + (r (62 + 5 * k)) := if_pos c5
        have hs3 : T_least r (k + 1) = T_least r k := if_neg (fun z => c9 z.1)
        exact ih _ (by omega) _ _ _ _ ⟨k + 1, rfl, by omega, (by rw [hs2, hs3, nI_succ]; exact lv_sub hl [2, 1, 0, 5, 6] rfl), rfl⟩ hP hS
      · refine lv_iload_n F.1 F.2.1 dX8_ofParts_70 rfl (lv_at hl 3 rfl) ?_
        refine lv_if_eq (tgt := 80) F.1 F.2.1 dX8_ofParts_71 (by decide) (fun c10 => ?_) (fun c10 => ?_)
        · refine lv_iload F.1 F.2.1 dX8_ofParts_80 (lv_at hl 1 rfl) ?_
          refine lv_goto (tgt := 86) F.1 F.2.1 dX8_ofParts_82 (by decide) ?_
          refine lv_istore_n (lv' := [(3, .int (r (62 + 5 * k))), (2, .int ((T_sum (x - 7) r k) + (r (62 + 5 * k)))), (6, .int (r (62 + 5 * k))), (5, .int (r (61 + 5 * k))), (4, .int (nI k)), (0, .ref (ad o)), (1, .int (x))]) F.1 F.2.1 dX8_ofParts_86 rfl hl (by decide) rfl (fun ls hl => ?_)
          refine lv_iinc (v := (nI k) + 1) (lv' := [(4, .int ((nI k) + 1)), (3, .int (r (62 + 5 * k))), (2, .int ((T_sum (x - 7) r k) + (r (62 + 5 * k)))), (6, .int (r (62 + 5 * k))), (5, .int (r (61 + 5 * k))), (0, .ref (ad o)), (1, .int (x))]) F.1 F.2.1 dX8_ofParts_87 hl (k := 4) rfl rfl (by decide) rfl (fun ls hl => ?_)
          refine lv_goto (tgt := 7) F.1 F.2.1 dX8_ofParts_90 (by decide) ?_
          have hs2 : T_sum (x - 7) r (k + 1) = (T_sum (x - 7) r k) + (r (62 + 5 * k)) := if_pos c5
          have hs3 : T_least r (k + 1) = r (62 + 5 * k) := if_pos ⟨c9, Or.inl c10⟩
          exact ih _ (by omega) _ _ _ _ ⟨k + 1, rfl, by omega, (by rw [hs2, hs3, nI_succ]; exact lv_sub hl [2, 1, 0, 5, 6] rfl), rfl⟩ hP hS
        · refine lv_iload F.1 F.2.1 dX8_ofParts_74 (lv_at hl 1 rfl) ?_
          refine lv_iload_n F.1 F.2.1 dX8_ofParts_76 rfl (lv_at hl 3 rfl) ?_
          refine lv_icmp_ge (tgt := 85) F.1 F.2.1 dX8_ofParts_77 (by decide) (fun c11 => ?_) (fun c11 => ?_)
          · refine lv_iload_n F.1 F.2.1 dX8_ofParts_85 rfl (lv_at hl 3 rfl) ?_
            refine lv_istore_n (lv' := [(3, .int (T_least r k)), (2, .int ((T_sum (x - 7) r k) + (r (62 + 5 * k)))), (6, .int (r (62 + 5 * k))), (5, .int (r (61 + 5 * k))), (4, .int (nI k)), (0, .ref (ad o)), (1, .int (x))]) F.1 F.2.1 dX8_ofParts_86 rfl hl (by decide) rfl (fun ls hl => ?_)
            refine lv_iinc (v := (nI k) + 1) (lv' := [(4, .int ((nI k) + 1)), (3, .int (T_least r k)), (2, .int ((T_sum (x - 7) r k) + (r (62 + 5 * k)))), (6, .int (r (62 + 5 * k))), (5, .int (r (61 + 5 * k))), (0, .ref (ad o)), (1, .int (x))]) F.1 F.2.1 dX8_ofParts_87 hl (k := 4) rfl rfl (by decide) rfl (fun ls hl => ?_)
            refine lv_goto (tgt := 7) F.1 F.2.1 dX8_ofParts_90 (by decide) ?_
            have hs2 : T_sum (x - 7) r (k + 1) = (T_sum (x - 7) r k) + (r (62 + 5 * k)) := if_pos c5
            have hs3 : T_least r (k + 1) = T_least r k := if_neg (fun t => t.2.elim c10 (i_nlt c11))
            exact ih _ (by omega) _ _ _ _ ⟨k + 1, rfl, by omega, (by rw [hs2, hs3, nI_succ]; exact lv_sub hl [2, 1, 0, 5, 6] rfl), rfl⟩ hP hS
          · refine lv_iload F.1 F.2.1 dX8_ofParts_80 (lv_at hl 1 rfl) ?_
            refine lv_goto (tgt := 86) F.1 F.2.1 dX8_ofParts_82 (by decide) ?_
            refine lv_istore_n (lv' := [(3, .int (r (62 + 5 * k))), (2, .int ((T_sum (x - 7) r k) + (r (62 + 5 * k)))), (6, .int (r (62 + 5 * k))), (5, .int (r (61 + 5 * k))), (4, .int (nI k)), (0, .ref (ad o)), (1, .int (x))]) F.1 F.2.1 dX8_ofParts_86 rfl hl (by decide) rfl (fun ls hl => ?_)
            refine lv_iinc (v := (nI k) + 1) (lv' := [(4, .int ((nI k) + 1)), (3, .int (r (62 + 5 * k))), (2, .int ((T_sum (x - 7) r k) + (r (62 + 5 * k)))), (6, .int (r (62 + 5 * k))), (5, .int (r (61 + 5 * k))), (0, .ref (ad o)), (1, .int (x))]) F.1 F.2.1 dX8_ofParts_87 hl (k := 4) rfl rfl (by decide) rfl (fun ls hl => ?_)
            refine lv_goto (tgt := 7) F.1 F.2.1 dX8_ofParts_90 (by decide) ?_
            have hs2 : T_sum (x - 7) r (k + 1) = (T_sum (x - 7) r k) + (r (62 + 5 * k)) := if_pos c5
            have hs3 : T_least r (k + 1) = r (62 + 5 * k) := if_pos ⟨c9, Or.inr (i_lt c11)⟩
            exact ih _ (by omega) _ _ _ _ ⟨k + 1, rfl, by omega, (by rw [hs2, hs3, nI_succ]; exact lv_sub hl [2, 1, 0, 5, 6] rfl), rfl⟩ hP hS
set_option maxRecDepth 20000 in
set_option maxHeartbeats 4000000 in
/-- count -/
theorem c_X8_count (l : Launch) (D : va_G) (Y : Nat → ClassId) (ad : Nat → Nat) (N : Nat) (hI : wI ad N) (C : Nat → va_E) (o : Nat) (hh : o + 6 ≤ N) (gr : Int32) (r s0 : Nat → Int32) (k0 : Nat) (hk0 : k0 ≤ 6) (hs : Nat → Nat → Int32) (pa : Nat → Int32) (hpa : C (o + 2) = pA Y pa) (hhs : ∀ i j, i < k0 → j < 161 → pa (161 * i + j) = hs i j) (sl : Nat → Nat → Int32) (sla sv : Nat → Int32) (hsl : C (o + 3) = .inl (Y 0, 322, .inl sla)) (hsls : ∀ k j, k < 2 → j < 161 → ¬ sv k = 0 → sla (161 * k + j) = sl k j) (hsv : C (o + 4) = .inl (Y 1, 2, .inl sv)) (pd : Nat → Int32) (nn : Nat) (hn80 : nn ≤ 80) (hpdd : C (o + 5) = .inl (Y 0, 80, .inl pd)) (x : Int32) (B : Int) (hok : okRow B r) (hBb : B + 60000 ≤ 900000000) (hB0 : 0 ≤ B) : Met l yX8_count (wm yX8_count cX8_count 2 (some .int)) { frames := 2, cells := 0, slots := 0, locals := 47 } (wPc D Y ad N [.ref (ad o), .int (x)] (mW Y ad C o (nI k0) (nI nn) gr 0 r s0)) (wQi D ad N (fun q C' => q = T_count r k0 nn x ∧ mdlA Y ad C' o r hs k0 sl sv pd nn ∧ ∀ j, j < o ∨ o + 6 ≤ j → C' j = C j)) 0 0 (wA ad N) := by
  have h4 : r 4 = nI (r 4).toNatClampNeg := (nI_rd (M := 20) hok.1.2.2.2.2.1.1 hok.1.2.2.2.2.1.2).1
  refine wMet RX8 rfl (by decide +kernel) (Nat.le_of_ble_eq_true rfl) (lv := [(0, .ref (ad o)), (1, .int (x))]) rfl ?_
  intro p e s m below meth c ls F hr hlocks hP hl
  have hS : va_S (wA ad N) s.heap s.heap [] := va_S.rf
  refine lv_iload_n F.1 F.2.1 dX8_count_0 rfl (lv_at hl 1 rfl) ?_
  by_cases k1 : x = 0
  · refine lv_tableIn (off := 79) (tgt := 80) F.1 F.2.1 dX8_count_1 (by rw [k1]; decide) (by rw [k1]; decide) (by rw [k1]; rfl) (by decide) ?_
    refine lv_aload_n F.1 F.2.1 dX8_count_80 rfl (lv_at hl 0 rfl) ?_
    refine gf_X8_7 F hP (by omega) mW_o (v := .ref (ad (o + 1))) rfl dX8_count_81 ?_
    refine lv_iconst (v := 4) F.1 F.2.1 dX8_count_84 (by decide) ?_
    refine w_iald F hP (by omega) mW_s (k := 4) rfl (by omega) (Nat.le_of_ble_eq_true rfl) (v := r 4) (put_at (k := 4) (by omega) (by omega)) dX8_count_85 ?_
    exact w_iret F hr hlocks hP hS dX8_count_86 ⟨by rw [k1]; rfl, mdl_mk hk0 hn80 hpa hhs hsl hsls hsv hpdd, mfr_0⟩
  · by_cases k2 : x = 1
    · refine lv_tableIn (off := 86) (tgt := 87) F.1 F.2.1 dX8_count_1 (by rw [k2]; decide) (by rw [k2]; decide) (by rw [k2]; rfl) (by decide) ?_
      refine lv_aload_n F.1 F.2.1 dX8_count_87 rfl (lv_at hl 0 rfl) ?_
      refine gf_X8_7 F hP (by omega) mW_o (v := .ref (ad (o + 1))) rfl dX8_count_88 ?_
      refine lv_bipush (v := 14) F.1 F.2.1 dX8_count_91 (by decide) ?_
      refine w_iald F hP (by omega) mW_s (k := 14) rfl (by omega) (Nat.le_of_ble_eq_true rfl) (v := r 14) (put_at (k := 14) (by omega) (by omega)) dX8_count_93 ?_
      exact w_iret F hr hlocks hP hS dX8_count_94 ⟨by rw [k2]; rfl, mdl_mk hk0 hn80 hpa hhs hsl hsls hsv hpdd, mfr_0⟩
    · by_cases k3 : x = 2
      · refine lv_tableIn (off := 94) (tgt := 95) F.1 F.2.1 dX8_count_1 (by rw [k3]; decide) (by rw [k3]; decide) (by rw [k3]; rfl) (by decide) ?_
        refine lv_aload_n F.1 F.2.1 dX8_count_95 rfl (lv_at hl 0 rfl) ?_
        refine gf_X8_7 F hP (by omega) mW_o (v := .ref (ad (o + 1))) rfl dX8_count_96 ?_
        refine lv_bipush (v := 15) F.1 F.2.1 dX8_count_99 (by decide) ?_
        refine lv_iload_n F.1 F.2.1 dX8_count_101 rfl (lv_at hl 1 rfl) ?_
        refine lv_iadd F.1 F.2.1 dX8_count_102 ?_
        refine lv_iconst (v := 2) F.1 F.2.1 dX8_count_103 (by decide) ?_
        refine lv_isub F.1 F.2.1 dX8_count_104 ?_
        refine w_iald F hP (by omega) mW_s (k := 15) (by rw [k3]; rfl) (by omega) (Nat.le_of_ble_eq_true rfl) (v := r 15) (put_at (k := 15) (by omega) (by omega)) dX8_count_105 ?_
        exact w_iret F hr hlocks hP hS dX8_count_106 ⟨by rw [k3]; rfl, mdl_mk hk0 hn80 hpa hhs hsl hsls hsv hpdd, mfr_0⟩
      · by_cases k4 : x = 3
        · refine lv_tableIn (off := 94) (tgt := 95) F.1 F.2.1 dX8_count_1 (by rw [k4]; decide) (by rw [k4]; decide) (by rw [k4]; rfl) (by decide) ?_
          refine lv_aload_n F.1 F.2.1 dX8_count_95 rfl (lv_at hl 0 rfl) ?_
          refine gf_X8_7 F hP (by omega) mW_o (v := .ref (ad (o + 1))) rfl dX8_count_96 ?_
          refine lv_bipush (v := 15) F.1 F.2.1 dX8_count_99 (by decide) ?_
          refine lv_iload_n F.1 F.2.1 dX8_count_101 rfl (lv_at hl 1 rfl) ?_
          refine lv_iadd F.1 F.2.1 dX8_count_102 ?_
          refine lv_iconst (v := 2) F.1 F.2.1 dX8_count_103 (by decide) ?_
          refine lv_isub F.1 F.2.1 dX8_count_104 ?_
          refine w_iald F hP (by omega) mW_s (k := 16) (by rw [k4]; rfl) (by omega) (Nat.le_of_ble_eq_true rfl) (v := r 16) (put_at (k := 16) (by omega) (by omega)) dX8_count_105 ?_
          exact w_iret F hr hlocks hP hS dX8_count_106 ⟨by rw [k4]; rfl, mdl_mk hk0 hn80 hpa hhs hsl hsls hsv hpdd, mfr_0⟩
        · by_cases k5 : x = 4
          · refine lv_tableIn (off := 94) (tgt := 95) F.1 F.2.1 dX8_count_1 (by rw [k5]; decide) (by rw [k5]; decide) (by rw [k5]; rfl) (by decide) ?_
            refine lv_aload_n F.1 F.2.1 dX8_count_95 rfl (lv_at hl 0 rfl) ?_
            refine gf_X8_7 F hP (by omega) mW_o (v := .ref (ad (o + 1))) rfl dX8_count_96 ?_
            refine lv_bipush (v := 15) F.1 F.2.1 dX8_count_99 (by decide) ?_
            refine lv_iload_n F.1 F.2.1 dX8_count_101 rfl (lv_at hl 1 rfl) ?_
            refine lv_iadd F.1 F.2.1 dX8_count_102 ?_
            refine lv_iconst (v := 2) F.1 F.2.1 dX8_count_103 (by decide) ?_
            refine lv_isub F.1 F.2.1 dX8_count_104 ?_
            refine w_iald F hP (by omega) mW_s (k := 17) (by rw [k5]; rfl) (by omega) (Nat.le_of_ble_eq_true rfl) (v := r 17) (put_at (k := 17) (by omega) (by omega)) dX8_count_105 ?_
            exact w_iret F hr hlocks hP hS dX8_count_106 ⟨by rw [k5]; rfl, mdl_mk hk0 hn80 hpa hhs hsl hsls hsv hpdd, mfr_0⟩
          · by_cases k6 : x = 5
            · refine lv_tableIn (off := 94) (tgt := 95) F.1 F.2.1 dX8_count_1 (by rw [k6]; decide) (by rw [k6]; decide) (by rw [k6]; rfl) (by decide) ?_
              refine lv_aload_n F.1 F.2.1 dX8_count_95 rfl (lv_at hl 0 rfl) ?_
              refine gf_X8_7 F hP (by omega) mW_o (v := .ref (ad (o + 1))) rfl dX8_count_96 ?_
              refine lv_bipush (v := 15) F.1 F.2.1 dX8_count_99 (by decide) ?_
              refine lv_iload_n F.1 F.2.1 dX8_count_101 rfl (lv_at hl 1 rfl) ?_
              refine lv_iadd F.1 F.2.1 dX8_count_102 ?_
              refine lv_iconst (v := 2) F.1 F.2.1 dX8_count_103 (by decide) ?_
              refine lv_isub F.1 F.2.1 dX8_count_104 ?_
              refine w_iald F hP (by omega) mW_s (k := 18) (by rw [k6]; rfl) (by omega) (Nat.le_of_ble_eq_true rfl) (v := r 18) (put_at (k := 18) (by omega) (by omega)) dX8_count_105 ?_
              exact w_iret F hr hlocks hP hS dX8_count_106 ⟨by rw [k6]; rfl, mdl_mk hk0 hn80 hpa hhs hsl hsls hsv hpdd, mfr_0⟩
            · by_cases k7 : x = 6
              · refine lv_tableIn (off := 106) (tgt := 107) F.1 F.2.1 dX8_count_1 (by rw [k7]; decide) (by rw [k7]; decide) (by rw [k7]; rfl) (by decide) ?_
                refine lv_aload_n F.1 F.2.1 dX8_count_107 rfl (lv_at hl 0 rfl) ?_
                refine lv_iload_n F.1 F.2.1 dX8_count_108 rfl (lv_at hl 1 rfl) ?_
                refine w_calli F hP hS (c_X8_ofParts l D Y ad N hI C o hh (nI k0) (nI nn) gr r s0 x _ (m20 hok.1) h4) (cwVm 1 F.2.2.2.2.1 (fun _ h => h) mw_505 mw_502 mw_503 mw_504 mw_5 rfl rfl ydX8_ofParts ⟨by decide, by decide⟩) (by omega) mW_o rfl rfl hl.1 rfl (Nat.le_of_ble_eq_true rfl) dX8_count_109 ⟨Nat.zero_le _, Nat.zero_le _⟩ (fun rq8 Kq8 H locs hq8 hP hS => ?_)
                obtain ⟨hq8w, hq8r⟩ := hq8; subst hq8w
                subst hq8r
                exact w_iret F hr hlocks hP hS dX8_count_112 ⟨by rw [k7]; rfl, mdl_mk hk0 hn80 hpa hhs hsl hsls hsv hpdd, mfr_0⟩
              · by_cases k9 : x = 7
                · refine lv_tableIn (off := 106) (tgt := 107) F.1 F.2.1 dX8_count_1 (by rw [k9]; decide) (by rw [k9]; decide) (by rw [k9]; rfl) (by decide) ?_
                  refine lv_aload_n F.1 F.2.1 dX8_count_107 rfl (lv_at hl 0 rfl) ?_
                  refine lv_iload_n F.1 F.2.1 dX8_count_108 rfl (lv_at hl 1 rfl) ?_
                  refine w_calli F hP hS (c_X8_ofParts l D Y ad N hI C o hh (nI k0) (nI nn) gr r s0 x _ (m20 hok.1) h4) (cwVm 1 F.2.2.2.2.1 (fun _ h => h) mw_505 mw_502 mw_503 mw_504 mw_5 rfl rfl ydX8_ofParts ⟨by decide, by decide⟩) (by omega) mW_o rfl rfl hl.1 rfl (Nat.le_of_ble_eq_true rfl) dX8_count_109 ⟨Nat.zero_le _, Nat.zero_le _⟩ (fun rq10 Kq10 H locs hq10 hP hS => ?_)
                  obtain ⟨hq10w, hq10r⟩ := hq10; subst hq10w
                  subst hq10r
                  exact w_iret F hr hlocks hP hS dX8_count_112 ⟨by rw [k9]; rfl, mdl_mk hk0 hn80 hpa hhs hsl hsls hsv hpdd, mfr_0⟩
                · by_cases k11 : x = 8
                  · refine lv_tableIn (off := 106) (tgt := 107) F.1 F.2.1 dX8_count_1 (by rw [k11]; decide) (by rw [k11]; decide) (by rw [k11]; rfl) (by decide) ?_
                    refine lv_aload_n F.1 F.2.1 dX8_count_107 rfl (lv_at hl 0 rfl) ?_
                    refine lv_iload_n F.1 F.2.1 dX8_count_108 rfl (lv_at hl 1 rfl) ?_
                    refine w_calli F hP hS (c_X8_ofParts l D Y ad N hI C o hh (nI k0) (nI nn) gr r s0 x _ (m20 hok.1) h4) (cwVm 1 F.2.2.2.2.1 (fun _ h => h) mw_505 mw_502 mw_503 mw_504 mw_5 rfl rfl ydX8_ofParts ⟨by decide, by decide⟩) (by omega) mW_o rfl rfl hl.1 rfl (Nat.le_of_ble_eq_true rfl) dX8_count_109 ⟨Nat.zero_le _, Nat.zero_le _⟩ (fun rq12 Kq12 H locs hq12 hP hS => ?_)
                    obtain ⟨hq12w, hq12r⟩ := hq12; subst hq12w
                    subst hq12r
                    exact w_iret F hr hlocks hP hS dX8_count_112 ⟨by rw [k11]; rfl, mdl_mk hk0 hn80 hpa hhs hsl hsls hsv hpdd, mfr_0⟩
                  · by_cases k13 : x = 9
                    · refine lv_tableIn (off := 112) (tgt := 113) F.1 F.2.1 dX8_count_1 (by rw [k13]; decide) (by rw [k13]; decide) (by rw [k13]; rfl) (by decide) ?_
                      refine lv_aload_n F.1 F.2.1 dX8_count_113 rfl (lv_at hl 0 rfl) ?_
                      refine gf_X8_7 F hP (by omega) mW_o (v := .ref (ad (o + 1))) rfl dX8_count_114 ?_
                      refine lv_bipush (v := 19) F.1 F.2.1 dX8_count_117 (by decide) ?_
                      refine w_iald F hP (by omega) mW_s (k := 19) rfl (by omega) (Nat.le_of_ble_eq_true rfl) (v := r 19) (put_at (k := 19) (by omega) (by omega)) dX8_count_119 ?_
                      exact w_iret F hr hlocks hP hS dX8_count_120 ⟨by rw [k13]; rfl, mdl_mk hk0 hn80 hpa hhs hsl hsls hsv hpdd, mfr_0⟩
                    · by_cases k14 : x = 10
                      · refine lv_tableIn (off := 130) (tgt := 131) F.1 F.2.1 dX8_count_1 (by rw [k14]; decide) (by rw [k14]; decide) (by rw [k14]; rfl) (by decide) ?_
                        refine lv_iload_n F.1 F.2.1 dX8_count_131 rfl (lv_at hl 1 rfl) ?_
                        refine lv_bipush (v := 10) F.1 F.2.1 dX8_count_132 (by decide) ?_
                        refine lv_bipush (v := 13) F.1 F.2.1 dX8_count_134 (by decide) ?_
                        refine w_calls F hP hS (c_X8_in l D Y ad N hI _ x 10 13) (cwSm 3 F.2.2.2.2.1 (fun _ h => h) mw_183 mw_181 mw_182 mw_5 rfl rfl ydX8_in ⟨by decide, by decide⟩) rfl hl.1 rfl (Nat.le_of_ble_eq_true rfl) dX8_count_136 ⟨Nat.zero_le _, Nat.zero_le _⟩ (fun rq15 Kq15 H locs hq15 hP hS => ?_)
                        obtain ⟨hq15w, hq15r⟩ := hq15; rw [hq15w] at hP
                        refine lv_if_eq (tgt := 154) F.1 F.2.1 dX8_count_139 (by decide) (fun c16 => ?_) (fun c16 => ?_)
                        · refine lv_bipush (v := (-2)) F.1 F.2.1 dX8_count_154 (by decide) ?_
                          exact w_iret F hr hlocks hP hS dX8_count_156 ⟨absurd ⟨by rw [k14]; decide, by rw [k14]; decide⟩ (b_f hq15r c16), mdl_mk hk0 hn80 hpa hhs hsl hsls hsv hpdd, mfr_0⟩
                        · obtain ⟨hc10, kx, hkx, ex10, ec10⟩ := cnt_10 (f := r) (kn := k0) (n := nn) (b_t hq15r c16)
                          refine lv_aload_n F.1 F.2.1 dX8_count_142 rfl (lv_at hl 0 rfl) ?_
                          refine gf_X8_7 F hP (by omega) mW_o (v := .ref (ad (o + 1))) rfl dX8_count_143 ?_
                          refine lv_iload_n F.1 F.2.1 dX8_count_146 rfl (lv_at hl 1 rfl) ?_
                          refine lv_bipush (v := 10) F.1 F.2.1 dX8_count_147 (by decide) ?_
                          refine lv_isub F.1 F.2.1 dX8_count_149 ?_
                          refine w_iald F hP (by omega) mW_s (k := kx) ex10 (by omega) (Nat.le_of_ble_eq_true rfl) (v := r kx) (put_at (k := kx) (by omega) (by omega)) dX8_count_150 ?_
                          refine lv_goto (tgt := 156) F.1 F.2.1 dX8_count_151 (by decide) ?_
                          exact w_iret F hr hlocks hP hS dX8_count_156 ⟨by rw [hc10, ec10], mdl_mk hk0 hn80 hpa hhs hsl hsls hsv hpdd, mfr_0⟩
                      · by_cases k17 : x = 11
                        · refine lv_tableIn (off := 130) (tgt := 131) F.1 F.2.1 dX8_count_1 (by rw [k17]; decide) (by rw [k17]; decide) (by rw [k17]; rfl) (by decide) ?_
                          refine lv_iload_n F.1 F.2.1 dX8_count_131 rfl (lv_at hl 1 rfl) ?_
                          refine lv_bipush (v := 10) F.1 F.2.1 dX8_count_132 (by decide) ?_
                          refine lv_bipush (v := 13) F.1 F.2.1 dX8_count_134 (by decide) ?_
                          refine w_calls F hP hS (c_X8_in l D Y ad N hI _ x 10 13) (cwSm 3 F.2.2.2.2.1 (fun _ h => h) mw_183 mw_181 mw_182 mw_5 rfl rfl ydX8_in ⟨by decide, by decide⟩) rfl hl.1 rfl (Nat.le_of_ble_eq_true rfl) dX8_count_136 ⟨Nat.zero_le _, Nat.zero_le _⟩ (fun rq18 Kq18 H locs hq18 hP hS => ?_)
                          obtain ⟨hq18w, hq18r⟩ := hq18; rw [hq18w] at hP
                          refine lv_if_eq (tgt := 154) F.1 F.2.1 dX8_count_139 (by decide) (fun c19 => ?_) (fun c19 => ?_)
                          · refine lv_bipush (v := (-2)) F.1 F.2.1 dX8_count_154 (by decide) ?_
                            exact w_iret F hr hlocks hP hS dX8_count_156 ⟨absurd ⟨by rw [k17]; decide, by rw [k17]; decide⟩ (b_f hq18r c19), mdl_mk hk0 hn80 hpa hhs hsl hsls hsv hpdd, mfr_0⟩
                          · obtain ⟨hc10, kx, hkx, ex10, ec10⟩ := cnt_10 (f := r) (kn := k0) (n := nn) (b_t hq18r c19)
                            refine lv_aload_n F.1 F.2.1 dX8_count_142 rfl (lv_at hl 0 rfl) ?_
                            refine gf_X8_7 F hP (by omega) mW_o (v := .ref (ad (o + 1))) rfl dX8_count_143 ?_
                            refine lv_iload_n F.1 F.2.1 dX8_count_146 rfl (lv_at hl 1 rfl) ?_
                            refine lv_bipush (v := 10) F.1 F.2.1 dX8_count_147 (by decide) ?_
                            refine lv_isub F.1 F.2.1 dX8_count_149 ?_
                            refine w_iald F hP (by omega) mW_s (k := kx) ex10 (by omega) (Nat.le_of_ble_eq_true rfl) (v := r kx) (put_at (k := kx) (by omega) (by omega)) dX8_count_150 ?_
                            refine lv_goto (tgt := 156) F.1 F.2.1 dX8_count_151 (by decide) ?_
                            exact w_iret F hr hlocks hP hS dX8_count_156 ⟨by rw [hc10, ec10], mdl_mk hk0 hn80 hpa hhs hsl hsls hsv hpdd, mfr_0⟩
                        · by_cases k20 : x = 12
                          · refine lv_tableIn (off := 130) (tgt := 131) F.1 F.2.1 dX8_count_1 (by rw [k20]; decide) (by rw [k20]; decide) (by rw [k20]; rfl) (by decide) ?_
                            refine lv_iload_n F.1 F.2.1 dX8_count_131 rfl (lv_at hl 1 rfl) ?_
                            refine lv_bipush (v := 10) F.1 F.2.1 dX8_count_132 (by decide) ?_
                            refine lv_bipush (v := 13) F.1 F.2.1 dX8_count_134 (by decide) ?_
                            refine w_calls F hP hS (c_X8_in l D Y ad N hI _ x 10 13) (cwSm 3 F.2.2.2.2.1 (fun _ h => h) mw_183 mw_181 mw_182 mw_5 rfl rfl ydX8_in ⟨by decide, by decide⟩) rfl hl.1 rfl (Nat.le_of_ble_eq_true rfl) dX8_count_136 ⟨Nat.zero_le _, Nat.zero_le _⟩ (fun rq21 Kq21 H locs hq21 hP hS => ?_)
                            obtain ⟨hq21w, hq21r⟩ := hq21; rw [hq21w] at hP
                            refine lv_if_eq (tgt := 154) F.1 F.2.1 dX8_count_139 (by decide) (fun c22 => ?_) (fun c22 => ?_)
                            · refine lv_bipush (v := (-2)) F.1 F.2.1 dX8_count_154 (by decide) ?_
                              exact w_iret F hr hlocks hP hS dX8_count_156 ⟨absurd ⟨by rw [k20]; decide, by rw [k20]; decide⟩ (b_f hq21r c22), mdl_mk hk0 hn80 hpa hhs hsl hsls hsv hpdd, mfr_0⟩
                            · obtain ⟨hc10, kx, hkx, ex10, ec10⟩ := cnt_10 (f := r) (kn := k0) (n := nn) (b_t hq21r c22)
                              refine lv_aload_n F.1 F.2.1 dX8_count_142 rfl (lv_at hl 0 rfl) ?_
                              refine gf_X8_7 F hP (by omega) mW_o (v := .ref (ad (o + 1))) rfl dX8_count_143 ?_
                              refine lv_iload_n F.1 F.2.1 dX8_count_146 rfl (lv_at hl 1 rfl) ?_
                              refine lv_bipush (v := 10) F.1 F.2.1 dX8_count_147 (by decide) ?_
                              refine lv_isub F.1 F.2.1 dX8_count_149 ?_
                              refine w_iald F hP (by omega) mW_s (k := kx) ex10 (by omega) (Nat.le_of_ble_eq_true rfl) (v := r kx) (put_at (k := kx) (by omega) (by omega)) dX8_count_150 ?_
                              refine lv_goto (tgt := 156) F.1 F.2.1 dX8_count_151 (by decide) ?_
                              exact w_iret F hr hlocks hP hS dX8_count_156 ⟨by rw [hc10, ec10], mdl_mk hk0 hn80 hpa hhs hsl hsls hsv hpdd, mfr_0⟩
                          · by_cases k23 : x = 13
                            · refine lv_tableIn (off := 130) (tgt := 131) F.1 F.2.1 dX8_count_1 (by rw [k23]; decide) (by rw [k23]; decide) (by rw [k23]; rfl) (by decide) ?_
                              refine lv_iload_n F.1 F.2.1 dX8_count_131 rfl (lv_at hl 1 rfl) ?_
                              refine lv_bipush (v := 10) F.1 F.2.1 dX8_count_132 (by decide) ?_
                              refine lv_bipush (v := 13) F.1 F.2.1 dX8_count_134 (by decide) ?_
                              refine w_calls F hP hS (c_X8_in l D Y ad N hI _ x 10 13) (cwSm 3 F.2.2.2.2.1 (fun _ h => h) mw_183 mw_181 mw_182 mw_5 rfl rfl ydX8_in ⟨by decide, by decide⟩) rfl hl.1 rfl (Nat.le_of_ble_eq_true rfl) dX8_count_136 ⟨Nat.zero_le _, Nat.zero_le _⟩ (fun rq24 Kq24 H locs hq24 hP hS => ?_)
                              obtain ⟨hq24w, hq24r⟩ := hq24; rw [hq24w] at hP
                              refine lv_if_eq (tgt := 154) F.1 F.2.1 dX8_count_139 (by decide) (fun c25 => ?_) (fun c25 => ?_)
                              · refine lv_bipush (v := (-2)) F.1 F.2.1 dX8_count_154 (by decide) ?_
                                exact w_iret F hr hlocks hP hS dX8_count_156 ⟨absurd ⟨by rw [k23]; decide, by rw [k23]; decide⟩ (b_f hq24r c25), mdl_mk hk0 hn80 hpa hhs hsl hsls hsv hpdd, mfr_0⟩
                              · obtain ⟨hc10, kx, hkx, ex10, ec10⟩ := cnt_10 (f := r) (kn := k0) (n := nn) (b_t hq24r c25)
                                refine lv_aload_n F.1 F.2.1 dX8_count_142 rfl (lv_at hl 0 rfl) ?_
                                refine gf_X8_7 F hP (by omega) mW_o (v := .ref (ad (o + 1))) rfl dX8_count_143 ?_
                                refine lv_iload_n F.1 F.2.1 dX8_count_146 rfl (lv_at hl 1 rfl) ?_
                                refine lv_bipush (v := 10) F.1 F.2.1 dX8_count_147 (by decide) ?_
                                refine lv_isub F.1 F.2.1 dX8_count_149 ?_
                                refine w_iald F hP (by omega) mW_s (k := kx) ex10 (by omega) (Nat.le_of_ble_eq_true rfl) (v := r kx) (put_at (k := kx) (by omega) (by omega)) dX8_count_150 ?_
                                refine lv_goto (tgt := 156) F.1 F.2.1 dX8_count_151 (by decide) ?_
                                exact w_iret F hr hlocks hP hS dX8_count_156 ⟨by rw [hc10, ec10], mdl_mk hk0 hn80 hpa hhs hsl hsls hsv hpdd, mfr_0⟩
                            · by_cases k26 : x = 14
                              · refine lv_tableIn (off := 120) (tgt := 121) F.1 F.2.1 dX8_count_1 (by rw [k26]; decide) (by rw [k26]; decide) (by rw [k26]; rfl) (by decide) ?_
                                refine lv_aload_n F.1 F.2.1 dX8_count_121 rfl (lv_at hl 0 rfl) ?_
                                refine gf_X8_106 F hP (by omega) mW_o (v := .int (nI nn)) rfl dX8_count_122 ?_
                                exact w_iret F hr hlocks hP hS dX8_count_125 ⟨by rw [k26]; rfl, mdl_mk hk0 hn80 hpa hhs hsl hsls hsv hpdd, mfr_0⟩
                              · by_cases k27 : x = 15
                                · refine lv_tableIn (off := 125) (tgt := 126) F.1 F.2.1 dX8_count_1 (by rw [k27]; decide) (by rw [k27]; decide) (by rw [k27]; rfl) (by decide) ?_
                                  refine lv_aload_n F.1 F.2.1 dX8_count_126 rfl (lv_at hl 0 rfl) ?_
                                  refine gf_X8_30 F hP (by omega) mW_o (v := .int (nI k0)) rfl dX8_count_127 ?_
                                  exact w_iret F hr hlocks hP hS dX8_count_130 ⟨by rw [k27]; rfl, mdl_mk hk0 hn80 hpa hhs hsl hsls hsv hpdd, mfr_0⟩
                                · refine lv_tableOut (tgt := 131) F.1 F.2.1 dX8_count_1 (by have := lv_neT k1 (a := 0) rfl; have := lv_neT k2 (a := 1) rfl; have := lv_neT k3 (a := 2) rfl; have := lv_neT k4 (a := 3) rfl; have := lv_neT k5 (a := 4) rfl; have := lv_neT k6 (a := 5) rfl; have := lv_neT k7 (a := 6) rfl; have := lv_neT k9 (a := 7) rfl; have := lv_neT k11 (a := 8) rfl; have := lv_neT k13 (a := 9) rfl; have := lv_neT k14 (a := 10) rfl; have := lv_neT k17 (a := 11) rfl; have := lv_neT k20 (a := 12) rfl; have := lv_neT k23 (a := 13) rfl; have := lv_neT k26 (a := 14) rfl; have := lv_neT k27 (a := 15) rfl; omega) (by decide) ?_
                                  refine lv_iload_n F.1 F.2.1 dX8_count_131 rfl (lv_at hl 1 rfl) ?_
                                  refine lv_bipush (v := 10) F.1 F.2.1 dX8_count_132 (by decide) ?_
                                  refine lv_bipush (v := 13) F.1 F.2.1 dX8_count_134 (by decide) ?_
                                  refine w_calls F hP hS (c_X8_in l D Y ad N hI _ x 10 13) (cwSm 3 F.2.2.2.2.1 (fun _ h => h) mw_183 mw_181 mw_182 mw_5 rfl rfl ydX8_in ⟨by decide, by decide⟩) rfl hl.1 rfl (Nat.le_of_ble_eq_true rfl) dX8_count_136 ⟨Nat.zero_le _, Nat.zero_le _⟩ (fun rq28 Kq28 H locs hq28 hP hS => ?_)
                                  obtain ⟨hq28w, hq28r⟩ := hq28; rw [hq28w] at hP
                                  refine lv_if_eq (tgt := 154) F.1 F.2.1 dX8_count_139 (by decide) (fun c29 => ?_) (fun c29 => ?_)
                                  · refine lv_bipush (v := (-2)) F.1 F.2.1 dX8_count_154 (by decide) ?_
                                    exact w_iret F hr hlocks hP hS dX8_count_156 ⟨(if_neg (fun q => by have q1 := Int32.le_iff_toInt_le.mp q.1; have q2 := Int32.le_iff_toInt_le.mp q.2; have z : (0 : Int32).toInt = 0 := rfl; have z2 : (15 : Int32).toInt = 15 := rfl; have := lv_neT k1 (a := 0) rfl; have := lv_neT k2 (a := 1) rfl; have := lv_neT k3 (a := 2) rfl; have := lv_neT k4 (a := 3) rfl; have := lv_neT k5 (a := 4) rfl; have := lv_neT k6 (a := 5) rfl; have := lv_neT k7 (a := 6) rfl; have := lv_neT k9 (a := 7) rfl; have := lv_neT k11 (a := 8) rfl; have := lv_neT k13 (a := 9) rfl; have := lv_neT k14 (a := 10) rfl; have := lv_neT k17 (a := 11) rfl; have := lv_neT k20 (a := 12) rfl; have := lv_neT k23 (a := 13) rfl; have := lv_neT k26 (a := 14) rfl; have := lv_neT k27 (a := 15) rfl; omega)).symm, mdl_mk hk0 hn80 hpa hhs hsl hsls hsv hpdd, mfr_0⟩
                                  · obtain ⟨hc10, kx, hkx, ex10, ec10⟩ := cnt_10 (f := r) (kn := k0) (n := nn) (b_t hq28r c29)
                                    refine lv_aload_n F.1 F.2.1 dX8_count_142 rfl (lv_at hl 0 rfl) ?_
                                    refine gf_X8_7 F hP (by omega) mW_o (v := .ref (ad (o + 1))) rfl dX8_count_143 ?_
                                    refine lv_iload_n F.1 F.2.1 dX8_count_146 rfl (lv_at hl 1 rfl) ?_
                                    refine lv_bipush (v := 10) F.1 F.2.1 dX8_count_147 (by decide) ?_
                                    refine lv_isub F.1 F.2.1 dX8_count_149 ?_
                                    refine w_iald F hP (by omega) mW_s (k := kx) ex10 (by omega) (Nat.le_of_ble_eq_true rfl) (v := r kx) (put_at (k := kx) (by omega) (by omega)) dX8_count_150 ?_
                                    refine lv_goto (tgt := 156) F.1 F.2.1 dX8_count_151 (by decide) ?_
                                    exact w_iret F hr hlocks hP hS dX8_count_156 ⟨by rw [hc10, ec10], mdl_mk hk0 hn80 hpa hhs hsl hsls hsv hpdd, mfr_0⟩
theorem cm_X8_count (l : Launch) (D : va_G) (Y : Nat → ClassId) (ad : Nat → Nat) (N : Nat) (hI : wI ad N) (C : Nat → va_E) (o : Nat) (hh : o + 6 ≤ N) (f : Nat → Int32) (hs : Nat → Nat → Int32) (kn : Nat) (sl : Nat → Nat → Int32) (sv pd : Nat → Int32) (n : Nat) (hA : mdlA Y ad C o f hs kn sl sv pd n) (x : Int32) (B : Int) (hok : okRow B f) (hBb : B + 60000 ≤ 900000000) (hB0 : 0 ≤ B) : Met l yX8_count (wm yX8_count cX8_count 2 (some .int)) { frames := 2, cells := 0, slots := 0, locals := 47 } (wPc D Y ad N [.ref (ad o), .int (x)] C) (wQi D ad N (fun q C' => q = T_count f kn n x ∧ mdlA Y ad C' o f hs kn sl sv pd n ∧ ∀ j, j < o ∨ o + 6 ≤ j → C' j = C j)) 0 0 (wA ad N) := by
  obtain ⟨s0, pa, sla, gr, h1, h2, h3, h4, h5, h6, h7, h8, h9, h10⟩ := hA
  have h := c_X8_count l D Y ad N hI C o hh gr f s0 kn h3 hs pa h5 h6 sl sla sv h7 h8 h9 pd n h4 h10 x B hok hBb hB0
  rw [← mW_id h1 h2] at h
  exact h
