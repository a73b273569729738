/-! HoopStairs$Hoop: a part met, what is behind it, a run -/
theorem isStair_up {Y : Nat → ClassId} {ad : Nat → Nat} {C : Nat → va_E} {st h : Nat} {e : va_E} {f f1 : Nat → Int32} (hs : isStair Y ad C st f) (hd : h < st ∨ st + 7 ≤ h) (h4 : f1 4 = f 4) (hf : ∀ q, 61 ≤ q → f1 q = f q) : isStair Y ad (va_up C h e) st f1 := by
  obtain ⟨h1, ⟨q, h2, h2q⟩, h3⟩ := hs
  refine ⟨by rw [va_up_ne _ _ (by omega), h1, h4], ⟨q, by rw [va_up_ne _ _ (by omega), h2], h2q⟩, fun i hi => ?_⟩
  obtain ⟨r, h5, h6⟩ := h3 i hi
  exact ⟨r, by rw [va_up_ne _ _ (by omega), h5], fun k hk => by rw [h6 k hk, hf _ (by omega)]⟩
theorem isSett_up {Y : Nat → ClassId} {ad : Nat → Nat} {C : Nat → va_E} {se h : Nat} {e : va_E} {f f1 : Nat → Int32} (hs : isSett Y ad C se f) (hd : h < se ∨ se + 2 ≤ h) (hf : ∀ q, q < 4 → f1 q = f q) : isSett Y ad (va_up C h e) se f1 := by
  obtain ⟨h1, q, h2, h3⟩ := hs
  exact ⟨by rw [va_up_ne _ _ (by omega), h1], q, by rw [va_up_ne _ _ (by omega), h2], fun i hi => by rw [h3 i hi, hf i hi]⟩
/-- what is behind a part -/
def gbE (f : Nat → Int32) (g : Int32) : va_E :=
  if f 11 = 0 then (if f 0 ≤ iabs (f 8) then hpR (upd f 11 1) (if g < iabs (f 8) then iabs (f 8) else g) else if f 10 + 1 < f 4 then hpR (upd f 10 (f 10 + 1)) (if g < iabs (f 8) then iabs (f 8) else g) else hpR (upd (upd f 10 (f 10 + 1)) 11 4) (if g < iabs (f 8) then iabs (f 8) else g)) else hpR f g
theorem gb_step {f : Nat → Int32} {g : Int32} (h11 : f 11 = 0) (hk : f 10 < f 4) : gbE (upd (T_meet (f 10).toNatClampNeg f).1 11 (T_meet (f 10).toNatClampNeg f).2) g = hpR (T_step f g).1 (T_step f g).2 := by
  have m10 : (T_meet (f 10).toNatClampNeg f).1 10 = f 10 := T_meet_fr (by decide) (by decide) (by decide)
  have m4 : (T_meet (f 10).toNatClampNeg f).1 4 = f 4 := T_meet_fr (by decide) (by decide) (by decide)
  have m0 : (T_meet (f 10).toNatClampNeg f).1 0 = f 0 := T_meet_fr (by decide) (by decide) (by decide)
  have m11 : (T_meet (f 10).toNatClampNeg f).1 11 = f 11 := T_meet_fr (by decide) (by decide) (by decide)
  unfold gbE T_step
  rw [if_pos hk]
  unfold T_pass
  rw [upd_s, upd_n (show 0 ≠ 11 by decide), upd_n (show 8 ≠ 11 by decide), upd_n (show 10 ≠ 11 by decide), upd_n (show 4 ≠ 11 by decide), m0, m10, m4]
  generalize (f 10).toNatClampNeg = k at m10 m4 m0 m11 ⊢
  by_cases a : (T_meet k f).2 = 0
  · simp only [if_pos a]
    by_cases b : f 0 ≤ iabs ((T_meet k f).1 8)
    · simp only [if_pos b]
      rw [if_neg (show ¬ (1 : Int32) = 0 by decide)]
      simp [upd]
    · simp only [if_neg b]
      by_cases c : f 10 + 1 < f 4
      · simp [c, upd, a, m11, h11, hpR, hpV]
      · simp [c, upd, hpR, hpV]
  · simp only [if_neg a]
theorem has_iff {x n : Int32} (h1 : 0 ≤ x.toInt) (h2 : n.toInt ≤ 20) : (0 ≤ x ∧ x < n ∧ x < 20) ↔ x < n := by
  have z : (0 : Int32).toInt = 0 := rfl
  have t : (20 : Int32).toInt = 20 := rfl
  rw [Int32.le_iff_toInt_le, Int32.lt_iff_toInt_lt, Int32.lt_iff_toInt_lt, z, t]
  omega
theorem meet_d {k : Nat} {f : Nat → Int32} {g : Int32} (k1 : kindAt f k = 0) (h11 : f 11 = 0) : hpV (f 5) (f 6) (mn99 (f 7 + valAt f k * 4)) (f 8 + (if f 10 - f 10 / 2 * 2 = 0 then mn99 (f 9 + f 1 * valAt f k) / 4 else -(mn99 (f 9 + f 1 * valAt f k) / 4))) (mn99 (f 9 + f 1 * valAt f k)) (f 10) (f 11) (f 12) (f 13) g = hpR (upd (T_meet k f).1 11 (T_meet k f).2) g := by
  unfold T_meet
  rw [if_pos k1]
  simp [T_drop, upd, h11]
theorem meet_l {k : Nat} {f : Nat → Int32} {g w : Int32} (k1 : ¬ kindAt f k = 0) (k2 : kindAt f k = 1) (hw : w = if T_lands (valAt f k).toNatClampNeg f 7 = 0 then 3 else 0) : hpV (T_lands (valAt f k).toNatClampNeg f 5) (T_lands (valAt f k).toNatClampNeg f 6) (T_lands (valAt f k).toNatClampNeg f 7) (T_lands (valAt f k).toNatClampNeg f 8) (T_lands (valAt f k).toNatClampNeg f 9) (T_lands (valAt f k).toNatClampNeg f 10) w (T_lands (valAt f k).toNatClampNeg f 12) (T_lands (valAt f k).toNatClampNeg f 13) g = hpR (upd (T_meet k f).1 11 (T_meet k f).2) g := by
  unfold T_meet
  rw [if_neg k1, if_pos k2]
  simp [upd, hw]
theorem meet_g {k : Nat} {f : Nat → Int32} {g w : Int32} (k1 : ¬ kindAt f k = 0) (k2 : ¬ kindAt f k = 1) (hw : w = if valAt f k < f 6 + f 9 / 4 then 2 else 0) : hpV (f 5) (f 6) (f 7) (f 8) (f 9) (f 10) w (f 12) (f 13) g = hpR (upd (T_meet k f).1 11 (T_meet k f).2) g := by
  unfold T_meet
  rw [if_neg k1, if_neg k2]
  simp [upd, hw]
theorem T_roll_e (n j : Nat) (f1 f : Nat → Int32) (g1 g : Int32) (h : T_roll (n - j) f1 g1 = T_roll n f g) (hk : n ≤ j ∨ ¬ f1 11 = 0) : hpR f1 g1 = hpR (T_roll n f g).1 (T_roll n f g).2 := by
  rw [← h]
  cases hm : n - j with
  | zero => rfl
  | succ m =>
    rcases hk with q | q
    · omega
    · show _ = hpR (if f1 11 = 0 then T_roll m (T_step f1 g1).1 (T_step f1 g1).2 else (f1, g1)).1 (if f1 11 = 0 then T_roll m (T_step f1 g1).1 (T_step f1 g1).2 else (f1, g1)).2
      rw [if_neg q]
theorem T_roll_s (n j : Nat) (f1 f : Nat → Int32) (g1 g : Int32) (h : T_roll (n - j) f1 g1 = T_roll n f g) (hk : j < n) (h11 : f1 11 = 0) : T_roll (n - (j + 1)) (T_step f1 g1).1 (T_step f1 g1).2 = T_roll n f g := by
  rw [← h, show n - j = n - (j + 1) + 1 by omega]
  show _ = if f1 11 = 0 then T_roll (n - (j + 1)) (T_step f1 g1).1 (T_step f1 g1).2 else (f1, g1)
  rw [if_pos h11]
theorem okS_of {f f1 : Nat → Int32} (h : okS f) (hf : ∀ q, q ≠ 7 → q ≠ 8 → q ≠ 9 → q ≠ 10 → q ≠ 11 → f1 q = f q) : okS f1 := by
  obtain ⟨s0, s1, s2, s3, s4, s5⟩ := h
  unfold okS
  rw [hf 0 (by decide) (by decide) (by decide) (by decide) (by decide), hf 1 (by decide) (by decide) (by decide) (by decide) (by decide), hf 2 (by decide) (by decide) (by decide) (by decide) (by decide), hf 3 (by decide) (by decide) (by decide) (by decide) (by decide), hf 4 (by decide) (by decide) (by decide) (by decide) (by decide)]
  refine ⟨s0, s1, s2, s3, s4, fun k hk => ?_⟩
  rw [hf _ (by omega) (by omega) (by omega) (by omega) (by omega)]
  exact s5 k hk
theorem meet_row {B : Int} {k : Nat} {f : Nat → Int32} (hB : B ≤ 1000000000) (hs : okS f) (h : okH B f) (hk : k < 20) (h11 : f 11 = 0) : okH (B + 25) (upd (T_meet k f).1 11 (T_meet k f).2) ∧ ∀ q, q ≠ 7 → q ≠ 8 → q ≠ 9 → q ≠ 10 → q ≠ 11 → upd (T_meet k f).1 11 (T_meet k f).2 q = f q := by
  have m := meet_in hB hs h hk h11
  refine ⟨⟨?_, ?_, ?_, ?_, ?_⟩, fun q a b c d e => by rw [upd_n e]; exact T_meet_fr a b c⟩
  · rw [upd_n (by decide)]; exact m.1
  · rw [upd_n (by decide)]; exact m.2.2
  · rw [upd_n (by decide)]; exact m.2.1
  · rw [upd_n (by decide), upd_n (by decide), T_meet_fr (by decide) (by decide) (by decide), T_meet_fr (by decide) (by decide) (by decide)]; exact h.2.2.2.1
  · rw [upd_s]
    rcases T_meet_how k f with q | q | q
    · rw [q]; exact ⟨by decide, by decide⟩
    · rw [q]; exact ⟨by decide, by decide⟩
    · rw [q]; exact ⟨by decide, by decide⟩
set_option maxRecDepth 20000 in
/-- a part is met -/
theorem c_X1_meet (l : Launch) (D : va_G) (Y : Nat → ClassId) (ad : Nat → Nat) (N : Nat) (hI : wI ad N) (C : Nat → va_E) (h : Nat) (hh : h < N) (f : Nat → Int32) (g : Int32) (hC : C h = hpV (f 5) (f 6) (f 7) (f 8) (f 9) (f 10) (f 11) (f 12) (f 13) g) (k se : Nat) (hse : se + 1 < N) (hs : isSett Y ad C se f) (hL : okL f) (h11 : f 11 = 0) : Met l yX1_meet (wm yX1_meet cX1_meet 4 none) { frames := 3, cells := 0, slots := 0, locals := 61 } (wPc D Y ad N [.ref (ad h), .int (kindAt f k), .int (valAt f k), .ref (ad se)] C) (wQv D ad N (fun C' => C' = va_up C h (hpR (upd (T_meet k f).1 11 (T_meet k f).2) g))) 0 0 (wA ad N) := by
  refine wMet RX1 rfl (by decide +kernel) (Nat.le_of_ble_eq_true rfl) (lv := [(0, .ref (ad h)), (1, .int (kindAt f k)), (2, .int (valAt f k)), (3, .ref (ad se))]) rfl ?_
  intro p e s m below meth c ls F hr hlocks hP hl
  have hS : va_S (wA ad N) s.heap s.heap [] := va_S.rf
  refine lv_iload_n F.1 F.2.1 dX1_meet_0 rfl (lv_at hl 1 rfl) ?_
  by_cases k1 : kindAt f k = 0
  · refine lv_lookup (off := 27) (tgt := 28) F.1 F.2.1 dX1_meet_1 (by decide) ((by rw [k1]; rfl)) (by decide) ?_
    refine lv_aload_n F.1 F.2.1 dX1_meet_28 rfl (lv_at hl 0 rfl) ?_
    refine lv_iload_n F.1 F.2.1 dX1_meet_29 rfl (lv_at hl 2 rfl) ?_
    refine lv_aload_n F.1 F.2.1 dX1_meet_30 rfl (lv_at hl 3 rfl) ?_
    refine lv_iconst (v := 1) F.1 F.2.1 dX1_meet_31 (by decide) ?_
    refine w_calli F hP hS (c_X4_value l D Y ad N hI _ se hse f hs 1 (by decide)) (cwVm 1 F.2.2.2.2.1 (fun _ h => h) mw_172 mw_305 mw_170 mw_171 mw_38 rfl rfl ydX4_value ⟨by decide, by decide⟩) (by omega) hs.1 rfl rfl hl.1 rfl (Nat.le_of_ble_eq_true rfl) dX1_meet_32 ⟨Nat.zero_le _, Nat.zero_le _⟩ (fun r C2 H locs hq hP hS => ?_)
    obtain ⟨hq1, hq2⟩ := hq; rw [hq1] at hP; subst hq2
    refine w_callv F hP hS (c_X1_dropBy l D Y ad N hI _ h hh (f 5) (f 6) (f 7) (f 8) (f 9) (f 10) (f 11) (f 12) (f 13) g hC (valAt f k) (f 1)) (cwVm 2 F.2.2.2.2.1 (fun _ h => h) mw_309 mw_306 mw_307 mw_308 mw_30 rfl rfl ydX1_dropBy ⟨by decide, by decide⟩) hh hC rfl rfl hl.1 rfl (Nat.le_of_ble_eq_true rfl) dX1_meet_35 ⟨Nat.zero_le _, Nat.zero_le _⟩ (fun C2 H locs hq hP hS => ?_)
    subst hq
    refine lv_goto (tgt := 94) F.1 F.2.1 dX1_meet_38 (by decide) ?_
    exact w_vret F hr hlocks hP hS dX1_meet_94 (by rw [meet_d k1 h11])
  · by_cases k2 : kindAt f k = 1
    · refine lv_lookup (off := 40) (tgt := 41) F.1 F.2.1 dX1_meet_1 (by decide) ((lv_osw k1 rfl).trans ((by rw [k2]; rfl))) (by decide) ?_
      refine lv_aload_n F.1 F.2.1 dX1_meet_41 rfl (lv_at hl 0 rfl) ?_
      refine lv_iload_n F.1 F.2.1 dX1_meet_42 rfl (lv_at hl 2 rfl) ?_
      refine lv_aload_n F.1 F.2.1 dX1_meet_43 rfl (lv_at hl 3 rfl) ?_
      refine lv_iconst (v := 2) F.1 F.2.1 dX1_meet_44 (by decide) ?_
      refine w_calli F hP hS (c_X4_value l D Y ad N hI _ se hse f hs 2 (by decide)) (cwVm 1 F.2.2.2.2.1 (fun _ h => h) mw_172 mw_305 mw_170 mw_171 mw_38 rfl rfl ydX4_value ⟨by decide, by decide⟩) (by omega) hs.1 rfl rfl hl.1 rfl (Nat.le_of_ble_eq_true rfl) dX1_meet_45 ⟨Nat.zero_le _, Nat.zero_le _⟩ (fun r C2 H locs hq hP hS => ?_)
      obtain ⟨hq1, hq2⟩ := hq; rw [hq1] at hP; subst hq2
      refine w_callv F hP hS (c_X1_rollAlong l D Y ad N hI _ h hh f g hC (valAt f k) hL) (cwVm 2 F.2.2.2.2.1 (fun _ h => h) mw_322 mw_319 mw_320 mw_321 mw_30 rfl rfl ydX1_rollAlong ⟨by decide, by decide⟩) hh hC rfl rfl hl.1 rfl (Nat.le_of_ble_eq_true rfl) dX1_meet_48 ⟨Nat.zero_le _, Nat.zero_le _⟩ (fun C2 H locs hq hP hS => ?_)
      subst hq
      refine lv_aload_n F.1 F.2.1 dX1_meet_51 rfl (lv_at hl 0 rfl) ?_
      refine lv_aload_n F.1 F.2.1 dX1_meet_52 rfl (lv_at hl 0 rfl) ?_
      refine gf_X1_19 F hP hh (va_up_self _ _ _) (v := .int (T_lands (valAt f k).toNatClampNeg f 7)) rfl dX1_meet_53 ?_
      refine lv_if_ne (tgt := 63) F.1 F.2.1 dX1_meet_56 (by decide) (fun c3 => ?_) (fun c3 => ?_)
      · refine lv_iconst (v := 0) F.1 F.2.1 dX1_meet_63 (by decide) ?_
        refine pf_X1_31 F hI hP hS hh (va_up_self _ _ _) (Nat.le_of_ble_eq_true rfl) (C1 := va_up C h (hpV (T_lands (valAt f k).toNatClampNeg f 5) (T_lands (valAt f k).toNatClampNeg f 6) (T_lands (valAt f k).toNatClampNeg f 7) (T_lands (valAt f k).toNatClampNeg f 8) (T_lands (valAt f k).toNatClampNeg f 9) (T_lands (valAt f k).toNatClampNeg f 10) 0 (T_lands (valAt f k).toNatClampNeg f 12) (T_lands (valAt f k).toNatClampNeg f 13) g)) up_self dX1_meet_64 (fun H locs hP hS => ?_)
        refine lv_goto (tgt := 94) F.1 F.2.1 dX1_meet_67 (by decide) ?_
        exact w_vret F hr hlocks hP hS dX1_meet_94 (by rw [meet_l k1 k2 (by simp only [if_neg c3])])
      · refine lv_iconst (v := 3) F.1 F.2.1 dX1_meet_59 (by decide) ?_
        refine lv_goto (tgt := 64) F.1 F.2.1 dX1_meet_60 (by decide) ?_
        refine pf_X1_31 F hI hP hS hh (va_up_self _ _ _) (Nat.le_of_ble_eq_true rfl) (C1 := va_up C h (hpV (T_lands (valAt f k).toNatClampNeg f 5) (T_lands (valAt f k).toNatClampNeg f 6) (T_lands (valAt f k).toNatClampNeg f 7) (T_lands (valAt f k).toNatClampNeg f 8) (T_lands (valAt f k).toNatClampNeg f 9) (T_lands (valAt f k).toNatClampNeg f 10) 3 (T_lands (valAt f k).toNatClampNeg f 12) (T_lands (valAt f k).toNatClampNeg f 13) g)) up_self dX1_meet_64 (fun H locs hP hS => ?_)
        refine lv_goto (tgt := 94) F.1 F.2.1 dX1_meet_67 (by decide) ?_
        exact w_vret F hr hlocks hP hS dX1_meet_94 (by rw [meet_l k1 k2 (by simp only [if_pos c3])])
    · refine lv_lookup (off := 69) (tgt := 70) F.1 F.2.1 dX1_meet_1 (by decide) ((lv_osw k1 rfl).trans ((lv_osw k2 rfl).trans (rfl))) (by decide) ?_
      refine lv_aload_n F.1 F.2.1 dX1_meet_70 rfl (lv_at hl 0 rfl) ?_
      refine lv_aload_n F.1 F.2.1 dX1_meet_71 rfl (lv_at hl 0 rfl) ?_
      refine gf_X1_15 F hP hh hC (v := .int (f 6)) rfl dX1_meet_72 ?_
      refine lv_aload_n F.1 F.2.1 dX1_meet_75 rfl (lv_at hl 0 rfl) ?_
      refine gf_X1_25 F hP hh hC (v := .int (f 9)) rfl dX1_meet_76 ?_
      refine lv_iconst (v := 4) F.1 F.2.1 dX1_meet_79 (by decide) ?_
      refine lv_idiv F.1 F.2.1 dX1_meet_80 (by decide) ?_
      refine lv_iadd F.1 F.2.1 dX1_meet_81 ?_
      refine lv_iload_n F.1 F.2.1 dX1_meet_82 rfl (lv_at hl 2 rfl) ?_
      refine lv_icmp_gt (tgt := 90) F.1 F.2.1 dX1_meet_83 (by decide) (fun c4 => ?_) (fun c4 => ?_)
      · refine lv_iconst (v := 2) F.1 F.2.1 dX1_meet_90 (by decide) ?_
        refine pf_X1_31 F hI hP hS hh hC (Nat.le_of_ble_eq_true rfl) (C1 := va_up C h (hpV (f 5) (f 6) (f 7) (f 8) (f 9) (f 10) 2 (f 12) (f 13) g)) (fun _ => rfl) dX1_meet_91 (fun H locs hP hS => ?_)
        exact w_vret F hr hlocks hP hS dX1_meet_94 (by rw [meet_g k1 k2 (by simp only [if_pos c4, if_neg (i_nle c4)])])
      · refine lv_iconst (v := 0) F.1 F.2.1 dX1_meet_86 (by decide) ?_
        refine lv_goto (tgt := 91) F.1 F.2.1 dX1_meet_87 (by decide) ?_
        refine pf_X1_31 F hI hP hS hh hC (Nat.le_of_ble_eq_true rfl) (C1 := va_up C h (hpV (f 5) (f 6) (f 7) (f 8) (f 9) (f 10) 0 (f 12) (f 13) g)) (fun _ => rfl) dX1_meet_91 (fun H locs hP hS => ?_)
        exact w_vret F hr hlocks hP hS dX1_meet_94 (by rw [meet_g k1 k2 (by simp only [if_neg c4, if_pos (i_le c4)])])
set_option maxRecDepth 20000 in
/-- behind a part -/
theorem c_X1_goBehind (l : Launch) (D : va_G) (Y : Nat → ClassId) (ad : Nat → Nat) (N : Nat) (hI : wI ad N) (C : Nat → va_E) (h : Nat) (hh : h < N) (f : Nat → Int32) (g : Int32) (hC : C h = hpV (f 5) (f 6) (f 7) (f 8) (f 9) (f 10) (f 11) (f 12) (f 13) g) (B : Int) (st : Nat) (hh2 : st < N) (hne : st ≠ h) (gr : Nat) (hC2 : C st = .inr (5, [.ref gr, .int (f 4)])) (hs : okS f) (ho : okH B f) : Met l yX1_goBehind (wm yX1_goBehind cX1_goBehind 4 none) { frames := 1, cells := 0, slots := 0, locals := 21 } (wPc D Y ad N [.ref (ad h), .ref (ad st), .int (f 0)] C) (wQv D ad N (fun C' => C' = va_up C h (gbE f g))) 0 0 (wA ad N) := by
  refine wMet RX1 rfl (by decide +kernel) (Nat.le_of_ble_eq_true rfl) (lv := [(0, .ref (ad h)), (1, .ref (ad st)), (2, .int (f 0))]) rfl ?_
  intro p e s m below meth c ls F hr hlocks hP hl
  have hS : va_S (wA ad N) s.heap s.heap [] := va_S.rf
  refine lv_aload_n F.1 F.2.1 dX1_goBehind_0 rfl (lv_at hl 0 rfl) ?_
  refine gf_X1_31 F hP hh hC (v := .int (f 11)) rfl dX1_goBehind_1 ?_
  refine lv_if_eq (tgt := 8) F.1 F.2.1 dX1_goBehind_4 (by decide) (fun c1 => ?_) (fun c1 => ?_)
  · refine lv_aload_n F.1 F.2.1 dX1_goBehind_8 rfl (lv_at hl 0 rfl) ?_
    refine gf_X1_22 F hP hh hC (v := .int (f 8)) rfl dX1_goBehind_9 ?_
    refine w_abs F hl.1 mw_334 (by decide) (Nat.le_of_ble_eq_true rfl) ⟨Nat.zero_le _, Nat.zero_le _⟩ dX1_goBehind_12 ?_
    refine lv_topi (fun v2 ev2 => ?_)
    have ev2 : v2 = iabs (f 8) := ev2.trans (iabs_eq _)
    subst ev2
    refine lv_istore_n (lv' := [(3, .int (iabs (f 8))), (0, .ref (ad h)), (1, .ref (ad st)), (2, .int (f 0))]) F.1 F.2.1 dX1_goBehind_15 rfl hl (by decide) rfl (fun ls hl => ?_)
    refine lv_aload_n F.1 F.2.1 dX1_goBehind_16 rfl (lv_at hl 1 rfl) ?_
    refine lv_aload_n F.1 F.2.1 dX1_goBehind_17 rfl (lv_at hl 1 rfl) ?_
    refine gf_X1_40 F hP hh hC (v := .int (g)) rfl dX1_goBehind_18 ?_
    refine lv_iload_n F.1 F.2.1 dX1_goBehind_21 rfl (lv_at hl 0 rfl) ?_
    refine w_max F hl.1 mw_323 (by decide) (Nat.le_of_ble_eq_true rfl) ⟨Nat.zero_le _, Nat.zero_le _⟩ dX1_goBehind_22 ?_
    refine pf_X1_40 F hI hP hS hh hC (Nat.le_of_ble_eq_true rfl) (C1 := va_up C h (hpV (f 5) (f 6) (f 7) (f 8) (f 9) (f 10) (f 11) (f 12) (f 13) (if g < iabs (f 8) then iabs (f 8) else g))) (fun _ => rfl) dX1_goBehind_25 (fun H locs hP hS => ?_)
    refine lv_iload_n F.1 F.2.1 dX1_goBehind_28 rfl (lv_at hl 0 rfl) ?_
    refine lv_iload_n F.1 F.2.1 dX1_goBehind_29 rfl (lv_at hl 3 rfl) ?_
    refine lv_icmp_lt (tgt := 39) F.1 F.2.1 dX1_goBehind_30 (by decide) (fun c3 => ?_) (fun c3 => ?_)
    · refine lv_aload_n F.1 F.2.1 dX1_goBehind_39 rfl (lv_at hl 1 rfl) ?_
      refine lv_dup F.1 F.2.1 dX1_goBehind_40 rfl ?_
      refine gf_X1_28 F hP hh (va_up_self _ _ _) (v := .int (f 10)) rfl dX1_goBehind_41 ?_
      refine lv_iconst (v := 1) F.1 F.2.1 dX1_goBehind_44 (by decide) ?_
      refine lv_iadd F.1 F.2.1 dX1_goBehind_45 ?_
      refine pf_X1_28 F hI hP hS hh (va_up_self _ _ _) (Nat.le_of_ble_eq_true rfl) (C1 := va_up C h (hpV (f 5) (f 6) (f 7) (f 8) (f 9) ((f 10) + 1) (f 11) (f 12) (f 13) (if g < iabs (f 8) then iabs (f 8) else g))) up_self dX1_goBehind_46 (fun H locs hP hS => ?_)
      refine lv_aload_n F.1 F.2.1 dX1_goBehind_49 rfl (lv_at hl 2 rfl) ?_
      refine lv_aload_n F.1 F.2.1 dX1_goBehind_50 rfl (lv_at hl 1 rfl) ?_
      refine gf_X1_28 F hP hh (va_up_self _ _ _) (v := .int ((f 10) + 1)) rfl dX1_goBehind_51 ?_
      refine w_calli F hP hS (c_X5_has l D Y ad N hI _ st hh2 _ _ ((va_up_ne _ _ hne).trans hC2) ((f 10) + 1)) (cwVm 1 F.2.2.2.2.1 (fun _ h => h) mw_234 mw_296 mw_232 mw_233 mw_42 rfl rfl ydX5_has ⟨by decide, by decide⟩) hh2 ((va_up_ne _ _ hne).trans hC2) rfl rfl hl.1 rfl (Nat.le_of_ble_eq_true rfl) dX1_goBehind_54 ⟨Nat.zero_le _, Nat.zero_le _⟩ (fun r C2 H locs hq hP hS => ?_)
      obtain ⟨hq1, hq2⟩ := hq; rw [hq1] at hP
      have hbr4 : r = if (f 10) + 1 < f 4 then 1 else 0 := by rw [hq2]; simp only [has_iff (x := (f 10) + 1) (n := f 4) (by have h1 := ho.2.2.2.1; have h2 := hs.2.2.2.2.1; rw [i_add (by rw [show (1 : Int32).toInt = 1 from rfl]; omega) (by rw [show (1 : Int32).toInt = 1 from rfl]; omega), show (1 : Int32).toInt = 1 from rfl]; omega) hs.2.2.2.2.1.2]
      clear hq2; generalize r = r4 at hbr4 ⊢
      refine lv_if_ne (tgt := 65) F.1 F.2.1 dX1_goBehind_57 (by decide) (fun c5 => ?_) (fun c5 => ?_)
      · exact w_vret F hr hlocks hP hS dX1_goBehind_65 (by simp only [gbE, if_pos c1, if_pos c3, if_neg (i_nle c3), if_pos (b_t hbr4 c5)]; simp [hpR, hpV, upd, c1])
      · refine lv_aload_n F.1 F.2.1 dX1_goBehind_60 rfl (lv_at hl 1 rfl) ?_
        refine lv_iconst (v := 4) F.1 F.2.1 dX1_goBehind_61 (by decide) ?_
        refine pf_X1_31 F hI hP hS hh (va_up_self _ _ _) (Nat.le_of_ble_eq_true rfl) (C1 := va_up C h (hpV (f 5) (f 6) (f 7) (f 8) (f 9) ((f 10) + 1) 4 (f 12) (f 13) (if g < iabs (f 8) then iabs (f 8) else g))) up_self dX1_goBehind_62 (fun H locs hP hS => ?_)
        exact w_vret F hr hlocks hP hS dX1_goBehind_65 (by simp only [gbE, if_pos c1, if_pos c3, if_neg (i_nle c3), if_neg (b_f hbr4 c5)]; simp [hpR, hpV, upd, c1])
    · refine lv_aload_n F.1 F.2.1 dX1_goBehind_33 rfl (lv_at hl 1 rfl) ?_
      refine lv_iconst (v := 1) F.1 F.2.1 dX1_goBehind_34 (by decide) ?_
      refine pf_X1_31 F hI hP hS hh (va_up_self _ _ _) (Nat.le_of_ble_eq_true rfl) (C1 := va_up C h (hpV (f 5) (f 6) (f 7) (f 8) (f 9) (f 10) 1 (f 12) (f 13) (if g < iabs (f 8) then iabs (f 8) else g))) up_self dX1_goBehind_35 (fun H locs hP hS => ?_)
      exact w_vret F hr hlocks hP hS dX1_goBehind_38 (by simp only [gbE, if_pos c1, if_neg c3, if_pos (i_le c3)]; simp [hpR, hpV, upd, c1])
  · exact w_vret F hr hlocks hP hS dX1_goBehind_7 (by unfold gbE; rw [if_neg c1]; exact up_id hC)

