/-! HoopStairs$Hoop.rollOver -/
theorem T_step_p {f : Nat → Int32} {g : Int32} (h : ¬ f 10 < f 4) : hpR (T_step f g).1 (T_step f g).2 = hpV (f 5) (f 6) (f 7) (f 8) (f 9) (f 10) 4 (f 12) (f 13) g := by
  unfold T_step
  rw [if_neg h]
  simp [upd]
set_option maxRecDepth 20000 in
/-- a run over n parts -/
theorem c_X1_rollOver (l : Launch) (D : va_G) (Y : Nat → ClassId) (ad : Nat → Nat) (N : Nat) (hI : wI ad N) (C : Nat → va_E) (h : Nat) (hh : h < N) (f : Nat → Int32) (g : Int32) (hC : C h = hpV (f 5) (f 6) (f 7) (f 8) (f 9) (f 10) (f 11) (f 12) (f 13) g) (B : Int) (n st se : Nat) (hn : n ≤ 21) (hB : B + 525 ≤ 900000000) (hh2 : st + 6 < N) (hh3 : se + 1 < N) (hd1 : h < st ∨ st + 7 ≤ h) (hd2 : h < se ∨ se + 2 ≤ h) (hst : isStair Y ad C st f) (hse : isSett Y ad C se f) (hs : okS f) (ho : okH B f) (h5 : f 5 = 1) : Met l yX1_rollOver (wm yX1_rollOver cX1_rollOver 5 none) { frames := 4, cells := 0, slots := 0, locals := 84 } (wPc D Y ad N [.ref (ad h), .int (nI n), .ref (ad st), .ref (ad se)] C) (wQv D ad N (fun C' => C' = va_up C h (hpR (T_roll n f g).1 (T_roll n f g).2))) 0 0 (wA ad N) := by
  refine wMet RX1 rfl (by decide +kernel) (Nat.le_of_ble_eq_true rfl) (lv := [(0, .ref (ad h)), (1, .int (nI n)), (2, .ref (ad st)), (3, .ref (ad se))]) rfl ?_
  intro p e s m below meth c ls F hr hlocks hP hl
  have hS : va_S (wA ad N) s.heap s.heap [] := va_S.rf
  refine lv_iconst (v := 0) F.1 F.2.1 dX1_rollOver_0 (by decide) ?_
  refine lv_istore (lv' := [(4, .int (0)), (0, .ref (ad h)), (1, .int (nI n)), (2, .ref (ad st)), (3, .ref (ad se))]) F.1 F.2.1 dX1_rollOver_1 hl (by decide) rfl (fun ls hl => ?_)
  refine w_loop (Inv := fun i ls C' => ∃ (j : Nat) (f1 : Nat → Int32) (g1 : Int32), i = n - j ∧ j ≤ n ∧ lv_has ls 5 [(4, .int (nI j)), (0, .ref (ad h)), (1, .int (nI n)), (2, .ref (ad st)), (3, .ref (ad se))] ∧ C' = va_up C h (hpR f1 g1) ∧ T_roll (n - j) f1 g1 = T_roll n f g ∧ okH (B + 25 * j) f1 ∧ (∀ q, q ≠ 7 → q ≠ 8 → q ≠ 9 → q ≠ 10 → q ≠ 11 → f1 q = f q)) ?_ n ⟨0, f, g, rfl, Nat.zero_le _, lv_sub hl [0, 1, 2, 3, 4] rfl, up_id hC, rfl, by simpa using ho, fun _ _ _ _ _ _ => rfl⟩ hP hS
  intro i ih H locs ls C1 hInv hP hS
  obtain ⟨j, f1, g1, hi, hj, hl, rfl, hT, hO, hf⟩ := hInv
  have hs1 : okS f1 := okS_of hs hf
  have hB1 : B + 25 * j ≤ 900000000 := by omega
  have hst1 : isStair Y ad (va_up C h (hpR f1 g1)) st f1 := isStair_up hst hd1 (hf 4 (by decide) (by decide) (by decide) (by decide) (by decide)) (fun q hq => hf q (by omega) (by omega) (by omega) (by omega) (by omega))
  have hse1 : isSett Y ad (va_up C h (hpR f1 g1)) se f1 := isSett_up hse hd2 (fun q hq => hf q (by omega) (by omega) (by omega) (by omega) (by omega))
  have h51 : f1 5 = 1 := (hf 5 (by decide) (by decide) (by decide) (by decide) (by decide)).trans h5
  obtain ⟨e10, l10, i10⟩ := nI_rd (x := f1 10) (M := 20) hO.2.2.2.1.1 (by have := hO.2.2.2.1.2; have := hs1.2.2.2.2.1.2; omega)
  generalize hk : (f1 10).toNatClampNeg = k at e10 l10 i10
  refine lv_iload F.1 F.2.1 dX1_rollOver_3 (lv_at hl 0 rfl) ?_
  refine lv_iload_n F.1 F.2.1 dX1_rollOver_5 rfl (lv_at hl 2 rfl) ?_
  refine lv_icmp_ge (tgt := 74) F.1 F.2.1 dX1_rollOver_6 (by decide) (fun c1 => ?_) (fun c1 => ?_)
  · exact w_vret F hr hlocks hP hS dX1_rollOver_74 (by rw [T_roll_e n j f1 f g1 g hT (Or.inl (Nat.not_lt.mp (fun q => nI_ge q (by omega) c1)))])
  · refine lv_aload_n F.1 F.2.1 dX1_rollOver_9 rfl (lv_at hl 1 rfl) ?_
    refine w_calli F hP hS (c_X1_rolls l D Y ad N hI _ h hh (f1 5) (f1 6) (f1 7) (f1 8) (f1 9) (f1 10) (f1 11) (f1 12) (f1 13) g1 (va_up_self _ _ _) (Or.inr h51)) (cwVm 0 F.2.2.2.2.1 (fun _ h => h) mw_286 mw_295 mw_284 mw_285 mw_30 rfl rfl ydX1_rolls ⟨by decide, by decide⟩) hh (va_up_self _ _ _) rfl rfl hl.1 rfl (Nat.le_of_ble_eq_true rfl) dX1_rollOver_10 ⟨Nat.zero_le _, Nat.zero_le _⟩ (fun r C2 H locs hq hP hS => ?_)
    obtain ⟨hq1, hbR⟩ := hq; rw [hq1] at hP; generalize r = rR at hbR ⊢
    refine lv_if_eq (tgt := 74) F.1 F.2.1 dX1_rollOver_13 (by decide) (fun c2 => ?_) (fun c2 => ?_)
    · exact w_vret F hr hlocks hP hS dX1_rollOver_74 (by rw [T_roll_e n j f1 f g1 g hT (Or.inr (fun q => b_f hbR c2 ⟨h51, q⟩))])
    · refine lv_aload_n F.1 F.2.1 dX1_rollOver_16 rfl (lv_at hl 3 rfl) ?_
      refine lv_aload_n F.1 F.2.1 dX1_rollOver_17 rfl (lv_at hl 1 rfl) ?_
      refine gf_X1_28 F hP hh (va_up_self _ _ _) (v := .int (f1 10)) rfl dX1_rollOver_18 ?_
      refine lv_topi (fun v3 ev3 => ?_)
      have ev3 : v3 = nI k := ev3.trans e10
      subst ev3
      refine w_calli F hP hS (c_X5_has l D Y ad N hI _ st (by omega) _ _ hst1.1 (nI k)) (cwVm 1 F.2.2.2.2.1 (fun _ h => h) mw_234 mw_296 mw_232 mw_233 mw_42 rfl rfl ydX5_has ⟨by decide, by decide⟩) (by omega) hst1.1 rfl rfl hl.1 rfl (Nat.le_of_ble_eq_true rfl) dX1_rollOver_21 ⟨Nat.zero_le _, Nat.zero_le _⟩ (fun r C2 H locs hq hP hS => ?_)
      obtain ⟨hq1, hq2⟩ := hq; rw [hq1] at hP
      have hbr4 : r = if nI k < f1 4 then 1 else 0 := by rw [hq2]; simp only [has_iff (x := nI k) (n := f1 4) (by rw [← e10]; exact hO.2.2.2.1.1) hs1.2.2.2.2.1.2]
      clear hq2; generalize r = r4 at hbr4 ⊢
      refine lv_if_eq (tgt := 63) F.1 F.2.1 dX1_rollOver_24 (by decide) (fun c5 => ?_) (fun c5 => ?_)
      · refine lv_aload_n F.1 F.2.1 dX1_rollOver_63 rfl (lv_at hl 1 rfl) ?_
        refine lv_iconst (v := 4) F.1 F.2.1 dX1_rollOver_64 (by decide) ?_
        have hnp : ¬ f1 10 < f1 4 := by rw [e10]; exact b_f hbr4 c5
        refine pf_X1_31 F hI hP hS hh (va_up_self _ _ _) (Nat.le_of_ble_eq_true rfl) (C1 := va_up C h (hpR (T_step f1 g1).1 (T_step f1 g1).2)) (fun q => by rw [T_step_p hnp]; exact up_self q) dX1_rollOver_65 (fun H locs hP hS => ?_)
        refine lv_iinc (v := (nI j) + 1) (lv' := [(4, .int ((nI j) + 1)), (0, .ref (ad h)), (1, .int (nI n)), (2, .ref (ad st)), (3, .ref (ad se))]) F.1 F.2.1 dX1_rollOver_68 hl (k := 0) rfl rfl (by decide) rfl (fun ls hl => ?_)
        refine lv_goto (tgt := 3) F.1 F.2.1 dX1_rollOver_71 (by decide) ?_
        exact ih _ (by have := (Nat.not_le.mp (fun q => c1 (nI_le q (by omega)))); omega) _ _ _ _ ⟨j + 1, (T_step f1 g1).1, (T_step f1 g1).2, rfl, (Nat.not_le.mp (fun q => c1 (nI_le q (by omega)))), (by rw [nI_succ]; exact lv_sub hl [0, 1, 2, 3, 4] rfl), rfl, T_roll_s n j f1 f g1 g hT (Nat.not_le.mp (fun q => c1 (nI_le q (by omega)))) ((b_t hbR c2).2), (by have := okH_step (g := g1) hB1 hs1 hO ((b_t hbR c2).2); rw [show B + 25 * ((j + 1 : Nat) : Int) = B + 25 * j + 25 by omega]; exact this), fun q a b d e x => (T_step_fr a b d e x).trans (hf q a b d e x)⟩ hP hS
      · refine lv_aload_n F.1 F.2.1 dX1_rollOver_27 rfl (lv_at hl 1 rfl) ?_
        refine lv_aload_n F.1 F.2.1 dX1_rollOver_28 rfl (lv_at hl 3 rfl) ?_
        refine lv_aload_n F.1 F.2.1 dX1_rollOver_29 rfl (lv_at hl 1 rfl) ?_
        refine gf_X1_28 F hP hh (va_up_self _ _ _) (v := .int (f1 10)) rfl dX1_rollOver_30 ?_
        refine lv_topi (fun v6 ev6 => ?_)
        have ev6 : v6 = nI k := ev6.trans e10
        subst ev6
        refine lv_iconst (v := 0) F.1 F.2.1 dX1_rollOver_33 (by decide) ?_
        have hkn : nI k < f1 4 := b_t hbr4 c5
        have hk20 : k < 20 := by have q := Int32.lt_iff_toInt_lt.mp hkn; rw [nI_toInt (by omega)] at q; have := hs1.2.2.2.2.1.2; omega
        have hlt : f1 10 < f1 4 := by rw [e10]; exact hkn
        refine w_calli F hP hS (c_X5_entry l D Y ad N hI _ st (by omega) f1 hst1 k 0 hk20 hkn (by decide)) (cwVm 2 F.2.2.2.2.1 (fun _ h => h) mw_300 mw_297 mw_298 mw_299 mw_42 rfl rfl ydX5_entry ⟨by decide, by decide⟩) (by omega) hst1.1 rfl rfl hl.1 rfl (Nat.le_of_ble_eq_true rfl) dX1_rollOver_34 ⟨Nat.zero_le _, Nat.zero_le _⟩ (fun r C2 H locs hq hP hS => ?_)
        obtain ⟨hq1, hq2⟩ := hq; rw [hq1] at hP
        have hq2 : r = kindAt f1 k := hq2.trans (congrArg f1 (by omega))
        subst hq2
        refine lv_aload_n F.1 F.2.1 dX1_rollOver_37 rfl (lv_at hl 3 rfl) ?_
        refine lv_aload_n F.1 F.2.1 dX1_rollOver_38 rfl (lv_at hl 1 rfl) ?_
        refine gf_X1_28 F hP hh (va_up_self _ _ _) (v := .int (f1 10)) rfl dX1_rollOver_39 ?_
        refine lv_topi (fun v7 ev7 => ?_)
        have ev7 : v7 = nI k := ev7.trans e10
        subst ev7
        refine lv_iconst (v := 1) F.1 F.2.1 dX1_rollOver_42 (by decide) ?_
        refine w_calli F hP hS (c_X5_entry l D Y ad N hI _ st (by omega) f1 hst1 k 1 hk20 hkn (by decide)) (cwVm 2 F.2.2.2.2.1 (fun _ h => h) mw_300 mw_297 mw_298 mw_299 mw_42 rfl rfl ydX5_entry ⟨by decide, by decide⟩) (by omega) hst1.1 rfl rfl hl.1 rfl (Nat.le_of_ble_eq_true rfl) dX1_rollOver_43 ⟨Nat.zero_le _, Nat.zero_le _⟩ (fun r C2 H locs hq hP hS => ?_)
        obtain ⟨hq1, hq2⟩ := hq; rw [hq1] at hP
        have hq2 : r = valAt f1 k := hq2.trans (congrArg f1 (by omega))
        subst hq2
        refine lv_aload_n F.1 F.2.1 dX1_rollOver_46 rfl (lv_at hl 4 rfl) ?_
        have h11 : f1 11 = 0 := (b_t hbR c2).2
        refine w_callv F hP hS (c_X1_meet l D Y ad N hI _ h hh f1 g1 (va_up_self _ _ _) k se hh3 hse1 (okH_okL (by omega) hs1 hO) h11) (cwVm 3 F.2.2.2.2.1 (fun _ h => h) mw_304 mw_301 mw_302 mw_303 mw_30 rfl rfl ydX1_meet ⟨by decide, by decide⟩) hh (va_up_self _ _ _) rfl rfl hl.1 rfl (Nat.le_of_ble_eq_true rfl) dX1_rollOver_47 ⟨Nat.zero_le _, Nat.zero_le _⟩ (fun C2 H locs hq hP hS => ?_)
        rw [uu] at hq; subst hq
        have hmr := meet_row (by omega) hs1 hO hk20 h11
        have hgb := gb_step (g := g1) h11 hlt
        rw [hk] at hgb
        generalize upd (T_meet k f1).1 11 (T_meet k f1).2 = F2 at hP hmr hgb ⊢
        have hst2 : isStair Y ad (va_up C h (hpR F2 g1)) st F2 := isStair_up hst hd1 ((hmr.2 4 (by decide) (by decide) (by decide) (by decide) (by decide)).trans (hf 4 (by decide) (by decide) (by decide) (by decide) (by decide))) (fun q hq => (hmr.2 q (by omega) (by omega) (by omega) (by omega) (by omega)).trans (hf q (by omega) (by omega) (by omega) (by omega) (by omega)))
        have hse2 : isSett Y ad (va_up C h (hpR F2 g1)) se F2 := isSett_up hse hd2 (fun q hq => (hmr.2 q (by omega) (by omega) (by omega) (by omega) (by omega)).trans (hf q (by omega) (by omega) (by omega) (by omega) (by omega)))
        refine lv_aload_n F.1 F.2.1 dX1_rollOver_50 rfl (lv_at hl 1 rfl) ?_
        refine lv_aload_n F.1 F.2.1 dX1_rollOver_51 rfl (lv_at hl 3 rfl) ?_
        refine lv_aload_n F.1 F.2.1 dX1_rollOver_52 rfl (lv_at hl 4 rfl) ?_
        refine lv_iconst (v := 0) F.1 F.2.1 dX1_rollOver_53 (by decide) ?_
        refine w_calli F hP hS (c_X4_value l D Y ad N hI _ se hh3 F2 hse2 0 (by decide)) (cwVm 1 F.2.2.2.2.1 (fun _ h => h) mw_172 mw_305 mw_170 mw_171 mw_38 rfl rfl ydX4_value ⟨by decide, by decide⟩) (by omega) hse2.1 rfl rfl hl.1 rfl (Nat.le_of_ble_eq_true rfl) dX1_rollOver_54 ⟨Nat.zero_le _, Nat.zero_le _⟩ (fun r C2 H locs hq hP hS => ?_)
        obtain ⟨hq1, hq2⟩ := hq; rw [hq1] at hP; subst hq2
        refine w_callv F hP hS (c_X1_goBehind l D Y ad N hI _ h hh F2 g1 (va_up_self _ _ _) _ st (by omega) (by omega) _ hst2.1 (okS_of hs1 hmr.2) hmr.1) (cwVm 2 F.2.2.2.2.1 (fun _ h => h) mw_333 mw_330 mw_331 mw_332 mw_30 rfl rfl ydX1_goBehind ⟨by decide, by decide⟩) hh (va_up_self _ _ _) rfl rfl hl.1 rfl (Nat.le_of_ble_eq_true rfl) dX1_rollOver_57 ⟨Nat.zero_le _, Nat.zero_le _⟩ (fun C2 H locs hq hP hS => ?_)
        rw [uu, hgb] at hq; subst hq
        refine lv_goto (tgt := 68) F.1 F.2.1 dX1_rollOver_60 (by decide) ?_
        refine lv_iinc (v := (nI j) + 1) (lv' := [(4, .int ((nI j) + 1)), (0, .ref (ad h)), (1, .int (nI n)), (2, .ref (ad st)), (3, .ref (ad se))]) F.1 F.2.1 dX1_rollOver_68 hl (k := 0) rfl rfl (by decide) rfl (fun ls hl => ?_)
        refine lv_goto (tgt := 3) F.1 F.2.1 dX1_rollOver_71 (by decide) ?_
        exact ih _ (by have := (Nat.not_le.mp (fun q => c1 (nI_le q (by omega)))); omega) _ _ _ _ ⟨j + 1, (T_step f1 g1).1, (T_step f1 g1).2, rfl, (Nat.not_le.mp (fun q => c1 (nI_le q (by omega)))), (by rw [nI_succ]; exact lv_sub hl [0, 1, 2, 3, 4] rfl), rfl, T_roll_s n j f1 f g1 g hT (Nat.not_le.mp (fun q => c1 (nI_le q (by omega)))) ((b_t hbR c2).2), (by have := okH_step (g := g1) hB1 hs1 hO ((b_t hbR c2).2); rw [show B + 25 * ((j + 1 : Nat) : Int) = B + 25 * j + 25 by omega]; exact this), fun q a b d e x => (T_step_fr a b d e x).trans (hf q a b d e x)⟩ hP hS

