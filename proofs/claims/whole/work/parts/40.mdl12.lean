/-! HoopStairsModel: carry out, undo, slots -/
section CO
variable {pd : Nat → Int32} {n a : Nat}
theorem fault_lt {k : Nat} (ha : a ≤ 100) (h : F_fault pd n (k + 1) a = -6) : P_ok pd n a ∧ (P_end pd n a = n ∨ (¬ P_end pd n a = n ∧ chr_ pd n (P_end pd n a) = 59 ∧ F_fault pd n k (P_end pd n a + 1) = -6)) := by
  have hb := P_end_b pd n a
  have ne : ¬ nI (P_end pd n a) = -6 := fun q => by
    have e : (nI (P_end pd n a)).toInt = P_end pd n a := nI_toInt (by omega)
    rw [q] at e
    have t : (-6 : Int32).toInt = -6 := rfl
    omega
  have h : (if P_ok pd n a then (if P_end pd n a = n then (-6 : Int32) else if chr_ pd n (P_end pd n a) = 59 then F_fault pd n k (P_end pd n a + 1) else nI (P_end pd n a)) else nI (P_end pd n a)) = -6 := h
  by_cases p : P_ok pd n a
  · rw [if_pos p] at h
    by_cases e : P_end pd n a = n
    · exact ⟨p, Or.inl e⟩
    · rw [if_neg e] at h
      by_cases c : chr_ pd n (P_end pd n a) = 59
      · rw [if_pos c] at h; exact ⟨p, Or.inr ⟨e, c, h⟩⟩
      · rw [if_neg c] at h; exact absurd h ne
  · rw [if_neg p] at h; exact absurd h ne
theorem end_nd {b : Nat} (h : b = n ∨ chr_ pd n b = 59) : ¬ isDg (chr_ pd n b) := fun q => by
  rcases h with h | h
  · have := dg_lt q; omega
  · rw [h] at q; exact absurd q.2 (by decide)
theorem co_end (m : Nat) (f : Nat → Int32) (d : Nat) : T_co pd n m f n d = (f, d) := by
  cases m with
  | zero => rfl
  | succ m => exact if_neg (fun p => by have := (P_ok_lt p).1; omega)
theorem co_step {m d : Nat} {f : Nat → Int32} (p : P_ok pd n a) (e : T_err f (chr_ pd n a) (P_no pd n a) = 0) : T_co pd n (m + 1) f a d = T_co pd n m (T_do f (chr_ pd n a) (P_no pd n a)) (if chr_ pd n (P_end pd n a) = 59 then P_end pd n a + 1 else P_end pd n a) (d + 1) := (if_pos p).trans (if_pos e)
theorem co_stop {m d : Nat} {f : Nat → Int32} (p : P_ok pd n a) (e : ¬ T_err f (chr_ pd n a) (P_no pd n a) = 0) : T_co pd n (m + 1) f a d = (f, d) := (if_pos p).trans (if_neg e)
end CO
set_option maxRecDepth 20000 in
set_option maxHeartbeats 4000000 in
/-- carryOut -/
theorem c_X8_carryOut (l : Launch) (D : va_G) (Y : Nat → ClassId) (ad : Nat → Nat) (N : Nat) (hI : wI ad N) (C : Nat → va_E) (o : Nat) (hh : o + 6 ≤ N) (gr : Int32) (r s0 : Nat → Int32) (k0 : Nat) (hk0 : k0 ≤ 6) (hs : Nat → Nat → Int32) (pa : Nat → Int32) (hpa : C (o + 2) = pA Y pa) (hhs : ∀ i j, i < k0 → j < 161 → pa (161 * i + j) = hs i j) (sl : Nat → Nat → Int32) (sla sv : Nat → Int32) (hsl : C (o + 3) = .inl (Y 0, 322, .inl sla)) (hsls : ∀ k j, k < 2 → j < 161 → ¬ sv k = 0 → sla (161 * k + j) = sl k j) (hsv : C (o + 4) = .inl (Y 1, 2, .inl sv)) (pd : Nat → Int32) (nn : Nat) (hn80 : nn ≤ 80) (hpdd : C (o + 5) = .inl (Y 0, 80, .inl pd)) (B : Int) (hok : okRow B r) (hBb : B + 60000 ≤ 900000000) (hB0 : 0 ≤ B) : Met l yX8_carryOut (wm yX8_carryOut cX8_carryOut 3 (some .int)) { frames := 5, cells := 0, slots := 0, locals := 117 } (wPc D Y ad N [.ref (ad o)] (mW Y ad C o (nI k0) (nI nn) gr 0 r s0)) (wQi D ad N (fun q C' => (F_fault pd nn 80 0 = -6 → q = nI (T_out r pd nn).2 ∧ mdlA Y ad C' o ((T_out r pd nn).1) (H_rec r hs k0) (K_rec k0) sl sv pd 0 ∧ ∀ j, j < o ∨ o + 6 ≤ j → C' j = C j) ∧ (¬ F_fault pd nn 80 0 = -6 → q = -3 ∧ mdlA Y ad C' o r hs k0 sl sv pd nn ∧ ∀ j, j < o ∨ o + 6 ≤ j → C' j = C j))) 0 0 (wA ad N) := by
  refine wMet RX8 rfl (by decide +kernel) (Nat.le_of_ble_eq_true rfl) (lv := [(0, .ref (ad o))]) rfl ?_
  intro p e s m below meth c ls F hr hlocks hP hl
  have hS : va_S (wA ad N) s.heap s.heap [] := va_S.rf
  refine lv_aload_n F.1 F.2.1 dX8_carryOut_0 rfl (lv_at hl 0 rfl) ?_
  refine w_calli F hP hS (c_X8_fault l D Y ad N hI C o hh (nI k0) gr r s0 pd nn hn80 hpdd  ) (cwVm 0 F.2.2.2.2.1 (fun _ h => h) mw_623 mw_659 mw_621 mw_622 mw_5 rfl rfl ydX8_fault ⟨by decide, by decide⟩) (by omega) mW_o rfl rfl hl.1 rfl (Nat.le_of_ble_eq_true rfl) dX8_carryOut_1 ⟨Nat.zero_le _, Nat.zero_le _⟩ (fun rq1 Kq1 H locs hq1 hP hS => ?_)
  obtain ⟨hq1w, hq1r⟩ := hq1; subst hq1w hq1r
  refine lv_bipush (v := (-6)) F.1 F.2.1 dX8_carryOut_4 (by decide) ?_
  refine lv_icmp_eq (tgt := 12) F.1 F.2.1 dX8_carryOut_6 (by decide) (fun c2 => ?_) (fun c2 => ?_)
  · refine lv_aload_n F.1 F.2.1 dX8_carryOut_12 rfl (lv_at hl 0 rfl) ?_
    refine w_callv F hP hS (c_X8_remembers l D Y ad N hI C o hh (nI nn) gr r s0 k0 hk0 hs pa hpa hhs) (cwVm 0 F.2.2.2.2.1 (fun _ h => h) mw_187 mw_184 mw_185 mw_186 mw_5 rfl rfl ydX8_remembers ⟨by decide, by decide⟩) (by omega) mW_o rfl rfl hl.1 rfl (Nat.le_of_ble_eq_true rfl) dX8_carryOut_13 ⟨Nat.zero_le _, Nat.zero_le _⟩ (fun Kq H locs hq hP hS => ?_)
    obtain ⟨pa2, hqw, hh2⟩ := hq
    subst hqw
    refine lv_iconst (v := 0) F.1 F.2.1 dX8_carryOut_16 (by decide) ?_
    refine lv_istore_n (lv' := [(1, .int (0)), (0, .ref (ad o))]) F.1 F.2.1 dX8_carryOut_17 rfl hl (by decide) rfl (fun ls hl => ?_)
    refine lv_iconst (v := 0) F.1 F.2.1 dX8_carryOut_18 (by decide) ?_
    refine lv_istore_n (lv' := [(2, .int (0)), (1, .int (0)), (0, .ref (ad o))]) F.1 F.2.1 dX8_carryOut_19 rfl hl (by decide) rfl (fun ls hl => ?_)
    have hF : F_fault pd nn 80 0 = -6 := c2
    have hok0 := (fault_lt (k := 79) (by decide) hF).1
    have hn0 := (P_ok_lt hok0).1
    refine w_loop (Inv := fun j ls C' => ∃ (i a d : Nat) (fi : Nat → Int32) (gr : Int32), j = 80 - i ∧ i ≤ 80 ∧ d ≤ i ∧ a ≤ 81 ∧ lv_has ls 3 [(1, .int (nI d)), (2, .int (nI a)), (0, .ref (ad o))] ∧ C' = mW Y ad (va_up C (o + 2) (pA Y pa2)) o (nI (K_rec k0)) (nI nn) gr 0 fi s0 ∧ okRow (B + 525 * i) fi ∧ ((a < nn ∧ 2 * i ≤ a ∧ F_fault pd nn (80 - i) a = -6 ∧ T_co pd nn (80 - i) fi a d = T_co pd nn 80 r 0 0) ∨ (a = nn + 1 ∧ (fi, d) = T_co pd nn 80 r 0 0))) ?_ 80 ⟨0, 0, 0, r, gr, rfl, by decide, by decide, by decide, lv_sub hl [1, 0, 2] rfl, rfl, okRow_mono (by omega) hok, Or.inl ⟨hn0, by decide, hF, rfl⟩⟩ hP hS
    clear hP hS
    intro j ih H locs ls K0 hInv hP hS
    obtain ⟨i, a, d, fi, gr, hj, hi80, hdi, ha81, hl, rfl, hoki, hD⟩ := hInv
    refine lv_iload_n F.1 F.2.1 dX8_carryOut_20 rfl (lv_at hl 1 rfl) ?_
    refine lv_aload_n F.1 F.2.1 dX8_carryOut_21 rfl (lv_at hl 2 rfl) ?_
    refine gf_X8_106 F hP (by omega) mW_o (v := .int (nI nn)) rfl dX8_carryOut_22 ?_
    refine lv_icmp_ge (tgt := 55) F.1 F.2.1 dX8_carryOut_25 (by decide) (fun c3 => ?_) (fun c3 => ?_)
    · have hW : (fi, d) = T_co pd nn 80 r 0 0 := (hD.resolve_left (fun q => nI_ge q.1 (by omega) c3)).2
      refine lv_aload_n F.1 F.2.1 dX8_carryOut_55 rfl (lv_at hl 2 rfl) ?_
      refine lv_iconst (v := 0) F.1 F.2.1 dX8_carryOut_56 (by decide) ?_
      refine pf_X8_106 F hI hP hS (by omega) mW_o (Nat.le_of_ble_eq_true rfl) (C1 := mW Y ad (va_up C (o + 2) (pA Y pa2)) o (nI (K_rec k0)) 0 gr 0 fi s0) (fun q => congrFun mW_updo q) dX8_carryOut_57 (fun H locs hP hS => ?_)
      refine lv_iload_n F.1 F.2.1 dX8_carryOut_60 rfl (lv_at hl 0 rfl) ?_
      exact w_iret F hr hlocks hP hS dX8_carryOut_61 ⟨fun _ => ⟨congrArg (fun z => nI z.2) hW, (show (T_out r pd nn).1 = fi from (congrArg Prod.fst hW).symm) ▸ mdl_rec (nn := 0) hk0 (by omega) hh2 hsl hsls hsv hpdd, mfr_1 (by omega) (by omega)⟩, fun q => absurd hF q⟩
    · have hlt : a < nn := Nat.lt_of_not_le (fun q => c3 (nI_le q (by omega)))
      obtain ⟨-, h2i, hFi, hT⟩ := hD.resolve_right (fun q => by omega)
      rw [show 80 - i = 80 - (i + 1) + 1 by omega] at hFi hT
      obtain ⟨hok5, hEnd⟩ := fault_lt (by omega) hFi
      have hnd : ¬ isDg (chr_ pd nn (P_end pd nn a)) := end_nd (hEnd.imp id (fun q => q.2.1))
      have hpl := P_ok_lt hok5
      have heb := P_end_b pd nn a
      refine lv_aload_n F.1 F.2.1 dX8_carryOut_28 rfl (lv_at hl 2 rfl) ?_
      refine lv_iload_n F.1 F.2.1 dX8_carryOut_29 rfl (lv_at hl 1 rfl) ?_
      refine w_calli F hP hS (c_X8_whyNot l D Y ad N hI (va_up C (o + 2) (pA Y pa2)) o hh (nI (K_rec k0)) gr fi s0 pd nn hn80 ((va_up_ne _ _ (by omega)).trans hpdd) a (by omega) (nI a) rfl hok5 hnd hoki.1) (cwVm 1 F.2.2.2.2.1 (fun _ h => h) mw_663 mw_660 mw_661 mw_662 mw_5 rfl rfl ydX8_whyNot ⟨by decide, by decide⟩) (by omega) mW_o rfl rfl hl.1 rfl (Nat.le_of_ble_eq_true rfl) dX8_carryOut_30 ⟨Nat.zero_le _, Nat.zero_le _⟩ (fun rq4 Kq4 H locs hq4 hP hS => ?_)
      obtain ⟨hq4w, hq4r⟩ := hq4; subst hq4w hq4r
      refine lv_if_ne (tgt := 55) F.1 F.2.1 dX8_carryOut_33 (by decide) (fun c5 => ?_) (fun c5 => ?_)
      · have hW : (fi, d) = T_co pd nn 80 r 0 0 := (co_stop hok5 c5).symm.trans hT
        refine lv_aload_n F.1 F.2.1 dX8_carryOut_55 rfl (lv_at hl 2 rfl) ?_
        refine lv_iconst (v := 0) F.1 F.2.1 dX8_carryOut_56 (by decide) ?_
        refine pf_X8_106 F hI hP hS (by omega) mW_o (Nat.le_of_ble_eq_true rfl) (C1 := mW Y ad (va_up C (o + 2) (pA Y pa2)) o (nI (K_rec k0)) 0 gr 0 fi s0) (fun q => congrFun mW_updo q) dX8_carryOut_57 (fun H locs hP hS => ?_)
        refine lv_iload_n F.1 F.2.1 dX8_carryOut_60 rfl (lv_at hl 0 rfl) ?_
        exact w_iret F hr hlocks hP hS dX8_carryOut_61 ⟨fun _ => ⟨congrArg (fun z => nI z.2) hW, (show (T_out r pd nn).1 = fi from (congrArg Prod.fst hW).symm) ▸ mdl_rec (nn := 0) hk0 (by omega) hh2 hsl hsls hsv hpdd, mfr_1 (by omega) (by omega)⟩, fun q => absurd hF q⟩
      · refine lv_aload_n F.1 F.2.1 dX8_carryOut_36 rfl (lv_at hl 2 rfl) ?_
        refine lv_iload_n F.1 F.2.1 dX8_carryOut_37 rfl (lv_at hl 1 rfl) ?_
        have he : T_err fi (chr_ pd nn a) (P_no pd nn a) = 0 := c5
        refine w_callv F hP hS (c_X8_does l D Y ad N hI (va_up C (o + 2) (pA Y pa2)) o hh (nI (K_rec k0)) gr fi s0 pd nn hn80 ((va_up_ne _ _ (by omega)).trans hpdd) a (by omega) (nI a) rfl hok5 hnd (B + 525 * i) (by omega) hoki he) (cwVm 1 F.2.2.2.2.1 (fun _ h => h) mw_674 mw_671 mw_672 mw_673 mw_5 rfl rfl ydX8_does ⟨by decide, by decide⟩) (by omega) mW_o rfl rfl hl.1 rfl (Nat.le_of_ble_eq_true rfl) dX8_carryOut_38 ⟨Nat.zero_le _, Nat.zero_le _⟩ (fun Kd H locs hd1 hP hS => ?_)
        obtain ⟨gr2, hd2⟩ := hd1; subst hd2
        obtain ⟨f2, ef2⟩ : ∃ z, z = T_do fi (chr_ pd nn a) (P_no pd nn a) := ⟨_, rfl⟩
        have hok2 : okRow (B + 525 * ((i + 1 : Nat) : Int)) f2 := by rw [ef2, show B + 525 * ((i + 1 : Nat) : Int) = B + 525 * i + 525 by omega]; exact okRow_do (by omega) (by omega) hoki he
        have hT2 := (co_step (d := d) (m := 80 - (i + 1)) hok5 he).symm.trans hT
        rw [← ef2] at hP hT2
        refine lv_iinc (v := (nI d) + 1) (lv' := [(1, .int ((nI d) + 1)), (2, .int (nI a)), (0, .ref (ad o))]) F.1 F.2.1 dX8_carryOut_41 hl (k := 0) rfl rfl (by decide) rfl (fun ls hl => ?_)
        refine lv_aload_n F.1 F.2.1 dX8_carryOut_44 rfl (lv_at hl 2 rfl) ?_
        refine lv_iload_n F.1 F.2.1 dX8_carryOut_45 rfl (lv_at hl 1 rfl) ?_
        refine w_calli F hP hS (c_X8_orderEnd l D Y ad N hI (va_up C (o + 2) (pA Y pa2)) o hh (nI (K_rec k0)) gr2 f2 s0 pd nn hn80 ((va_up_ne _ _ (by omega)).trans hpdd) a (by omega) (nI a) rfl ) (cwVm 1 F.2.2.2.2.1 (fun _ h => h) mw_627 mw_624 mw_625 mw_626 mw_5 rfl rfl ydX8_orderEnd ⟨by decide, by decide⟩) (by omega) mW_o rfl rfl hl.1 rfl (Nat.le_of_ble_eq_true rfl) dX8_carryOut_46 ⟨Nat.zero_le _, Nat.zero_le _⟩ (fun rq6 Kq6 H locs hq6 hP hS => ?_)
        obtain ⟨hq6w, hq6r⟩ := hq6; subst hq6w hq6r
        refine lv_topi (fun v7 ev7 => ?_)
        have ev7 : v7 = nI (P_end pd nn a) := ev7.trans (if_pos hok5)
        subst ev7
        refine lv_iconst (v := 1) F.1 F.2.1 dX8_carryOut_49 (by decide) ?_
        refine lv_iadd F.1 F.2.1 dX8_carryOut_50 ?_
        refine lv_istore_n (lv' := [(2, .int ((nI (P_end pd nn a)) + 1)), (1, .int ((nI d) + 1)), (0, .ref (ad o))]) F.1 F.2.1 dX8_carryOut_51 rfl hl (by decide) rfl (fun ls hl => ?_)
        refine lv_goto (tgt := 20) F.1 F.2.1 dX8_carryOut_52 (by decide) ?_
        refine ih _ (by omega) _ _ _ _ ⟨i + 1, P_end pd nn a + 1, d + 1, f2, gr2, rfl, by omega, by omega, by omega, (by rw [nI_succ, nI_succ]; exact lv_sub hl [1, 0, 2] rfl), rfl, hok2, ?_⟩ hP hS
        rcases hEnd with e | ⟨e, c, hf⟩
        · right; refine ⟨by omega, ?_⟩; rw [e, if_neg (fun q => by have := chr_lt (show ¬ chr_ pd nn nn = 0 by rw [q]; decide); omega), co_end] at hT2; exact hT2
        · left; rw [if_pos c] at hT2; refine ⟨?_, by omega, hf, hT2⟩
          have hf2 := hf; rw [show 80 - (i + 1) = 80 - (i + 2) + 1 by omega] at hf2; exact (P_ok_lt (fault_lt (by omega) hf2).1).1
  · refine lv_bipush (v := (-3)) F.1 F.2.1 dX8_carryOut_9 (by decide) ?_
    exact w_iret F hr hlocks hP hS dX8_carryOut_11 ⟨fun q => absurd q c2, fun _ => ⟨rfl, mdl_mk hk0 hn80 hpa hhs hsl hsls hsv hpdd, mfr_0⟩⟩
theorem cm_X8_carryOut (l : Launch) (D : va_G) (Y : Nat → ClassId) (ad : Nat → Nat) (N : Nat) (hI : wI ad N) (C : Nat → va_E) (o : Nat) (hh : o + 6 ≤ N) (f : Nat → Int32) (hs : Nat → Nat → Int32) (kn : Nat) (sl : Nat → Nat → Int32) (sv pd : Nat → Int32) (n : Nat) (hA : mdlA Y ad C o f hs kn sl sv pd n) (B : Int) (hok : okRow B f) (hBb : B + 60000 ≤ 900000000) (hB0 : 0 ≤ B) : Met l yX8_carryOut (wm yX8_carryOut cX8_carryOut 3 (some .int)) { frames := 5, cells := 0, slots := 0, locals := 117 } (wPc D Y ad N [.ref (ad o)] C) (wQi D ad N (fun q C' => (F_fault pd n 80 0 = -6 → q = nI (T_out f pd n).2 ∧ mdlA Y ad C' o ((T_out f pd n).1) (H_rec f hs kn) (K_rec kn) sl sv pd 0 ∧ ∀ j, j < o ∨ o + 6 ≤ j → C' j = C j) ∧ (¬ F_fault pd n 80 0 = -6 → q = -3 ∧ mdlA Y ad C' o f hs kn sl sv pd n ∧ ∀ j, j < o ∨ o + 6 ≤ j → C' j = C j))) 0 0 (wA ad N) := by
  obtain ⟨s0, pa, sla, gr, h1, h2, h3, h4, h5, h6, h7, h8, h9, h10⟩ := hA
  have h := c_X8_carryOut l D Y ad N hI C o hh gr f s0 kn h3 hs pa h5 h6 sl sla sv h7 h8 h9 pd n h4 h10 B hok hBb hB0
  rw [← mW_id h1 h2] at h
  exact h
set_option maxRecDepth 20000 in
set_option maxHeartbeats 4000000 in
/-- undo -/
theorem c_X8_undo (l : Launch) (D : va_G) (Y : Nat → ClassId) (ad : Nat → Nat) (N : Nat) (hI : wI ad N) (C : Nat → va_E) (o : Nat) (hh : o + 6 ≤ N) (gr : Int32) (r s0 : Nat → Int32) (k0 : Nat) (hk0 : k0 ≤ 6) (hs : Nat → Nat → Int32) (pa : Nat → Int32) (hpa : C (o + 2) = pA Y pa) (hhs : ∀ i j, i < k0 → j < 161 → pa (161 * i + j) = hs i j) (sl : Nat → Nat → Int32) (sla sv : Nat → Int32) (hsl : C (o + 3) = .inl (Y 0, 322, .inl sla)) (hsls : ∀ k j, k < 2 → j < 161 → ¬ sv k = 0 → sla (161 * k + j) = sl k j) (hsv : C (o + 4) = .inl (Y 1, 2, .inl sv)) (pd : Nat → Int32) (nn : Nat) (hn80 : nn ≤ 80) (hpdd : C (o + 5) = .inl (Y 0, 80, .inl pd)) : Met l yX8_undo (wm yX8_undo cX8_undo 2 (some .int)) { frames := 0, cells := 0, slots := 0, locals := 0 } (wPc D Y ad N [.ref (ad o)] (mW Y ad C o (nI k0) (nI nn) gr 0 r s0)) (wQi D ad N (fun q C' => (¬ k0 = 0 → q = nI (k0 - 1) ∧ mdlA Y ad C' o (hs (k0 - 1)) hs (k0 - 1) sl sv pd nn ∧ ∀ j, j < o ∨ o + 6 ≤ j → C' j = C j) ∧ (k0 = 0 → q = -5 ∧ mdlA Y ad C' o r hs k0 sl sv pd nn ∧ ∀ j, j < o ∨ o + 6 ≤ j → C' j = C j))) 0 0 (wA ad N) := by
  refine wMet RX8 rfl (by decide +kernel) (Nat.le_of_ble_eq_true rfl) (lv := [(0, .ref (ad o))]) rfl ?_
  intro p e s m below meth c ls F hr hlocks hP hl
  have hS : va_S (wA ad N) s.heap s.heap [] := va_S.rf
  refine lv_aload_n F.1 F.2.1 dX8_undo_0 rfl (lv_at hl 0 rfl) ?_
  refine gf_X8_30 F hP (by omega) mW_o (v := .int (nI k0)) rfl dX8_undo_1 ?_
  refine lv_if_ne (tgt := 10) F.1 F.2.1 dX8_undo_4 (by decide) (fun c1 => ?_) (fun c1 => ?_)
  · have h1n : 1 ≤ k0 := Nat.pos_of_ne_zero (fun q => c1 (by rw [q]; rfl))
    refine lv_aload_n F.1 F.2.1 dX8_undo_10 rfl (lv_at hl 0 rfl) ?_
    refine lv_dup F.1 F.2.1 dX8_undo_11 rfl ?_
    refine gf_X8_30 F hP (by omega) mW_o (v := .int (nI k0)) rfl dX8_undo_12 ?_
    refine lv_iconst (v := 1) F.1 F.2.1 dX8_undo_15 (by decide) ?_
    refine lv_isub F.1 F.2.1 dX8_undo_16 ?_
    refine lv_topi (fun v2 ev2 => ?_)
    have ev2 : v2 = nI (k0 - 1) := ev2.trans (pk_sub (b := 1) h1n)
    subst ev2
    refine pf_X8_30 F hI hP hS (by omega) mW_o (Nat.le_of_ble_eq_true rfl) (C1 := mW Y ad C o (nI (k0 - 1)) (nI nn) gr 0 r s0) (fun q => congrFun mW_updo q) dX8_undo_17 (fun H locs hP hS => ?_)
    refine lv_iconst (v := 0) F.1 F.2.1 dX8_undo_20 (by decide) ?_
    refine lv_istore_n (lv' := [(1, .int (0)), (0, .ref (ad o))]) F.1 F.2.1 dX8_undo_21 rfl hl (by decide) rfl (fun ls hl => ?_)
    refine w_loop (Inv := fun j ls C' => ∃ (k : Nat) (rk : Nat → Int32), j = 161 - k ∧ k ≤ 161 ∧ lv_has ls 2 [(1, .int (nI k)), (0, .ref (ad o))] ∧ C' = mW Y ad C o (nI (k0 - 1)) (nI nn) gr 0 rk s0 ∧ ∀ j, j < k → rk j = hs (k0 - 1) j) ?_ 161 ⟨0, r, rfl, by decide, lv_sub hl [0, 1] rfl, rfl, fun j hj => absurd hj (Nat.not_lt_zero _)⟩ hP hS
    intro j ih H locs ls K0 hInv hP hS
    obtain ⟨k, rk, hj, hk, hl, rfl, hW⟩ := hInv
    refine lv_iload_n F.1 F.2.1 dX8_undo_22 rfl (lv_at hl 0 rfl) ?_
    refine lv_sipush (v := 161) F.1 F.2.1 dX8_undo_23 (by decide) ?_
    refine lv_icmp_ge (tgt := 56) F.1 F.2.1 dX8_undo_26 (by decide) (fun c3 => ?_) (fun c3 => ?_)
    · refine lv_aload_n F.1 F.2.1 dX8_undo_56 rfl (lv_at hl 1 rfl) ?_
      refine gf_X8_30 F hP (by omega) mW_o (v := .int (nI (k0 - 1))) rfl dX8_undo_57 ?_
      exact w_iret F hr hlocks hP hS dX8_undo_60 (by have hk1 : k = 161 := Nat.le_antisymm hk (Nat.le_of_not_lt (fun z => nI_ge (b := 161) z (by decide) c3)); subst hk1; rw [mW_cong hW]; exact ⟨fun _ => ⟨rfl, mdl_mk (by omega) hn80 hpa (fun i j a b => hhs i j (by omega) b) hsl hsls hsv hpdd, mfr_0⟩, fun q => absurd q (by omega)⟩)
    · have hk1 : k < 161 := Nat.lt_of_not_le (fun q => c3 (nI_le (a := 161) q (by omega)))
      refine lv_aload_n F.1 F.2.1 dX8_undo_29 rfl (lv_at hl 1 rfl) ?_
      refine gf_X8_7 F hP (by omega) mW_o (v := .ref (ad (o + 1))) rfl dX8_undo_30 ?_
      refine lv_iload_n F.1 F.2.1 dX8_undo_33 rfl (lv_at hl 0 rfl) ?_
      refine lv_aload_n F.1 F.2.1 dX8_undo_34 rfl (lv_at hl 1 rfl) ?_
      refine gf_X8_13 F hP (by omega) mW_o (v := .ref (ad (o + 2))) rfl dX8_undo_35 ?_
      refine lv_sipush (v := 161) F.1 F.2.1 dX8_undo_38 (by decide) ?_
      refine lv_aload_n F.1 F.2.1 dX8_undo_41 rfl (lv_at hl 1 rfl) ?_
      refine gf_X8_30 F hP (by omega) mW_o (v := .int (nI (k0 - 1))) rfl dX8_undo_42 ?_
      refine lv_imul F.1 F.2.1 dX8_undo_45 ?_
      refine lv_iload_n F.1 F.2.1 dX8_undo_46 rfl (lv_at hl 0 rfl) ?_
      refine lv_iadd F.1 F.2.1 dX8_undo_47 ?_
      refine w_iald F hP (by omega) ((mW_x (by omega) (by omega)).trans hpa) (k := 161 * (k0 - 1) + k) (ix_add (X := 161 * (k0 - 1)) (Y := k) (Z := 161 * (k0 - 1) + k) (ix_mul (X := 161) (Y := k0 - 1) rfl rfl) rfl (by omega)) (by omega) (Nat.le_of_ble_eq_true rfl) (v := hs (k0 - 1) k) (hhs (k0 - 1) k (by omega) hk1) dX8_undo_48 ?_
      refine lv_topi (fun v4 ev4 => ?_)
      refine w_iast F hI hP hS (by omega) mW_s (k := k) rfl (by omega) (Nat.le_of_ble_eq_true rfl) (C1 := mW Y ad C o (nI (k0 - 1)) (nI nn) gr 0 (upd rk k v4) s0) (fun q => congrFun (mW_upds (k := k) (by omega) (by omega)) q) dX8_undo_49 (fun H locs hP hS => ?_)
      refine lv_iinc (v := (nI k) + 1) (lv' := [(1, .int ((nI k) + 1)), (0, .ref (ad o))]) F.1 F.2.1 dX8_undo_50 hl (k := 0) rfl rfl (by decide) rfl (fun ls hl => ?_)
      refine lv_goto (tgt := 22) F.1 F.2.1 dX8_undo_53 (by decide) ?_
      exact ih _ (by omega) _ _ _ _ ⟨k + 1, _, rfl, by omega, (by rw [nI_succ]; exact lv_sub hl [0, 1] rfl), rfl, fun j hj => (by by_cases a : j = k; (subst a; rw [upd_s]; exact ev4); (rw [upd_n a]; exact hW j (by omega)))⟩ hP hS
  · refine lv_bipush (v := (-5)) F.1 F.2.1 dX8_undo_7 (by decide) ?_
    exact w_iret F hr hlocks hP hS dX8_undo_9 ⟨fun q => absurd ((nI_eq (by omega) (by decide)).mp c1) q, fun _ => ⟨rfl, mdl_mk hk0 hn80 hpa hhs hsl hsls hsv hpdd, mfr_0⟩⟩
theorem cm_X8_undo (l : Launch) (D : va_G) (Y : Nat → ClassId) (ad : Nat → Nat) (N : Nat) (hI : wI ad N) (C : Nat → va_E) (o : Nat) (hh : o + 6 ≤ N) (f : Nat → Int32) (hs : Nat → Nat → Int32) (kn : Nat) (sl : Nat → Nat → Int32) (sv pd : Nat → Int32) (n : Nat) (hA : mdlA Y ad C o f hs kn sl sv pd n) : Met l yX8_undo (wm yX8_undo cX8_undo 2 (some .int)) { frames := 0, cells := 0, slots := 0, locals := 0 } (wPc D Y ad N [.ref (ad o)] C) (wQi D ad N (fun q C' => (¬ kn = 0 → q = nI (kn - 1) ∧ mdlA Y ad C' o (hs (kn - 1)) hs (kn - 1) sl sv pd n ∧ ∀ j, j < o ∨ o + 6 ≤ j → C' j = C j) ∧ (kn = 0 → q = -5 ∧ mdlA Y ad C' o f hs kn sl sv pd n ∧ ∀ j, j < o ∨ o + 6 ≤ j → C' j = C j))) 0 0 (wA ad N) := by
  obtain ⟨s0, pa, sla, gr, h1, h2, h3, h4, h5, h6, h7, h8, h9, h10⟩ := hA
  have h := c_X8_undo l D Y ad N hI C o hh gr f s0 kn h3 hs pa h5 h6 sl sla sv h7 h8 h9 pd n h4 h10 
  rw [← mW_id h1 h2] at h
  exact h
theorem save_slots {r sla sb sv : Nat → Int32} {sl : Nat → Nat → Int32} {q : Nat} (hsls : ∀ k j, k < 2 → j < 161 → ¬ sv k = 0 → sla (161 * k + j) = sl k j) (hW : ∀ j, j < 161 → sb (161 * q + j) = r j) (hX : ∀ j, j < 161 * q ∨ 161 * q + 161 ≤ j → sb j = sla j) : ∀ k j, k < 2 → j < 161 → ¬ upd sv q 1 k = 0 → sb (161 * k + j) = va_up sl q r k j := by
  intro k j hk hj hn
  by_cases a : k = q
  · subst a; rw [va_up_self]; exact hW j hj
  · rw [upd_n a] at hn
    rw [va_up_ne _ _ a, hX _ (by omega)]
    exact hsls k j hk hj hn
theorem s01 {x : Int32} : (0 ≤ x ∧ x ≤ 1) ↔ (0 ≤ x ∧ x < 2) := by rw [show x ≤ 1 ↔ x < 2 from le_lt (c := 1) (d := 2) rfl]
set_option maxRecDepth 20000 in
set_option maxHeartbeats 4000000 in
/-- save -/
theorem c_X8_save (l : Launch) (D : va_G) (Y : Nat → ClassId) (ad : Nat → Nat) (N : Nat) (hI : wI ad N) (C : Nat → va_E) (o : Nat) (hh : o + 6 ≤ N) (gr : Int32) (r s0 : Nat → Int32) (k0 : Nat) (hk0 : k0 ≤ 6) (hs : Nat → Nat → Int32) (pa : Nat → Int32) (hpa : C (o + 2) = pA Y pa) (hhs : ∀ i j, i < k0 → j < 161 → pa (161 * i + j) = hs i j) (sl : Nat → Nat → Int32) (sla sv : Nat → Int32) (hsl : C (o + 3) = .inl (Y 0, 322, .inl sla)) (hsls : ∀ k j, k < 2 → j < 161 → ¬ sv k = 0 → sla (161 * k + j) = sl k j) (hsv : C (o + 4) = .inl (Y 1, 2, .inl sv)) (pd : Nat → Int32) (nn : Nat) (hn80 : nn ≤ 80) (hpdd : C (o + 5) = .inl (Y 0, 80, .inl pd)) (x : Int32) : Met l yX8_save (wm yX8_save cX8_save 3 (some .int)) { frames := 1, cells := 0, slots := 0, locals := 22 } (wPc D Y ad N [.ref (ad o), .int (x)] (mW Y ad C o (nI k0) (nI nn) gr 0 r s0)) (wQi D ad N (fun q C' => ((if 0 ≤ x ∧ x < 2 then (0 : Int32) else -2) = 0 → q = r 4 ∧ mdlA Y ad C' o r hs k0 (va_up sl x.toNatClampNeg r) (upd sv x.toNatClampNeg 1) pd nn ∧ ∀ j, j < o ∨ o + 6 ≤ j → C' j = C j) ∧ (¬ (if 0 ≤ x ∧ x < 2 then (0 : Int32) else -2) = 0 → q = (if 0 ≤ x ∧ x < 2 then (0 : Int32) else -2) ∧ mdlA Y ad C' o r hs k0 sl sv pd nn ∧ ∀ j, j < o ∨ o + 6 ≤ j → C' j = C j))) 0 0 (wA ad N) := by
  refine wMet RX8 rfl (by decide +kernel) (Nat.le_of_ble_eq_true rfl) (lv := [(0, .ref (ad o)), (1, .int (x))]) rfl ?_
  intro p e s m below meth c ls F hr hlocks hP hl
  have hS : va_S (wA ad N) s.heap s.heap [] := va_S.rf
  refine lv_iload_n F.1 F.2.1 dX8_save_0 rfl (lv_at hl 1 rfl) ?_
  refine lv_iconst (v := 0) F.1 F.2.1 dX8_save_1 (by decide) ?_
  refine lv_iconst (v := 1) F.1 F.2.1 dX8_save_2 (by decide) ?_
  refine w_calls F hP hS (c_X8_in l D Y ad N hI _ x 0 1) (cwSm 3 F.2.2.2.2.1 (fun _ h => h) mw_183 mw_181 mw_182 mw_5 rfl rfl ydX8_in ⟨by decide, by decide⟩) rfl hl.1 rfl (Nat.le_of_ble_eq_true rfl) dX8_save_3 ⟨Nat.zero_le _, Nat.zero_le _⟩ (fun rq1 Kq1 H locs hq1 hP hS => ?_)
  obtain ⟨hq1w, hq1r⟩ := hq1; rw [hq1w] at hP
  refine lv_if_ne (tgt := 12) F.1 F.2.1 dX8_save_6 (by decide) (fun c2 => ?_) (fun c2 => ?_)
  · obtain ⟨q1, hq1, ek, ecl⟩ := in_x (M := 1) (m := 1) rfl (b_t hq1r c2).1 (b_t hq1r c2).2
    refine lv_iconst (v := 0) F.1 F.2.1 dX8_save_12 (by decide) ?_
    refine lv_istore_n (lv' := [(2, .int (0)), (0, .ref (ad o)), (1, .int (x))]) F.1 F.2.1 dX8_save_13 rfl hl (by decide) rfl (fun ls hl => ?_)
    refine w_loop (Inv := fun j ls C' => ∃ (k : Nat) (sb : Nat → Int32), j = 161 - k ∧ k ≤ 161 ∧ lv_has ls 3 [(2, .int (nI k)), (0, .ref (ad o)), (1, .int x)] ∧ C' = mW Y ad (va_up C (o + 3) (.inl (Y 0, 322, .inl sb))) o (nI k0) (nI nn) gr 0 r s0 ∧ (∀ j, j < k → sb (161 * q1 + j) = r j) ∧ ∀ j, j < 161 * q1 ∨ 161 * q1 + 161 ≤ j → sb j = sla j) ?_ 161 ⟨0, sla, rfl, by decide, lv_sub hl [0, 1, 2] rfl, by rw [← up_id hsl], fun j hj => absurd hj (Nat.not_lt_zero _), fun _ _ => rfl⟩ hP hS
    intro j ih H locs ls K0 hInv hP hS
    obtain ⟨k, sb, hj, hk, hl, rfl, hW, hX⟩ := hInv
    refine lv_iload_n F.1 F.2.1 dX8_save_14 rfl (lv_at hl 0 rfl) ?_
    refine lv_sipush (v := 161) F.1 F.2.1 dX8_save_15 (by decide) ?_
    refine lv_icmp_ge (tgt := 45) F.1 F.2.1 dX8_save_18 (by decide) (fun c3 => ?_) (fun c3 => ?_)
    · obtain rfl : k = 161 := Nat.le_antisymm hk (Nat.le_of_not_lt (fun z => nI_ge (b := 161) z (by decide) c3))
      refine lv_aload_n F.1 F.2.1 dX8_save_45 rfl (lv_at hl 1 rfl) ?_
      refine gf_X8_19 F hP (by omega) mW_o (v := .ref (ad (o + 4))) rfl dX8_save_46 ?_
      refine lv_iload_n F.1 F.2.1 dX8_save_49 rfl (lv_at hl 2 rfl) ?_
      refine lv_iconst (v := 1) F.1 F.2.1 dX8_save_50 (by decide) ?_
      refine w_zast F hI hP hS (by omega) ((mW_x (by omega) (by omega)).trans ((va_up_ne _ _ (by omega)).trans hsv)) (k := q1) ek (by omega) (Nat.le_of_ble_eq_true rfl) rfl (C1 := mW Y ad (va_up (va_up C (o + 3) (.inl (Y 0, 322, .inl sb))) (o + 4) (.inl (Y 1, 2, .inl (upd sv q1 1)))) o (nI k0) (nI nn) gr 0 r s0) (fun q => by rw [mW_upx (by omega) (by omega)]) dX8_save_51 (fun H locs hP hS => ?_)
      refine lv_aload_n F.1 F.2.1 dX8_save_52 rfl (lv_at hl 1 rfl) ?_
      refine gf_X8_7 F hP (by omega) mW_o (v := .ref (ad (o + 1))) rfl dX8_save_53 ?_
      refine lv_iconst (v := 4) F.1 F.2.1 dX8_save_56 (by decide) ?_
      refine w_iald F hP (by omega) mW_s (k := 4) rfl (by omega) (Nat.le_of_ble_eq_true rfl) (v := r 4) (put_at (k := 4) (by omega) (by omega)) dX8_save_57 ?_
      exact w_iret F hr hlocks hP hS dX8_save_58 ⟨fun _ => ⟨rfl, by rw [ecl]; exact mdl_mk hk0 hn80 ((va_up_ne _ _ (by omega)).trans ((va_up_ne _ _ (by omega)).trans hpa)) hhs ((va_up_ne _ _ (by omega)).trans (va_up_self _ _ _)) (save_slots hsls hW hX) (va_up_self _ _ _) ((va_up_ne _ _ (by omega)).trans ((va_up_ne _ _ (by omega)).trans hpdd)), fun j hj => (mW_x (by omega) (by omega)).trans ((va_up_ne _ _ (by omega)).trans (va_up_ne _ _ (by omega)))⟩, fun q => absurd (if_pos (s01.mp (b_t hq1r c2))) q⟩
    · have hk1 : k < 161 := Nat.lt_of_not_le (fun q => c3 (nI_le (a := 161) q (by omega)))
      refine lv_aload_n F.1 F.2.1 dX8_save_21 rfl (lv_at hl 1 rfl) ?_
      refine gf_X8_16 F hP (by omega) mW_o (v := .ref (ad (o + 3))) rfl dX8_save_22 ?_
      refine lv_sipush (v := 161) F.1 F.2.1 dX8_save_25 (by decide) ?_
      refine lv_iload_n F.1 F.2.1 dX8_save_28 rfl (lv_at hl 2 rfl) ?_
      refine lv_imul F.1 F.2.1 dX8_save_29 ?_
      refine lv_iload_n F.1 F.2.1 dX8_save_30 rfl (lv_at hl 0 rfl) ?_
      refine lv_iadd F.1 F.2.1 dX8_save_31 ?_
      refine lv_aload_n F.1 F.2.1 dX8_save_32 rfl (lv_at hl 1 rfl) ?_
      refine gf_X8_7 F hP (by omega) mW_o (v := .ref (ad (o + 1))) rfl dX8_save_33 ?_
      refine lv_iload_n F.1 F.2.1 dX8_save_36 rfl (lv_at hl 0 rfl) ?_
      refine w_iald F hP (by omega) mW_s (k := k) rfl (by omega) (Nat.le_of_ble_eq_true rfl) (v := r k) (put_at (k := k) (by omega) (by omega)) dX8_save_37 ?_
      refine w_iast F hI hP hS (by omega) ((mW_x (by omega) (by omega)).trans (va_up_self _ _ _)) (k := 161 * q1 + k) (ix_add (X := 161 * q1) (Y := k) (Z := 161 * q1 + k) (ix_mul (X := 161) (Y := q1) rfl ek) rfl (by omega)) (by omega) (Nat.le_of_ble_eq_true rfl) (C1 := mW Y ad (va_up C (o + 3) (.inl (Y 0, 322, .inl (upd sb (161 * q1 + k) (r k))))) o (nI k0) (nI nn) gr 0 r s0) (fun q => by rw [mW_upx (by omega) (by omega), uu]) dX8_save_38 (fun H locs hP hS => ?_)
      refine lv_iinc (v := (nI k) + 1) (lv' := [(2, .int ((nI k) + 1)), (0, .ref (ad o)), (1, .int (x))]) F.1 F.2.1 dX8_save_39 hl (k := 0) rfl rfl (by decide) rfl (fun ls hl => ?_)
      refine lv_goto (tgt := 14) F.1 F.2.1 dX8_save_42 (by decide) ?_
      exact ih _ (by omega) _ _ _ _ ⟨k + 1, _, rfl, by omega, (by rw [nI_succ]; exact lv_sub hl [0, 1, 2] rfl), rfl, fun j hj => (by by_cases a : j = k; (subst a; exact upd_s); (rw [upd_n (by omega)]; exact hW j (by omega))), fun j hj => (by rw [upd_n (by omega)]; exact hX j hj)⟩ hP hS
  · refine lv_bipush (v := (-2)) F.1 F.2.1 dX8_save_9 (by decide) ?_
    exact w_iret F hr hlocks hP hS dX8_save_11 ⟨fun q => absurd q (by rw [if_neg (fun z => (b_f hq1r c2) (s01.mpr z))]; decide), fun _ => ⟨(if_neg (fun z => (b_f hq1r c2) (s01.mpr z))).symm, mdl_mk hk0 hn80 hpa hhs hsl hsls hsv hpdd, mfr_0⟩⟩
theorem cm_X8_save (l : Launch) (D : va_G) (Y : Nat → ClassId) (ad : Nat → Nat) (N : Nat) (hI : wI ad N) (C : Nat → va_E) (o : Nat) (hh : o + 6 ≤ N) (f : Nat → Int32) (hs : Nat → Nat → Int32) (kn : Nat) (sl : Nat → Nat → Int32) (sv pd : Nat → Int32) (n : Nat) (hA : mdlA Y ad C o f hs kn sl sv pd n) (x : Int32) : Met l yX8_save (wm yX8_save cX8_save 3 (some .int)) { frames := 1, cells := 0, slots := 0, locals := 22 } (wPc D Y ad N [.ref (ad o), .int (x)] C) (wQi D ad N (fun q C' => ((if 0 ≤ x ∧ x < 2 then (0 : Int32) else -2) = 0 → q = f 4 ∧ mdlA Y ad C' o f hs kn (va_up sl x.toNatClampNeg f) (upd sv x.toNatClampNeg 1) pd n ∧ ∀ j, j < o ∨ o + 6 ≤ j → C' j = C j) ∧ (¬ (if 0 ≤ x ∧ x < 2 then (0 : Int32) else -2) = 0 → q = (if 0 ≤ x ∧ x < 2 then (0 : Int32) else -2) ∧ mdlA Y ad C' o f hs kn sl sv pd n ∧ ∀ j, j < o ∨ o + 6 ≤ j → C' j = C j))) 0 0 (wA ad N) := by
  obtain ⟨s0, pa, sla, gr, h1, h2, h3, h4, h5, h6, h7, h8, h9, h10⟩ := hA
  have h := c_X8_save l D Y ad N hI C o hh gr f s0 kn h3 hs pa h5 h6 sl sla sv h7 h8 h9 pd n h4 h10 x
  rw [← mW_id h1 h2] at h
  exact h
set_option maxRecDepth 20000 in
set_option maxHeartbeats 4000000 in
/-- restore -/
theorem c_X8_restore (l : Launch) (D : va_G) (Y : Nat → ClassId) (ad : Nat → Nat) (N : Nat) (hI : wI ad N) (C : Nat → va_E) (o : Nat) (hh : o + 6 ≤ N) (gr : Int32) (r s0 : Nat → Int32) (k0 : Nat) (hk0 : k0 ≤ 6) (hs : Nat → Nat → Int32) (pa : Nat → Int32) (hpa : C (o + 2) = pA Y pa) (hhs : ∀ i j, i < k0 → j < 161 → pa (161 * i + j) = hs i j) (sl : Nat → Nat → Int32) (sla sv : Nat → Int32) (hsl : C (o + 3) = .inl (Y 0, 322, .inl sla)) (hsls : ∀ k j, k < 2 → j < 161 → ¬ sv k = 0 → sla (161 * k + j) = sl k j) (hsv : C (o + 4) = .inl (Y 1, 2, .inl sv)) (pd : Nat → Int32) (nn : Nat) (hn80 : nn ≤ 80) (hpdd : C (o + 5) = .inl (Y 0, 80, .inl pd)) (x : Int32) : Met l yX8_restore (wm yX8_restore cX8_restore 3 (some .int)) { frames := 1, cells := 0, slots := 0, locals := 22 } (wPc D Y ad N [.ref (ad o), .int (x)] (mW Y ad C o (nI k0) (nI nn) gr 0 r s0)) (wQi D ad N (fun q C' => (T_ree sv x = 0 → q = sl x.toNatClampNeg 4 ∧ mdlA Y ad C' o (sl x.toNatClampNeg) (H_rec r hs k0) (K_rec k0) sl sv pd nn ∧ ∀ j, j < o ∨ o + 6 ≤ j → C' j = C j) ∧ (¬ T_ree sv x = 0 → q = T_ree sv x ∧ mdlA Y ad C' o r hs k0 sl sv pd nn ∧ ∀ j, j < o ∨ o + 6 ≤ j → C' j = C j))) 0 0 (wA ad N) := by
  refine wMet RX8 rfl (by decide +kernel) (Nat.le_of_ble_eq_true rfl) (lv := [(0, .ref (ad o)), (1, .int (x))]) rfl ?_
  intro p e s m below meth c ls F hr hlocks hP hl
  have hS : va_S (wA ad N) s.heap s.heap [] := va_S.rf
  refine lv_iload_n F.1 F.2.1 dX8_restore_0 rfl (lv_at hl 1 rfl) ?_
  refine lv_iconst (v := 0) F.1 F.2.1 dX8_restore_1 (by decide) ?_
  refine lv_iconst (v := 1) F.1 F.2.1 dX8_restore_2 (by decide) ?_
  refine w_calls F hP hS (c_X8_in l D Y ad N hI _ x 0 1) (cwSm 3 F.2.2.2.2.1 (fun _ h => h) mw_183 mw_181 mw_182 mw_5 rfl rfl ydX8_in ⟨by decide, by decide⟩) rfl hl.1 rfl (Nat.le_of_ble_eq_true rfl) dX8_restore_3 ⟨Nat.zero_le _, Nat.zero_le _⟩ (fun rq1 Kq1 H locs hq1 hP hS => ?_)
  obtain ⟨hq1w, hq1r⟩ := hq1; rw [hq1w] at hP
  refine lv_if_ne (tgt := 12) F.1 F.2.1 dX8_restore_6 (by decide) (fun c2 => ?_) (fun c2 => ?_)
  · obtain ⟨q1, hq1, ek, ecl⟩ := in_x (M := 1) (m := 1) rfl (b_t hq1r c2).1 (b_t hq1r c2).2
    refine lv_aload_n F.1 F.2.1 dX8_restore_12 rfl (lv_at hl 0 rfl) ?_
    refine gf_X8_19 F hP (by omega) mW_o (v := .ref (ad (o + 4))) rfl dX8_restore_13 ?_
    refine lv_iload_n F.1 F.2.1 dX8_restore_16 rfl (lv_at hl 1 rfl) ?_
    refine w_zald F hP (by omega) ((mW_x (by omega) (by omega)).trans hsv) (k := q1) ek (by omega) (Nat.le_of_ble_eq_true rfl) (v := sv q1) rfl dX8_restore_17 ?_
    refine lv_if_ne (tgt := 24) F.1 F.2.1 dX8_restore_18 (by decide) (fun c3 => ?_) (fun c3 => ?_)
    · refine lv_aload_n F.1 F.2.1 dX8_restore_24 rfl (lv_at hl 0 rfl) ?_
      refine w_callv F hP hS (c_X8_remembers l D Y ad N hI C o hh (nI nn) gr r s0 k0 hk0 hs pa hpa hhs) (cwVm 0 F.2.2.2.2.1 (fun _ h => h) mw_187 mw_184 mw_185 mw_186 mw_5 rfl rfl ydX8_remembers ⟨by decide, by decide⟩) (by omega) mW_o rfl rfl hl.1 rfl (Nat.le_of_ble_eq_true rfl) dX8_restore_25 ⟨Nat.zero_le _, Nat.zero_le _⟩ (fun Kq H locs hq hP hS => ?_)
      obtain ⟨pa2, hqw, hh2⟩ := hq
      subst hqw
      refine lv_iconst (v := 0) F.1 F.2.1 dX8_restore_28 (by decide) ?_
      refine lv_istore_n (lv' := [(2, .int (0)), (0, .ref (ad o)), (1, .int (x))]) F.1 F.2.1 dX8_restore_29 rfl hl (by decide) rfl (fun ls hl => ?_)
      have hsv1 : ¬ sv q1 = 0 := c3
      refine w_loop (Inv := fun j ls C' => ∃ (k : Nat) (rk : Nat → Int32), j = 161 - k ∧ k ≤ 161 ∧ lv_has ls 3 [(2, .int (nI k)), (0, .ref (ad o)), (1, .int x)] ∧ C' = mW Y ad (va_up C (o + 2) (pA Y pa2)) o (nI (K_rec k0)) (nI nn) gr 0 rk s0 ∧ ∀ j, j < k → rk j = sl q1 j) ?_ 161 ⟨0, r, rfl, by decide, lv_sub hl [0, 1, 2] rfl, rfl, fun j hj => absurd hj (Nat.not_lt_zero _)⟩ hP hS
      intro j ih H locs ls K0 hInv hP hS
      obtain ⟨k, rk, hj, hk, hl, rfl, hW⟩ := hInv
      refine lv_iload_n F.1 F.2.1 dX8_restore_30 rfl (lv_at hl 0 rfl) ?_
      refine lv_sipush (v := 161) F.1 F.2.1 dX8_restore_31 (by decide) ?_
      refine lv_icmp_ge (tgt := 61) F.1 F.2.1 dX8_restore_34 (by decide) (fun c4 => ?_) (fun c4 => ?_)
      · obtain rfl : k = 161 := Nat.le_antisymm hk (Nat.le_of_not_lt (fun z => nI_ge (b := 161) z (by decide) c4))
        rw [mW_cong hW] at hP
        refine lv_aload_n F.1 F.2.1 dX8_restore_61 rfl (lv_at hl 1 rfl) ?_
        refine gf_X8_7 F hP (by omega) mW_o (v := .ref (ad (o + 1))) rfl dX8_restore_62 ?_
        refine lv_iconst (v := 4) F.1 F.2.1 dX8_restore_65 (by decide) ?_
        refine w_iald F hP (by omega) mW_s (k := 4) rfl (by omega) (Nat.le_of_ble_eq_true rfl) (v := (sl q1) 4) (put_at (k := 4) (by omega) (by omega)) dX8_restore_66 ?_
        exact w_iret F hr hlocks hP hS dX8_restore_67 ⟨fun _ => ⟨by rw [ecl], by rw [ecl]; exact mdl_rec hk0 hn80 hh2 hsl hsls hsv hpdd, mfr_1 (by omega) (by omega)⟩, fun q => absurd (by unfold T_ree; rw [if_pos (s01.mp (b_t hq1r c2)), ecl, if_neg hsv1]) q⟩
      · have hk1 : k < 161 := Nat.lt_of_not_le (fun q => c4 (nI_le (a := 161) q (by omega)))
        refine lv_aload_n F.1 F.2.1 dX8_restore_37 rfl (lv_at hl 1 rfl) ?_
        refine gf_X8_7 F hP (by omega) mW_o (v := .ref (ad (o + 1))) rfl dX8_restore_38 ?_
        refine lv_iload_n F.1 F.2.1 dX8_restore_41 rfl (lv_at hl 0 rfl) ?_
        refine lv_aload_n F.1 F.2.1 dX8_restore_42 rfl (lv_at hl 1 rfl) ?_
        refine gf_X8_16 F hP (by omega) mW_o (v := .ref (ad (o + 3))) rfl dX8_restore_43 ?_
        refine lv_sipush (v := 161) F.1 F.2.1 dX8_restore_46 (by decide) ?_
        refine lv_iload_n F.1 F.2.1 dX8_restore_49 rfl (lv_at hl 2 rfl) ?_
        refine lv_imul F.1 F.2.1 dX8_restore_50 ?_
        refine lv_iload_n F.1 F.2.1 dX8_restore_51 rfl (lv_at hl 0 rfl) ?_
        refine lv_iadd F.1 F.2.1 dX8_restore_52 ?_
        refine w_iald F hP (by omega) ((mW_x (by omega) (by omega)).trans ((va_up_ne _ _ (by omega)).trans hsl)) (k := 161 * q1 + k) (ix_add (X := 161 * q1) (Y := k) (Z := 161 * q1 + k) (ix_mul (X := 161) (Y := q1) rfl ek) rfl (by omega)) (by omega) (Nat.le_of_ble_eq_true rfl) (v := sl q1 k) (hsls q1 k (by omega) hk1 hsv1) dX8_restore_53 ?_
        refine lv_topi (fun v5 ev5 => ?_)
        refine w_iast F hI hP hS (by omega) mW_s (k := k) rfl (by omega) (Nat.le_of_ble_eq_true rfl) (C1 := mW Y ad (va_up C (o + 2) (pA Y pa2)) o (nI (K_rec k0)) (nI nn) gr 0 (upd rk k v5) s0) (fun q => congrFun (mW_upds (k := k) (by omega) (by omega)) q) dX8_restore_54 (fun H locs hP hS => ?_)
        refine lv_iinc (v := (nI k) + 1) (lv' := [(2, .int ((nI k) + 1)), (0, .ref (ad o)), (1, .int (x))]) F.1 F.2.1 dX8_restore_55 hl (k := 0) rfl rfl (by decide) rfl (fun ls hl => ?_)
        refine lv_goto (tgt := 30) F.1 F.2.1 dX8_restore_58 (by decide) ?_
        exact ih _ (by omega) _ _ _ _ ⟨k + 1, _, rfl, by omega, (by rw [nI_succ]; exact lv_sub hl [0, 1, 2] rfl), rfl, fun j hj => (by by_cases a : j = k; (subst a; rw [upd_s]; exact ev5); (rw [upd_n a]; exact hW j (by omega)))⟩ hP hS
    · refine lv_bipush (v := (-5)) F.1 F.2.1 dX8_restore_21 (by decide) ?_
      exact w_iret F hr hlocks hP hS dX8_restore_23 ⟨fun q => absurd q (by unfold T_ree; rw [if_pos (s01.mp (b_t hq1r c2)), ecl, if_pos c3]; decide), fun _ => ⟨by unfold T_ree; rw [if_pos (s01.mp (b_t hq1r c2)), ecl, if_pos c3], mdl_mk hk0 hn80 hpa hhs hsl hsls hsv hpdd, mfr_0⟩⟩
  · refine lv_bipush (v := (-2)) F.1 F.2.1 dX8_restore_9 (by decide) ?_
    exact w_iret F hr hlocks hP hS dX8_restore_11 ⟨fun q => absurd q (by unfold T_ree; rw [if_neg (fun z => (b_f hq1r c2) (s01.mpr z))]; decide), fun _ => ⟨by unfold T_ree; rw [if_neg (fun z => (b_f hq1r c2) (s01.mpr z))], mdl_mk hk0 hn80 hpa hhs hsl hsls hsv hpdd, mfr_0⟩⟩
theorem cm_X8_restore (l : Launch) (D : va_G) (Y : Nat → ClassId) (ad : Nat → Nat) (N : Nat) (hI : wI ad N) (C : Nat → va_E) (o : Nat) (hh : o + 6 ≤ N) (f : Nat → Int32) (hs : Nat → Nat → Int32) (kn : Nat) (sl : Nat → Nat → Int32) (sv pd : Nat → Int32) (n : Nat) (hA : mdlA Y ad C o f hs kn sl sv pd n) (x : Int32) : Met l yX8_restore (wm yX8_restore cX8_restore 3 (some .int)) { frames := 1, cells := 0, slots := 0, locals := 22 } (wPc D Y ad N [.ref (ad o), .int (x)] C) (wQi D ad N (fun q C' => (T_ree sv x = 0 → q = sl x.toNatClampNeg 4 ∧ mdlA Y ad C' o (sl x.toNatClampNeg) (H_rec f hs kn) (K_rec kn) sl sv pd n ∧ ∀ j, j < o ∨ o + 6 ≤ j → C' j = C j) ∧ (¬ T_ree sv x = 0 → q = T_ree sv x ∧ mdlA Y ad C' o f hs kn sl sv pd n ∧ ∀ j, j < o ∨ o + 6 ≤ j → C' j = C j))) 0 0 (wA ad N) := by
  obtain ⟨s0, pa, sla, gr, h1, h2, h3, h4, h5, h6, h7, h8, h9, h10⟩ := hA
  have h := c_X8_restore l D Y ad N hI C o hh gr f s0 kn h3 hs pa h5 h6 sl sla sv h7 h8 h9 pd n h4 h10 x
  rw [← mW_id h1 h2] at h
  exact h
