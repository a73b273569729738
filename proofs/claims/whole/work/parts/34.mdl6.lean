/-! HoopStairsModel: the text -/
def M_sg (pd : Nat → Int32) (n a : Nat) : Int32 := if a < n then pd a else -1
def M_dg (pd : Nat → Int32) (n a : Nat) : Int32 := if isDg (chr_ pd n a) then chr_ pd n a - 48 else -1
theorem sg_eq {pd : Nat → Int32} {n a : Nat} {c : Int32} (h0 : c ≠ 0) (h1 : c ≠ -1) : M_sg pd n a = c ↔ chr_ pd n a = c := by
  unfold M_sg chr_
  by_cases q : a < n
  · rw [if_pos q, if_pos q]
  · rw [if_neg q, if_neg q]
    exact ⟨fun z => absurd z.symm h1, fun z => absurd z.symm h0⟩
theorem sg_dg {pd : Nat → Int32} {n a : Nat} : (48 ≤ M_sg pd n a ∧ M_sg pd n a ≤ 57) ↔ isDg (chr_ pd n a) := by
  unfold M_sg chr_ isDg
  by_cases q : a < n
  · rw [if_pos q, if_pos q]
  · rw [if_neg q, if_neg q]
    exact ⟨fun z => absurd z.1 (by decide), fun z => absurd z.1 (by decide)⟩
theorem sg_is {pd : Nat → Int32} {n a : Nat} (h : isDg (chr_ pd n a)) : M_sg pd n a = chr_ pd n a := by
  unfold M_sg chr_
  rw [if_pos (dg_lt h), if_pos (dg_lt h)]
theorem dg_48 {x : Int32} (h : isDg x) : 0 ≤ (x - 48).toInt ∧ (x - 48).toInt ≤ 9 := by
  have a := Int32.le_iff_toInt_le.mp h.1
  have b := Int32.le_iff_toInt_le.mp h.2
  have t : (48 : Int32).toInt = 48 := rfl
  have u : (57 : Int32).toInt = 57 := rfl
  rw [i_sub (by omega) (by omega)]; omega
theorem dg_is {pd : Nat → Int32} {n a : Nat} (h : isDg (chr_ pd n a)) : M_dg pd n a = chr_ pd n a - 48 := if_pos h
theorem dg_no {pd : Nat → Int32} {n a : Nat} (h : ¬ isDg (chr_ pd n a)) : M_dg pd n a = -1 := if_neg h
theorem dg_nn {pd : Nat → Int32} {n a : Nat} : ¬ M_dg pd n a < 0 ↔ isDg (chr_ pd n a) := by
  constructor
  · intro h
    by_cases q : isDg (chr_ pd n a)
    · exact q
    · rw [dg_no q] at h; exact absurd (by decide) h
  · intro q h
    rw [dg_is q] at h
    have := (dg_48 q).1
    have z : (0 : Int32).toInt = 0 := rfl
    have := Int32.lt_iff_toInt_lt.mp h
    omega
theorem dg_pos {pd : Nat → Int32} {n a : Nat} (q : isDg (chr_ pd n a)) : M_dg pd n a ≤ 0 ↔ chr_ pd n a - 48 = 0 := by
  rw [dg_is q]
  have h := (dg_48 q).1
  have z : (0 : Int32).toInt = 0 := rfl
  constructor
  · intro k
    have := Int32.le_iff_toInt_le.mp k
    exact Int32.toInt_inj.mp (by omega)
  · intro k; rw [k]; exact Int32.le_refl _
theorem m1_nI (a : Nat) (h : a < 1000) : -1 - nI a < 0 := by
  have e : (nI a).toInt = a := nI_toInt (by omega)
  have t : (-1 : Int32).toInt = -1 := rfl
  have z : (0 : Int32).toInt = 0 := rfl
  rw [Int32.lt_iff_toInt_lt, i_sub (by omega) (by omega)]; omega
theorem m1_back (a : Nat) : -1 - (-1 - nI a) = nI a := by
  rw [Int32.sub_eq_add_neg, Int32.neg_sub, Int32.sub_eq_add_neg, ← Int32.add_assoc, Int32.add_comm (-1), Int32.add_assoc, Int32.add_right_neg, Int32.add_zero]
theorem m2_nI (a : Nat) : -2 - nI a = -1 - nI (a + 1) := by
  rw [nI_succ, Int32.sub_eq_add_neg, Int32.sub_eq_add_neg, Int32.neg_add, Int32.sub_eq_add_neg, ← Int32.add_assoc, Int32.add_comm (-1 + -nI a), ← Int32.add_assoc]
  rfl
section OE
variable {pd : Nat → Int32} {n a : Nat}
theorem oe_1 (h : chr_ pd n a = 33 ∨ chr_ pd n a = 60 ∨ chr_ pd n a = 62) : P_ok pd n a ∧ P_end pd n a = a + 1 := by
  unfold P_ok P_end
  rcases h with h | h | h <;> rw [h] <;> exact ⟨trivial, rfl⟩
theorem oe_d (h : chr_ pd n a = 100 ∨ chr_ pd n a = 108) : (P_ok pd n a ↔ isDg (chr_ pd n (a + 1))) ∧ P_end pd n a = (if isDg (chr_ pd n (a + 1)) then a + 2 else a + 1) ∧ P_no pd n a = chr_ pd n (a + 1) - 48 := by
  unfold P_ok P_end P_no
  rcases h with h | h <;> rw [h] <;> exact ⟨Iff.rfl, rfl, rfl⟩
theorem oe_g (h : chr_ pd n a = 103 ∨ chr_ pd n a = 104) : (P_ok pd n a ↔ isDg (chr_ pd n (a + 1))) ∧ P_end pd n a = N_end pd n (a + 1) ∧ P_no pd n a = N_val pd n (a + 1) := by
  unfold P_ok P_end P_no
  rcases h with h | h <;> rw [h] <;> exact ⟨Iff.rfl, rfl, rfl⟩
theorem oe_r (h : chr_ pd n a = 114) : P_ok pd n a ∧ P_end pd n a = (if isDg (chr_ pd n (a + 1)) then N_end pd n (a + 1) else a + 1) ∧ P_no pd n a = (if isDg (chr_ pd n (a + 1)) then N_val pd n (a + 1) else 1) := by
  unfold P_ok P_end P_no
  rw [h]; exact ⟨trivial, rfl, rfl⟩
theorem oe_x (h1 : ¬ chr_ pd n a = 33) (h2 : ¬ chr_ pd n a = 60) (h3 : ¬ chr_ pd n a = 62) (h4 : ¬ chr_ pd n a = 100) (h5 : ¬ chr_ pd n a = 103) (h6 : ¬ chr_ pd n a = 104) (h7 : ¬ chr_ pd n a = 108) (h8 : ¬ chr_ pd n a = 114) : ¬ P_ok pd n a ∧ P_end pd n a = a := by
  unfold P_ok P_end
  rw [if_neg h1, if_neg h2, if_neg h3, if_neg h4, if_neg h5, if_neg h6, if_neg h7, if_neg h8, if_neg h1, if_neg h2, if_neg h3, if_neg h4, if_neg h5, if_neg h6, if_neg h7, if_neg h8]
  exact ⟨id, rfl⟩
theorem n_end_1 (h : isDg (chr_ pd n a)) (h2 : M_dg pd n a ≤ 0 ∨ M_dg pd n (a + 1) < 0) : N_end pd n a = a + 1 := by
  unfold N_end
  rw [if_pos h]
  by_cases z : chr_ pd n a - 48 = 0
  · rw [if_pos z]
  · rw [if_neg z]
    rcases h2 with q | q
    · exact absurd ((dg_pos h).mp q) z
    · rw [if_neg (fun t => dg_nn.mpr t q)]
theorem n_end_2 (h : isDg (chr_ pd n a)) (h2 : ¬ M_dg pd n a ≤ 0) (h3 : ¬ M_dg pd n (a + 1) < 0) : N_end pd n a = a + 2 := by
  unfold N_end
  rw [if_pos h, if_neg (fun z => h2 ((dg_pos h).mpr z)), if_pos (dg_nn.mp h3)]
theorem n_val_1 (h : isDg (chr_ pd n a)) (h2 : N_end pd n a = a + 1) : N_val pd n a = M_dg pd n a := by
  unfold N_end at h2
  unfold N_val
  rw [if_pos h] at h2
  rw [dg_is h]
  by_cases z : chr_ pd n a - 48 = 0
  · rw [if_pos z]
  · rw [if_neg z] at h2 ⊢
    by_cases d : isDg (chr_ pd n (a + 1))
    · rw [if_pos d] at h2; omega
    · rw [if_neg d]
theorem n_val_2 (h : isDg (chr_ pd n a)) (h2 : ¬ N_end pd n a = a + 1) : N_val pd n a = 10 * M_dg pd n a + M_dg pd n (a + 1) := by
  unfold N_end at h2
  unfold N_val
  rw [if_pos h] at h2
  by_cases z : chr_ pd n a - 48 = 0
  · rw [if_pos z] at h2; exact absurd rfl h2
  · rw [if_neg z] at h2 ⊢
    by_cases d : isDg (chr_ pd n (a + 1))
    · rw [if_pos d, dg_is h, dg_is d, Int32.mul_comm, Int32.sub_eq_add_neg (_ + _), Int32.add_assoc, ← Int32.sub_eq_add_neg]
    · rw [if_neg d] at h2; exact absurd rfl h2
end OE
set_option maxRecDepth 20000 in
set_option maxHeartbeats 4000000 in
/-- a sign -/
theorem c_X8_sign (l : Launch) (D : va_G) (Y : Nat → ClassId) (ad : Nat → Nat) (N : Nat) (hI : wI ad N) (C : Nat → va_E) (o : Nat) (hh : o + 6 ≤ N) (kn gr : Int32) (r s0 : Nat → Int32) (pd : Nat → Int32) (nn : Nat) (hn80 : nn ≤ 80) (hpdd : C (o + 5) = .inl (Y 0, 80, .inl pd)) (a : Nat) (ha : a ≤ 100) (x : Int32) (ex : x = nI a) : Met l yX8_sign (wm yX8_sign cX8_sign 2 (some .int)) { frames := 0, cells := 0, slots := 0, locals := 0 } (wPc D Y ad N [.ref (ad o), .int (x)] (mW Y ad C o kn (nI nn) gr 0 r s0)) (wQi D ad N (fun q C' => C' = mW Y ad C o kn (nI nn) gr 0 r s0 ∧ q = M_sg pd nn a)) 0 0 (wA ad N) := by
  refine wMet RX8 rfl (by decide +kernel) (Nat.le_of_ble_eq_true rfl) (lv := [(0, .ref (ad o)), (1, .int (x))]) rfl ?_
  intro p e s m below meth c ls F hr hlocks hP hl
  have hS : va_S (wA ad N) s.heap s.heap [] := va_S.rf
  refine lv_iload_n F.1 F.2.1 dX8_sign_0 rfl (lv_at hl 1 rfl) ?_
  refine lv_aload_n F.1 F.2.1 dX8_sign_1 rfl (lv_at hl 0 rfl) ?_
  refine gf_X8_106 F hP (by omega) mW_o (v := .int (nI nn)) rfl dX8_sign_2 ?_
  refine lv_icmp_ge (tgt := 17) F.1 F.2.1 dX8_sign_5 (by decide) (fun c1 => ?_) (fun c1 => ?_)
  · refine lv_iconst (v := (-1)) F.1 F.2.1 dX8_sign_17 (by decide) ?_
    exact w_iret F hr hlocks hP hS dX8_sign_18 ⟨rfl, (if_neg (fun q => nI_ge q (by omega) (by rw [← ex]; exact c1))).symm⟩
  · have hlt : a < nn := Nat.lt_of_not_le (fun q => c1 (by rw [ex]; exact nI_le q (by omega)))
    refine lv_aload_n F.1 F.2.1 dX8_sign_8 rfl (lv_at hl 0 rfl) ?_
    refine gf_X8_23 F hP (by omega) mW_o (v := .ref (ad (o + 5))) rfl dX8_sign_9 ?_
    refine lv_iload_n F.1 F.2.1 dX8_sign_12 rfl (lv_at hl 1 rfl) ?_
    refine w_iald F hP (by omega) ((mW_x (by omega) (by omega)).trans hpdd) (k := a) ex (by have := hlt; omega) (Nat.le_of_ble_eq_true rfl) (v := pd a) rfl dX8_sign_13 ?_
    refine lv_goto (tgt := 18) F.1 F.2.1 dX8_sign_14 (by decide) ?_
    exact w_iret F hr hlocks hP hS dX8_sign_18 ⟨rfl, (if_pos hlt).symm⟩
set_option maxRecDepth 20000 in
set_option maxHeartbeats 4000000 in
/-- a digit -/
theorem c_X8_digit (l : Launch) (D : va_G) (Y : Nat → ClassId) (ad : Nat → Nat) (N : Nat) (hI : wI ad N) (C : Nat → va_E) (o : Nat) (hh : o + 6 ≤ N) (kn gr : Int32) (r s0 : Nat → Int32) (pd : Nat → Int32) (nn : Nat) (hn80 : nn ≤ 80) (hpdd : C (o + 5) = .inl (Y 0, 80, .inl pd)) (a : Nat) (ha : a ≤ 100) (x : Int32) (ex : x = nI a) : Met l yX8_digit (wm yX8_digit cX8_digit 2 (some .int)) { frames := 1, cells := 0, slots := 0, locals := 22 } (wPc D Y ad N [.ref (ad o), .int (x)] (mW Y ad C o kn (nI nn) gr 0 r s0)) (wQi D ad N (fun q C' => C' = mW Y ad C o kn (nI nn) gr 0 r s0 ∧ q = M_dg pd nn a)) 0 0 (wA ad N) := by
  refine wMet RX8 rfl (by decide +kernel) (Nat.le_of_ble_eq_true rfl) (lv := [(0, .ref (ad o)), (1, .int (x))]) rfl ?_
  intro p e s m below meth c ls F hr hlocks hP hl
  have hS : va_S (wA ad N) s.heap s.heap [] := va_S.rf
  refine lv_aload_n F.1 F.2.1 dX8_digit_0 rfl (lv_at hl 0 rfl) ?_
  refine lv_iload_n F.1 F.2.1 dX8_digit_1 rfl (lv_at hl 1 rfl) ?_
  refine w_calli F hP hS (c_X8_sign l D Y ad N hI C o hh kn gr r s0 pd nn hn80 hpdd a (by omega) x ex ) (cwVm 1 F.2.2.2.2.1 (fun _ h => h) mw_631 mw_628 mw_629 mw_630 mw_5 rfl rfl ydX8_sign ⟨by decide, by decide⟩) (by omega) mW_o rfl rfl hl.1 rfl (Nat.le_of_ble_eq_true rfl) dX8_digit_2 ⟨Nat.zero_le _, Nat.zero_le _⟩ (fun rq1 Kq1 H locs hq1 hP hS => ?_)
  obtain ⟨hq1w, hq1r⟩ := hq1; subst hq1w hq1r
  refine lv_bipush (v := 48) F.1 F.2.1 dX8_digit_5 (by decide) ?_
  refine lv_bipush (v := 57) F.1 F.2.1 dX8_digit_7 (by decide) ?_
  refine w_calls F hP hS (c_X8_in l D Y ad N hI _ (M_sg pd nn a) 48 57) (cwSm 3 F.2.2.2.2.1 (fun _ h => h) mw_183 mw_181 mw_182 mw_5 rfl rfl ydX8_in ⟨by decide, by decide⟩) rfl hl.1 rfl (Nat.le_of_ble_eq_true rfl) dX8_digit_9 ⟨Nat.zero_le _, Nat.zero_le _⟩ (fun rq2 Kq2 H locs hq2 hP hS => ?_)
  obtain ⟨hq2w, hq2r⟩ := hq2; rw [hq2w] at hP
  refine lv_if_eq (tgt := 26) F.1 F.2.1 dX8_digit_12 (by decide) (fun c3 => ?_) (fun c3 => ?_)
  · refine lv_iconst (v := (-1)) F.1 F.2.1 dX8_digit_26 (by decide) ?_
    exact w_iret F hr hlocks hP hS dX8_digit_27 ⟨rfl, (dg_no (fun q => (b_f hq2r c3) (sg_dg.mpr q))).symm⟩
  · refine lv_aload_n F.1 F.2.1 dX8_digit_15 rfl (lv_at hl 0 rfl) ?_
    refine lv_iload_n F.1 F.2.1 dX8_digit_16 rfl (lv_at hl 1 rfl) ?_
    refine w_calli F hP hS (c_X8_sign l D Y ad N hI C o hh kn gr r s0 pd nn hn80 hpdd a (by omega) x ex ) (cwVm 1 F.2.2.2.2.1 (fun _ h => h) mw_631 mw_628 mw_629 mw_630 mw_5 rfl rfl ydX8_sign ⟨by decide, by decide⟩) (by omega) mW_o rfl rfl hl.1 rfl (Nat.le_of_ble_eq_true rfl) dX8_digit_17 ⟨Nat.zero_le _, Nat.zero_le _⟩ (fun rq4 Kq4 H locs hq4 hP hS => ?_)
    obtain ⟨hq4w, hq4r⟩ := hq4; subst hq4w hq4r
    refine lv_bipush (v := 48) F.1 F.2.1 dX8_digit_20 (by decide) ?_
    refine lv_isub F.1 F.2.1 dX8_digit_22 ?_
    refine lv_goto (tgt := 27) F.1 F.2.1 dX8_digit_23 (by decide) ?_
    exact w_iret F hr hlocks hP hS dX8_digit_27 ⟨rfl, by rw [dg_is (sg_dg.mp (b_t hq2r c3)), sg_is (sg_dg.mp (b_t hq2r c3))]⟩
set_option maxRecDepth 20000 in
set_option maxHeartbeats 4000000 in
/-- where a number ends -/
theorem c_X8_numberEnd (l : Launch) (D : va_G) (Y : Nat → ClassId) (ad : Nat → Nat) (N : Nat) (hI : wI ad N) (C : Nat → va_E) (o : Nat) (hh : o + 6 ≤ N) (kn gr : Int32) (r s0 : Nat → Int32) (pd : Nat → Int32) (nn : Nat) (hn80 : nn ≤ 80) (hpdd : C (o + 5) = .inl (Y 0, 80, .inl pd)) (a : Nat) (ha : a ≤ 99) (x : Int32) (ex : x = nI a) : Met l yX8_numberEnd (wm yX8_numberEnd cX8_numberEnd 2 (some .int)) { frames := 2, cells := 0, slots := 0, locals := 43 } (wPc D Y ad N [.ref (ad o), .int (x)] (mW Y ad C o kn (nI nn) gr 0 r s0)) (wQi D ad N (fun q C' => C' = mW Y ad C o kn (nI nn) gr 0 r s0 ∧ q = if isDg (chr_ pd nn a) then nI (N_end pd nn a) else -1 - nI a)) 0 0 (wA ad N) := by
  refine wMet RX8 rfl (by decide +kernel) (Nat.le_of_ble_eq_true rfl) (lv := [(0, .ref (ad o)), (1, .int (x))]) rfl ?_
  intro p e s m below meth c ls F hr hlocks hP hl
  have hS : va_S (wA ad N) s.heap s.heap [] := va_S.rf
  refine lv_aload_n F.1 F.2.1 dX8_numberEnd_0 rfl (lv_at hl 0 rfl) ?_
  refine lv_iload_n F.1 F.2.1 dX8_numberEnd_1 rfl (lv_at hl 1 rfl) ?_
  refine w_calli F hP hS (c_X8_digit l D Y ad N hI C o hh kn gr r s0 pd nn hn80 hpdd a (by omega) x ex ) (cwVm 1 F.2.2.2.2.1 (fun _ h => h) mw_635 mw_632 mw_633 mw_634 mw_5 rfl rfl ydX8_digit ⟨by decide, by decide⟩) (by omega) mW_o rfl rfl hl.1 rfl (Nat.le_of_ble_eq_true rfl) dX8_numberEnd_2 ⟨Nat.zero_le _, Nat.zero_le _⟩ (fun rq1 Kq1 H locs hq1 hP hS => ?_)
  obtain ⟨hq1w, hq1r⟩ := hq1; subst hq1w hq1r
  refine lv_if_ge (tgt := 12) F.1 F.2.1 dX8_numberEnd_5 (by decide) (fun c2 => ?_) (fun c2 => ?_)
  · refine lv_aload_n F.1 F.2.1 dX8_numberEnd_12 rfl (lv_at hl 0 rfl) ?_
    refine lv_iload_n F.1 F.2.1 dX8_numberEnd_13 rfl (lv_at hl 1 rfl) ?_
    refine w_calli F hP hS (c_X8_digit l D Y ad N hI C o hh kn gr r s0 pd nn hn80 hpdd a (by omega) x ex ) (cwVm 1 F.2.2.2.2.1 (fun _ h => h) mw_635 mw_632 mw_633 mw_634 mw_5 rfl rfl ydX8_digit ⟨by decide, by decide⟩) (by omega) mW_o rfl rfl hl.1 rfl (Nat.le_of_ble_eq_true rfl) dX8_numberEnd_14 ⟨Nat.zero_le _, Nat.zero_le _⟩ (fun rq3 Kq3 H locs hq3 hP hS => ?_)
    obtain ⟨hq3w, hq3r⟩ := hq3; subst hq3w hq3r
    refine lv_if_le (tgt := 36) F.1 F.2.1 dX8_numberEnd_17 (by decide) (fun c4 => ?_) (fun c4 => ?_)
    · refine lv_iload_n F.1 F.2.1 dX8_numberEnd_36 rfl (lv_at hl 1 rfl) ?_
      refine lv_iconst (v := 1) F.1 F.2.1 dX8_numberEnd_37 (by decide) ?_
      refine lv_iadd F.1 F.2.1 dX8_numberEnd_38 ?_
      exact w_iret F hr hlocks hP hS dX8_numberEnd_39 ⟨rfl, by rw [if_pos (dg_nn.mp (i_nlt c2)), n_end_1 (dg_nn.mp (i_nlt c2)) (Or.inl c4), ex, nI_succ]⟩
    · refine lv_aload_n F.1 F.2.1 dX8_numberEnd_20 rfl (lv_at hl 0 rfl) ?_
      refine lv_iload_n F.1 F.2.1 dX8_numberEnd_21 rfl (lv_at hl 1 rfl) ?_
      refine lv_iconst (v := 1) F.1 F.2.1 dX8_numberEnd_22 (by decide) ?_
      refine lv_iadd F.1 F.2.1 dX8_numberEnd_23 ?_
      refine w_calli F hP hS (c_X8_digit l D Y ad N hI C o hh kn gr r s0 pd nn hn80 hpdd (a + 1) (by omega) (x + 1) (ix_add (X := a) (Y := 1) (Z := a + 1) ex rfl (by omega)) ) (cwVm 1 F.2.2.2.2.1 (fun _ h => h) mw_635 mw_632 mw_633 mw_634 mw_5 rfl rfl ydX8_digit ⟨by decide, by decide⟩) (by omega) mW_o rfl rfl hl.1 rfl (Nat.le_of_ble_eq_true rfl) dX8_numberEnd_24 ⟨Nat.zero_le _, Nat.zero_le _⟩ (fun rq5 Kq5 H locs hq5 hP hS => ?_)
      obtain ⟨hq5w, hq5r⟩ := hq5; subst hq5w hq5r
      refine lv_if_lt (tgt := 36) F.1 F.2.1 dX8_numberEnd_27 (by decide) (fun c6 => ?_) (fun c6 => ?_)
      · refine lv_iload_n F.1 F.2.1 dX8_numberEnd_36 rfl (lv_at hl 1 rfl) ?_
        refine lv_iconst (v := 1) F.1 F.2.1 dX8_numberEnd_37 (by decide) ?_
        refine lv_iadd F.1 F.2.1 dX8_numberEnd_38 ?_
        exact w_iret F hr hlocks hP hS dX8_numberEnd_39 ⟨rfl, by rw [if_pos (dg_nn.mp (i_nlt c2)), n_end_1 (dg_nn.mp (i_nlt c2)) (Or.inr c6), ex, nI_succ]⟩
      · refine lv_iload_n F.1 F.2.1 dX8_numberEnd_30 rfl (lv_at hl 1 rfl) ?_
        refine lv_iconst (v := 2) F.1 F.2.1 dX8_numberEnd_31 (by decide) ?_
        refine lv_iadd F.1 F.2.1 dX8_numberEnd_32 ?_
        refine lv_goto (tgt := 39) F.1 F.2.1 dX8_numberEnd_33 (by decide) ?_
        exact w_iret F hr hlocks hP hS dX8_numberEnd_39 ⟨rfl, by rw [if_pos (dg_nn.mp (i_nlt c2)), n_end_2 (dg_nn.mp (i_nlt c2)) c4 c6, ex]; exact nI_add a 2⟩
  · refine lv_iconst (v := (-1)) F.1 F.2.1 dX8_numberEnd_8 (by decide) ?_
    refine lv_iload_n F.1 F.2.1 dX8_numberEnd_9 rfl (lv_at hl 1 rfl) ?_
    refine lv_isub F.1 F.2.1 dX8_numberEnd_10 ?_
    exact w_iret F hr hlocks hP hS dX8_numberEnd_11 ⟨rfl, by rw [if_neg (fun q => dg_nn.mpr q (i_lt c2)), ex]⟩
theorem N_end_b (pd : Nat → Int32) (n a : Nat) : N_end pd n a ≤ a + 2 := by
  unfold N_end
  by_cases h : isDg (chr_ pd n a)
  · rw [if_pos h]
    by_cases h2 : chr_ pd n a - 48 = 0
    · rw [if_pos h2]; omega
    · rw [if_neg h2]
      by_cases h3 : isDg (chr_ pd n (a + 1))
      · rw [if_pos h3]; omega
      · rw [if_neg h3]; omega
  · rw [if_neg h]; omega
set_option maxRecDepth 20000 in
set_option maxHeartbeats 4000000 in
/-- a number -/
theorem c_X8_numberAt (l : Launch) (D : va_G) (Y : Nat → ClassId) (ad : Nat → Nat) (N : Nat) (hI : wI ad N) (C : Nat → va_E) (o : Nat) (hh : o + 6 ≤ N) (kn gr : Int32) (r s0 : Nat → Int32) (pd : Nat → Int32) (nn : Nat) (hn80 : nn ≤ 80) (hpdd : C (o + 5) = .inl (Y 0, 80, .inl pd)) (a : Nat) (ha : a ≤ 99) (x : Int32) (ex : x = nI a) (hdg : isDg (chr_ pd nn a)) : Met l yX8_numberAt (wm yX8_numberAt cX8_numberAt 2 (some .int)) { frames := 3, cells := 0, slots := 0, locals := 64 } (wPc D Y ad N [.ref (ad o), .int (x)] (mW Y ad C o kn (nI nn) gr 0 r s0)) (wQi D ad N (fun q C' => C' = mW Y ad C o kn (nI nn) gr 0 r s0 ∧ q = N_val pd nn a)) 0 0 (wA ad N) := by
  refine wMet RX8 rfl (by decide +kernel) (Nat.le_of_ble_eq_true rfl) (lv := [(0, .ref (ad o)), (1, .int (x))]) rfl ?_
  intro p e s m below meth c ls F hr hlocks hP hl
  have hS : va_S (wA ad N) s.heap s.heap [] := va_S.rf
  refine lv_aload_n F.1 F.2.1 dX8_numberAt_0 rfl (lv_at hl 0 rfl) ?_
  refine lv_iload_n F.1 F.2.1 dX8_numberAt_1 rfl (lv_at hl 1 rfl) ?_
  refine w_calli F hP hS (c_X8_numberEnd l D Y ad N hI C o hh kn gr r s0 pd nn hn80 hpdd a (by omega) x ex ) (cwVm 1 F.2.2.2.2.1 (fun _ h => h) mw_639 mw_636 mw_637 mw_638 mw_5 rfl rfl ydX8_numberEnd ⟨by decide, by decide⟩) (by omega) mW_o rfl rfl hl.1 rfl (Nat.le_of_ble_eq_true rfl) dX8_numberAt_2 ⟨Nat.zero_le _, Nat.zero_le _⟩ (fun rq1 Kq1 H locs hq1 hP hS => ?_)
  obtain ⟨hq1w, hq1r⟩ := hq1; subst hq1w hq1r
  refine lv_topi (fun v2 ev2 => ?_)
  have ev2 : v2 = nI (N_end pd nn a) := ev2.trans (if_pos hdg)
  subst ev2
  refine lv_iload_n F.1 F.2.1 dX8_numberAt_5 rfl (lv_at hl 1 rfl) ?_
  refine lv_iconst (v := 1) F.1 F.2.1 dX8_numberAt_6 (by decide) ?_
  refine lv_iadd F.1 F.2.1 dX8_numberAt_7 ?_
  refine lv_icmp_ne (tgt := 19) F.1 F.2.1 dX8_numberAt_8 (by decide) (fun c3 => ?_) (fun c3 => ?_)
  · refine lv_bipush (v := 10) F.1 F.2.1 dX8_numberAt_19 (by decide) ?_
    refine lv_aload_n F.1 F.2.1 dX8_numberAt_21 rfl (lv_at hl 0 rfl) ?_
    refine lv_iload_n F.1 F.2.1 dX8_numberAt_22 rfl (lv_at hl 1 rfl) ?_
    refine w_calli F hP hS (c_X8_digit l D Y ad N hI C o hh kn gr r s0 pd nn hn80 hpdd a (by omega) x ex ) (cwVm 1 F.2.2.2.2.1 (fun _ h => h) mw_635 mw_632 mw_633 mw_634 mw_5 rfl rfl ydX8_digit ⟨by decide, by decide⟩) (by omega) mW_o rfl rfl hl.1 rfl (Nat.le_of_ble_eq_true rfl) dX8_numberAt_23 ⟨Nat.zero_le _, Nat.zero_le _⟩ (fun rq4 Kq4 H locs hq4 hP hS => ?_)
    obtain ⟨hq4w, hq4r⟩ := hq4; subst hq4w hq4r
    refine lv_imul F.1 F.2.1 dX8_numberAt_26 ?_
    refine lv_aload_n F.1 F.2.1 dX8_numberAt_27 rfl (lv_at hl 0 rfl) ?_
    refine lv_iload_n F.1 F.2.1 dX8_numberAt_28 rfl (lv_at hl 1 rfl) ?_
    refine lv_iconst (v := 1) F.1 F.2.1 dX8_numberAt_29 (by decide) ?_
    refine lv_iadd F.1 F.2.1 dX8_numberAt_30 ?_
    refine w_calli F hP hS (c_X8_digit l D Y ad N hI C o hh kn gr r s0 pd nn hn80 hpdd (a + 1) (by omega) (x + 1) (ix_add (X := a) (Y := 1) (Z := a + 1) ex rfl (by omega)) ) (cwVm 1 F.2.2.2.2.1 (fun _ h => h) mw_635 mw_632 mw_633 mw_634 mw_5 rfl rfl ydX8_digit ⟨by decide, by decide⟩) (by omega) mW_o rfl rfl hl.1 rfl (Nat.le_of_ble_eq_true rfl) dX8_numberAt_31 ⟨Nat.zero_le _, Nat.zero_le _⟩ (fun rq5 Kq5 H locs hq5 hP hS => ?_)
    obtain ⟨hq5w, hq5r⟩ := hq5; subst hq5w hq5r
    refine lv_iadd F.1 F.2.1 dX8_numberAt_34 ?_
    exact w_iret F hr hlocks hP hS dX8_numberAt_35 ⟨rfl, (n_val_2 hdg (fun q => c3 (by rw [q, ex, nI_succ]))).symm⟩
  · refine lv_aload_n F.1 F.2.1 dX8_numberAt_11 rfl (lv_at hl 0 rfl) ?_
    refine lv_iload_n F.1 F.2.1 dX8_numberAt_12 rfl (lv_at hl 1 rfl) ?_
    refine w_calli F hP hS (c_X8_digit l D Y ad N hI C o hh kn gr r s0 pd nn hn80 hpdd a (by omega) x ex ) (cwVm 1 F.2.2.2.2.1 (fun _ h => h) mw_635 mw_632 mw_633 mw_634 mw_5 rfl rfl ydX8_digit ⟨by decide, by decide⟩) (by omega) mW_o rfl rfl hl.1 rfl (Nat.le_of_ble_eq_true rfl) dX8_numberAt_13 ⟨Nat.zero_le _, Nat.zero_le _⟩ (fun rq6 Kq6 H locs hq6 hP hS => ?_)
    obtain ⟨hq6w, hq6r⟩ := hq6; subst hq6w hq6r
    refine lv_goto (tgt := 35) F.1 F.2.1 dX8_numberAt_16 (by decide) ?_
    exact w_iret F hr hlocks hP hS dX8_numberAt_35 ⟨rfl, (n_val_1 hdg (by have q := c3; rw [ex, ← nI_succ] at q; exact (nI_eq (by have := N_end_b pd nn a; omega) (by omega)).mp q)).symm⟩
set_option maxRecDepth 20000 in
set_option maxHeartbeats 4000000 in
/-- where an order ends -/
theorem c_X8_orderEnd (l : Launch) (D : va_G) (Y : Nat → ClassId) (ad : Nat → Nat) (N : Nat) (hI : wI ad N) (C : Nat → va_E) (o : Nat) (hh : o + 6 ≤ N) (kn gr : Int32) (r s0 : Nat → Int32) (pd : Nat → Int32) (nn : Nat) (hn80 : nn ≤ 80) (hpdd : C (o + 5) = .inl (Y 0, 80, .inl pd)) (a : Nat) (ha : a ≤ 98) (x : Int32) (ex : x = nI a) : Met l yX8_orderEnd (wm yX8_orderEnd cX8_orderEnd 2 (some .int)) { frames := 3, cells := 0, slots := 0, locals := 64 } (wPc D Y ad N [.ref (ad o), .int (x)] (mW Y ad C o kn (nI nn) gr 0 r s0)) (wQi D ad N (fun q C' => C' = mW Y ad C o kn (nI nn) gr 0 r s0 ∧ q = if P_ok pd nn a then nI (P_end pd nn a) else -1 - nI (P_end pd nn a))) 0 0 (wA ad N) := by
  refine wMet RX8 rfl (by decide +kernel) (Nat.le_of_ble_eq_true rfl) (lv := [(0, .ref (ad o)), (1, .int (x))]) rfl ?_
  intro p e s m below meth c ls F hr hlocks hP hl
  have hS : va_S (wA ad N) s.heap s.heap [] := va_S.rf
  refine lv_aload_n F.1 F.2.1 dX8_orderEnd_0 rfl (lv_at hl 0 rfl) ?_
  refine lv_iload_n F.1 F.2.1 dX8_orderEnd_1 rfl (lv_at hl 1 rfl) ?_
  refine w_calli F hP hS (c_X8_sign l D Y ad N hI C o hh kn gr r s0 pd nn hn80 hpdd a (by omega) x ex ) (cwVm 1 F.2.2.2.2.1 (fun _ h => h) mw_631 mw_628 mw_629 mw_630 mw_5 rfl rfl ydX8_sign ⟨by decide, by decide⟩) (by omega) mW_o rfl rfl hl.1 rfl (Nat.le_of_ble_eq_true rfl) dX8_orderEnd_2 ⟨Nat.zero_le _, Nat.zero_le _⟩ (fun rq1 Kq1 H locs hq1 hP hS => ?_)
  obtain ⟨hq1w, hq1r⟩ := hq1; subst hq1w hq1r
  by_cases k2 : M_sg pd nn a = 33
  · refine lv_lookup (off := 128) (tgt := 133) F.1 F.2.1 dX8_orderEnd_5 (by decide) ((by rw [k2]; rfl)) (by decide) ?_
    refine lv_iload_n F.1 F.2.1 dX8_orderEnd_133 rfl (lv_at hl 1 rfl) ?_
    refine lv_iconst (v := 1) F.1 F.2.1 dX8_orderEnd_134 (by decide) ?_
    refine lv_iadd F.1 F.2.1 dX8_orderEnd_135 ?_
    exact w_iret F hr hlocks hP hS dX8_orderEnd_136 ⟨rfl, by have h := oe_1 (Or.inl ((sg_eq (by decide) (by decide)).mp k2)); rw [if_pos h.1, h.2, ex, nI_succ]⟩
  · by_cases k3 : M_sg pd nn a = 60
    · refine lv_lookup (off := 128) (tgt := 133) F.1 F.2.1 dX8_orderEnd_5 (by decide) ((lv_osw k2 rfl).trans ((by rw [k3]; rfl))) (by decide) ?_
      refine lv_iload_n F.1 F.2.1 dX8_orderEnd_133 rfl (lv_at hl 1 rfl) ?_
      refine lv_iconst (v := 1) F.1 F.2.1 dX8_orderEnd_134 (by decide) ?_
      refine lv_iadd F.1 F.2.1 dX8_orderEnd_135 ?_
      exact w_iret F hr hlocks hP hS dX8_orderEnd_136 ⟨rfl, by have h := oe_1 (Or.inr (Or.inl ((sg_eq (by decide) (by decide)).mp k3))); rw [if_pos h.1, h.2, ex, nI_succ]⟩
    · by_cases k4 : M_sg pd nn a = 62
      · refine lv_lookup (off := 128) (tgt := 133) F.1 F.2.1 dX8_orderEnd_5 (by decide) ((lv_osw k2 rfl).trans ((lv_osw k3 rfl).trans ((by rw [k4]; rfl)))) (by decide) ?_
        refine lv_iload_n F.1 F.2.1 dX8_orderEnd_133 rfl (lv_at hl 1 rfl) ?_
        refine lv_iconst (v := 1) F.1 F.2.1 dX8_orderEnd_134 (by decide) ?_
        refine lv_iadd F.1 F.2.1 dX8_orderEnd_135 ?_
        exact w_iret F hr hlocks hP hS dX8_orderEnd_136 ⟨rfl, by have h := oe_1 (Or.inr (Or.inr ((sg_eq (by decide) (by decide)).mp k4))); rw [if_pos h.1, h.2, ex, nI_succ]⟩
      · by_cases k5 : M_sg pd nn a = 100
        · refine lv_lookup (off := 75) (tgt := 80) F.1 F.2.1 dX8_orderEnd_5 (by decide) ((lv_osw k2 rfl).trans ((lv_osw k3 rfl).trans ((lv_osw k4 rfl).trans ((by rw [k5]; rfl))))) (by decide) ?_
          refine lv_aload_n F.1 F.2.1 dX8_orderEnd_80 rfl (lv_at hl 0 rfl) ?_
          refine lv_iload_n F.1 F.2.1 dX8_orderEnd_81 rfl (lv_at hl 1 rfl) ?_
          refine lv_iconst (v := 1) F.1 F.2.1 dX8_orderEnd_82 (by decide) ?_
          refine lv_iadd F.1 F.2.1 dX8_orderEnd_83 ?_
          refine w_calli F hP hS (c_X8_digit l D Y ad N hI C o hh kn gr r s0 pd nn hn80 hpdd (a + 1) (by omega) (x + 1) (ix_add (X := a) (Y := 1) (Z := a + 1) ex rfl (by omega)) ) (cwVm 1 F.2.2.2.2.1 (fun _ h => h) mw_635 mw_632 mw_633 mw_634 mw_5 rfl rfl ydX8_digit ⟨by decide, by decide⟩) (by omega) mW_o rfl rfl hl.1 rfl (Nat.le_of_ble_eq_true rfl) dX8_orderEnd_84 ⟨Nat.zero_le _, Nat.zero_le _⟩ (fun rq6 Kq6 H locs hq6 hP hS => ?_)
          obtain ⟨hq6w, hq6r⟩ := hq6; subst hq6w hq6r
          refine lv_if_ge (tgt := 97) F.1 F.2.1 dX8_orderEnd_87 (by decide) (fun c7 => ?_) (fun c7 => ?_)
          · refine lv_iload_n F.1 F.2.1 dX8_orderEnd_97 rfl (lv_at hl 1 rfl) ?_
            refine lv_iconst (v := 2) F.1 F.2.1 dX8_orderEnd_98 (by decide) ?_
            refine lv_iadd F.1 F.2.1 dX8_orderEnd_99 ?_
            exact w_iret F hr hlocks hP hS dX8_orderEnd_100 ⟨rfl, by have h := oe_d (Or.inl ((sg_eq (by decide) (by decide)).mp k5)); rw [if_pos (h.1.mpr (dg_nn.mp (i_nlt c7))), h.2.1, if_pos (dg_nn.mp (i_nlt c7)), ex]; exact nI_add a 2⟩
          · refine lv_bipush (v := (-2)) F.1 F.2.1 dX8_orderEnd_90 (by decide) ?_
            refine lv_iload_n F.1 F.2.1 dX8_orderEnd_92 rfl (lv_at hl 1 rfl) ?_
            refine lv_isub F.1 F.2.1 dX8_orderEnd_93 ?_
            refine lv_goto (tgt := 100) F.1 F.2.1 dX8_orderEnd_94 (by decide) ?_
            exact w_iret F hr hlocks hP hS dX8_orderEnd_100 ⟨rfl, by have h := oe_d (Or.inl ((sg_eq (by decide) (by decide)).mp k5)); rw [if_neg (fun q => (fun q => dg_nn.mpr q (i_lt c7)) (h.1.mp q)), h.2.1, if_neg (fun q => dg_nn.mpr q (i_lt c7)), ex]; exact m2_nI a⟩
        · by_cases k8 : M_sg pd nn a = 103
          · refine lv_lookup (off := 96) (tgt := 101) F.1 F.2.1 dX8_orderEnd_5 (by decide) ((lv_osw k2 rfl).trans ((lv_osw k3 rfl).trans ((lv_osw k4 rfl).trans ((lv_osw k5 rfl).trans ((by rw [k8]; rfl)))))) (by decide) ?_
            refine lv_aload_n F.1 F.2.1 dX8_orderEnd_101 rfl (lv_at hl 0 rfl) ?_
            refine lv_iload_n F.1 F.2.1 dX8_orderEnd_102 rfl (lv_at hl 1 rfl) ?_
            refine lv_iconst (v := 1) F.1 F.2.1 dX8_orderEnd_103 (by decide) ?_
            refine lv_iadd F.1 F.2.1 dX8_orderEnd_104 ?_
            refine w_calli F hP hS (c_X8_numberEnd l D Y ad N hI C o hh kn gr r s0 pd nn hn80 hpdd (a + 1) (by omega) (x + 1) (ix_add (X := a) (Y := 1) (Z := a + 1) ex rfl (by omega)) ) (cwVm 1 F.2.2.2.2.1 (fun _ h => h) mw_639 mw_636 mw_637 mw_638 mw_5 rfl rfl ydX8_numberEnd ⟨by decide, by decide⟩) (by omega) mW_o rfl rfl hl.1 rfl (Nat.le_of_ble_eq_true rfl) dX8_orderEnd_105 ⟨Nat.zero_le _, Nat.zero_le _⟩ (fun rq9 Kq9 H locs hq9 hP hS => ?_)
            obtain ⟨hq9w, hq9r⟩ := hq9; subst hq9w hq9r
            exact w_iret F hr hlocks hP hS dX8_orderEnd_108 ⟨rfl, by have h := oe_g (Or.inl ((sg_eq (by decide) (by decide)).mp k8)); rw [h.2.1]; by_cases d : isDg (chr_ pd nn (a + 1)); (rw [if_pos d, if_pos (h.1.mpr d)]); (rw [if_neg d, if_neg (fun q => d (h.1.mp q)), show N_end pd nn (a + 1) = a + 1 from if_neg d])⟩
          · by_cases k10 : M_sg pd nn a = 104
            · refine lv_lookup (off := 96) (tgt := 101) F.1 F.2.1 dX8_orderEnd_5 (by decide) ((lv_osw k2 rfl).trans ((lv_osw k3 rfl).trans ((lv_osw k4 rfl).trans ((lv_osw k5 rfl).trans ((lv_osw k8 rfl).trans ((by rw [k10]; rfl))))))) (by decide) ?_
              refine lv_aload_n F.1 F.2.1 dX8_orderEnd_101 rfl (lv_at hl 0 rfl) ?_
              refine lv_iload_n F.1 F.2.1 dX8_orderEnd_102 rfl (lv_at hl 1 rfl) ?_
              refine lv_iconst (v := 1) F.1 F.2.1 dX8_orderEnd_103 (by decide) ?_
              refine lv_iadd F.1 F.2.1 dX8_orderEnd_104 ?_
              refine w_calli F hP hS (c_X8_numberEnd l D Y ad N hI C o hh kn gr r s0 pd nn hn80 hpdd (a + 1) (by omega) (x + 1) (ix_add (X := a) (Y := 1) (Z := a + 1) ex rfl (by omega)) ) (cwVm 1 F.2.2.2.2.1 (fun _ h => h) mw_639 mw_636 mw_637 mw_638 mw_5 rfl rfl ydX8_numberEnd ⟨by decide, by decide⟩) (by omega) mW_o rfl rfl hl.1 rfl (Nat.le_of_ble_eq_true rfl) dX8_orderEnd_105 ⟨Nat.zero_le _, Nat.zero_le _⟩ (fun rq11 Kq11 H locs hq11 hP hS => ?_)
              obtain ⟨hq11w, hq11r⟩ := hq11; subst hq11w hq11r
              exact w_iret F hr hlocks hP hS dX8_orderEnd_108 ⟨rfl, by have h := oe_g (Or.inr ((sg_eq (by decide) (by decide)).mp k10)); rw [h.2.1]; by_cases d : isDg (chr_ pd nn (a + 1)); (rw [if_pos d, if_pos (h.1.mpr d)]); (rw [if_neg d, if_neg (fun q => d (h.1.mp q)), show N_end pd nn (a + 1) = a + 1 from if_neg d])⟩
            · by_cases k12 : M_sg pd nn a = 108
              · refine lv_lookup (off := 75) (tgt := 80) F.1 F.2.1 dX8_orderEnd_5 (by decide) ((lv_osw k2 rfl).trans ((lv_osw k3 rfl).trans ((lv_osw k4 rfl).trans ((lv_osw k5 rfl).trans ((lv_osw k8 rfl).trans ((lv_osw k10 rfl).trans ((by rw [k12]; rfl)))))))) (by decide) ?_
                refine lv_aload_n F.1 F.2.1 dX8_orderEnd_80 rfl (lv_at hl 0 rfl) ?_
                refine lv_iload_n F.1 F.2.1 dX8_orderEnd_81 rfl (lv_at hl 1 rfl) ?_
                refine lv_iconst (v := 1) F.1 F.2.1 dX8_orderEnd_82 (by decide) ?_
                refine lv_iadd F.1 F.2.1 dX8_orderEnd_83 ?_
                refine w_calli F hP hS (c_X8_digit l D Y ad N hI C o hh kn gr r s0 pd nn hn80 hpdd (a + 1) (by omega) (x + 1) (ix_add (X := a) (Y := 1) (Z := a + 1) ex rfl (by omega)) ) (cwVm 1 F.2.2.2.2.1 (fun _ h => h) mw_635 mw_632 mw_633 mw_634 mw_5 rfl rfl ydX8_digit ⟨by decide, by decide⟩) (by omega) mW_o rfl rfl hl.1 rfl (Nat.le_of_ble_eq_true rfl) dX8_orderEnd_84 ⟨Nat.zero_le _, Nat.zero_le _⟩ (fun rq13 Kq13 H locs hq13 hP hS => ?_)
                obtain ⟨hq13w, hq13r⟩ := hq13; subst hq13w hq13r
                refine lv_if_ge (tgt := 97) F.1 F.2.1 dX8_orderEnd_87 (by decide) (fun c14 => ?_) (fun c14 => ?_)
                · refine lv_iload_n F.1 F.2.1 dX8_orderEnd_97 rfl (lv_at hl 1 rfl) ?_
                  refine lv_iconst (v := 2) F.1 F.2.1 dX8_orderEnd_98 (by decide) ?_
                  refine lv_iadd F.1 F.2.1 dX8_orderEnd_99 ?_
                  exact w_iret F hr hlocks hP hS dX8_orderEnd_100 ⟨rfl, by have h := oe_d (Or.inr ((sg_eq (by decide) (by decide)).mp k12)); rw [if_pos (h.1.mpr (dg_nn.mp (i_nlt c14))), h.2.1, if_pos (dg_nn.mp (i_nlt c14)), ex]; exact nI_add a 2⟩
                · refine lv_bipush (v := (-2)) F.1 F.2.1 dX8_orderEnd_90 (by decide) ?_
                  refine lv_iload_n F.1 F.2.1 dX8_orderEnd_92 rfl (lv_at hl 1 rfl) ?_
                  refine lv_isub F.1 F.2.1 dX8_orderEnd_93 ?_
                  refine lv_goto (tgt := 100) F.1 F.2.1 dX8_orderEnd_94 (by decide) ?_
                  exact w_iret F hr hlocks hP hS dX8_orderEnd_100 ⟨rfl, by have h := oe_d (Or.inr ((sg_eq (by decide) (by decide)).mp k12)); rw [if_neg (fun q => (fun q => dg_nn.mpr q (i_lt c14)) (h.1.mp q)), h.2.1, if_neg (fun q => dg_nn.mpr q (i_lt c14)), ex]; exact m2_nI a⟩
              · by_cases k15 : M_sg pd nn a = 114
                · refine lv_lookup (off := 104) (tgt := 109) F.1 F.2.1 dX8_orderEnd_5 (by decide) ((lv_osw k2 rfl).trans ((lv_osw k3 rfl).trans ((lv_osw k4 rfl).trans ((lv_osw k5 rfl).trans ((lv_osw k8 rfl).trans ((lv_osw k10 rfl).trans ((lv_osw k12 rfl).trans ((by rw [k15]; rfl))))))))) (by decide) ?_
                  refine lv_aload_n F.1 F.2.1 dX8_orderEnd_109 rfl (lv_at hl 0 rfl) ?_
                  refine lv_iload_n F.1 F.2.1 dX8_orderEnd_110 rfl (lv_at hl 1 rfl) ?_
                  refine lv_iconst (v := 1) F.1 F.2.1 dX8_orderEnd_111 (by decide) ?_
                  refine lv_iadd F.1 F.2.1 dX8_orderEnd_112 ?_
                  refine w_calli F hP hS (c_X8_digit l D Y ad N hI C o hh kn gr r s0 pd nn hn80 hpdd (a + 1) (by omega) (x + 1) (ix_add (X := a) (Y := 1) (Z := a + 1) ex rfl (by omega)) ) (cwVm 1 F.2.2.2.2.1 (fun _ h => h) mw_635 mw_632 mw_633 mw_634 mw_5 rfl rfl ydX8_digit ⟨by decide, by decide⟩) (by omega) mW_o rfl rfl hl.1 rfl (Nat.le_of_ble_eq_true rfl) dX8_orderEnd_113 ⟨Nat.zero_le _, Nat.zero_le _⟩ (fun rq16 Kq16 H locs hq16 hP hS => ?_)
                  obtain ⟨hq16w, hq16r⟩ := hq16; subst hq16w hq16r
                  refine lv_if_ge (tgt := 125) F.1 F.2.1 dX8_orderEnd_116 (by decide) (fun c17 => ?_) (fun c17 => ?_)
                  · refine lv_aload_n F.1 F.2.1 dX8_orderEnd_125 rfl (lv_at hl 0 rfl) ?_
                    refine lv_iload_n F.1 F.2.1 dX8_orderEnd_126 rfl (lv_at hl 1 rfl) ?_
                    refine lv_iconst (v := 1) F.1 F.2.1 dX8_orderEnd_127 (by decide) ?_
                    refine lv_iadd F.1 F.2.1 dX8_orderEnd_128 ?_
                    refine w_calli F hP hS (c_X8_numberEnd l D Y ad N hI C o hh kn gr r s0 pd nn hn80 hpdd (a + 1) (by omega) (x + 1) (ix_add (X := a) (Y := 1) (Z := a + 1) ex rfl (by omega)) ) (cwVm 1 F.2.2.2.2.1 (fun _ h => h) mw_639 mw_636 mw_637 mw_638 mw_5 rfl rfl ydX8_numberEnd ⟨by decide, by decide⟩) (by omega) mW_o rfl rfl hl.1 rfl (Nat.le_of_ble_eq_true rfl) dX8_orderEnd_129 ⟨Nat.zero_le _, Nat.zero_le _⟩ (fun rq18 Kq18 H locs hq18 hP hS => ?_)
                    obtain ⟨hq18w, hq18r⟩ := hq18; subst hq18w hq18r
                    exact w_iret F hr hlocks hP hS dX8_orderEnd_132 ⟨rfl, by have h := oe_r ((sg_eq (by decide) (by decide)).mp k15); rw [if_pos h.1, h.2.1, if_pos (dg_nn.mp (i_nlt c17)), if_pos (dg_nn.mp (i_nlt c17))]⟩
                  · refine lv_iload_n F.1 F.2.1 dX8_orderEnd_119 rfl (lv_at hl 1 rfl) ?_
                    refine lv_iconst (v := 1) F.1 F.2.1 dX8_orderEnd_120 (by decide) ?_
                    refine lv_iadd F.1 F.2.1 dX8_orderEnd_121 ?_
                    refine lv_goto (tgt := 132) F.1 F.2.1 dX8_orderEnd_122 (by decide) ?_
                    exact w_iret F hr hlocks hP hS dX8_orderEnd_132 ⟨rfl, by have h := oe_r ((sg_eq (by decide) (by decide)).mp k15); rw [if_pos h.1, h.2.1, if_neg (fun q => dg_nn.mpr q (i_lt c17)), ex, nI_succ]⟩
                · refine lv_lookup (off := 132) (tgt := 137) F.1 F.2.1 dX8_orderEnd_5 (by decide) ((lv_osw k2 rfl).trans ((lv_osw k3 rfl).trans ((lv_osw k4 rfl).trans ((lv_osw k5 rfl).trans ((lv_osw k8 rfl).trans ((lv_osw k10 rfl).trans ((lv_osw k12 rfl).trans ((lv_osw k15 rfl).trans (rfl))))))))) (by decide) ?_
                  refine lv_iconst (v := (-1)) F.1 F.2.1 dX8_orderEnd_137 (by decide) ?_
                  refine lv_iload_n F.1 F.2.1 dX8_orderEnd_138 rfl (lv_at hl 1 rfl) ?_
                  refine lv_isub F.1 F.2.1 dX8_orderEnd_139 ?_
                  exact w_iret F hr hlocks hP hS dX8_orderEnd_140 ⟨rfl, by have h := oe_x (fun q => k2 ((sg_eq (by decide) (by decide)).mpr q)) (fun q => k3 ((sg_eq (by decide) (by decide)).mpr q)) (fun q => k4 ((sg_eq (by decide) (by decide)).mpr q)) (fun q => k5 ((sg_eq (by decide) (by decide)).mpr q)) (fun q => k8 ((sg_eq (by decide) (by decide)).mpr q)) (fun q => k10 ((sg_eq (by decide) (by decide)).mpr q)) (fun q => k12 ((sg_eq (by decide) (by decide)).mpr q)) (fun q => k15 ((sg_eq (by decide) (by decide)).mpr q)); rw [if_neg h.1, h.2, ex]⟩
