/-! HoopStairsModel: the fault, an order -/
section OE
variable {pd : Nat → Int32} {n a : Nat} {r : Nat → Int32}
theorem P_end_b (pd : Nat → Int32) (n a : Nat) : P_end pd n a ≤ a + 3 := by
  unfold P_end
  have hn := N_end_b pd n (a + 1)
  repeat' split
  all_goals omega
theorem sg_ok (h : P_ok pd n a) : M_sg pd n a = chr_ pd n a := by
  have := (P_ok_lt h).1
  unfold M_sg chr_
  rw [if_pos this, if_pos this]
theorem ok_cases (h : P_ok pd n a) : (chr_ pd n a = 33 ∨ chr_ pd n a = 60 ∨ chr_ pd n a = 62) ∨ (chr_ pd n a = 100 ∨ chr_ pd n a = 108) ∨ (chr_ pd n a = 103 ∨ chr_ pd n a = 104) ∨ chr_ pd n a = 114 := by
  by_cases h1 : chr_ pd n a = 33
  · exact Or.inl (Or.inl h1)
  by_cases h2 : chr_ pd n a = 60
  · exact Or.inl (Or.inr (Or.inl h2))
  by_cases h3 : chr_ pd n a = 62
  · exact Or.inl (Or.inr (Or.inr h3))
  by_cases h4 : chr_ pd n a = 100
  · exact Or.inr (Or.inl (Or.inl h4))
  by_cases h5 : chr_ pd n a = 103
  · exact Or.inr (Or.inr (Or.inl (Or.inl h5)))
  by_cases h6 : chr_ pd n a = 104
  · exact Or.inr (Or.inr (Or.inl (Or.inr h6)))
  by_cases h7 : chr_ pd n a = 108
  · exact Or.inr (Or.inl (Or.inr h7))
  by_cases h8 : chr_ pd n a = 114
  · exact Or.inr (Or.inr (Or.inr h8))
  exact absurd h (oe_x h1 h2 h3 h4 h5 h6 h7 h8).1
theorem n_val_d {b : Nat} (h : isDg (chr_ pd n b)) (h2 : ¬ isDg (chr_ pd n (b + 1))) : N_val pd n b = chr_ pd n b - 48 := by
  unfold N_val
  by_cases z : chr_ pd n b - 48 = 0
  · rw [if_pos z]
  · rw [if_neg z, if_neg h2]
/-- the number that stands behind the sign -/
def M_nu (pd : Nat → Int32) (n a : Nat) : Int32 := if isDg (chr_ pd n (a + 1)) then N_val pd n (a + 1) else 1
theorem nu_is (h : P_ok pd n a) (hnd : ¬ isDg (chr_ pd n (P_end pd n a))) : (chr_ pd n a = 33 ∨ chr_ pd n a = 60 ∨ chr_ pd n a = 62) ∨ M_nu pd n a = P_no pd n a := by
  rcases ok_cases h with q | q | q | q
  · exact Or.inl q
  · right
    have e := oe_d q
    have d := e.1.mp h
    rw [e.2.1, if_pos d] at hnd
    unfold M_nu
    rw [if_pos d, e.2.2]
    exact n_val_d d hnd
  · right
    have e := oe_g q
    unfold M_nu
    rw [if_pos (e.1.mp h), e.2.2]
  · right
    have e := oe_r q
    unfold M_nu
    rw [e.2.2]
theorem err_1 {c nu : Int32} (h : c = 33 ∨ c = 60 ∨ c = 62) : T_err r c nu = if r 5 = 1 ∧ r 11 = 0 then 0 else -5 := by
  rcases h with h | h | h <;> rw [h] <;> rfl
theorem err_p {c nu : Int32} (h : c = 100 ∨ c = 108 ∨ c = 103) : T_err r c nu = T_pe (r 4) (if c = 100 then 0 else if c = 108 then 1 else 2) nu r := by
  rcases h with h | h | h <;> rw [h] <;> rfl
theorem err_h {c nu : Int32} (h : c = 104) : T_err r c nu = if 1 ≤ nu ∧ nu ≤ 60 then 0 else -2 := by rw [h]; rfl
theorem err_r {c nu : Int32} (h : c = 114) : T_err r c nu = T_re nu r := by rw [h]; rfl
theorem do_p {c nu : Int32} (h : c = 100 ∨ c = 108 ∨ c = 103) : T_do r c nu = T_insert (r 4).toNatClampNeg (if c = 100 then 0 else if c = 108 then 1 else 2) nu r := by
  rcases h with h | h | h <;> rw [h] <;> rfl
theorem do_h {c nu : Int32} (h : c = 104) : T_do r c nu = T_run nu r := by rw [h]; rfl
theorem do_r {c nu : Int32} (h : c = 114) : T_do r c nu = T_rolled nu.toNatClampNeg r 0 := by rw [h]; rfl
theorem do_l {c nu : Int32} (h : c = 60) : T_do r c nu = T_tapp 0 r := by rw [h]; rfl
theorem do_g {c nu : Int32} (h : c = 62) : T_do r c nu = T_tapp 1 r := by rw [h]; rfl
theorem do_b {c nu : Int32} (h : c = 33) : T_do r c nu = T_push r := by rw [h]; rfl
theorem ok_def (h : P_ok pd n a) (h1 : ¬ chr_ pd n a = 100) (h2 : ¬ chr_ pd n a = 103) (h3 : ¬ chr_ pd n a = 104) (h4 : ¬ chr_ pd n a = 108) (h5 : ¬ chr_ pd n a = 114) : chr_ pd n a = 33 ∨ chr_ pd n a = 60 ∨ chr_ pd n a = 62 := by
  rcases ok_cases h with q | (q | q) | (q | q) | q
  · exact q
  · exact absurd q h1
  · exact absurd q h4
  · exact absurd q h2
  · exact absurd q h3
  · exact absurd q h5
theorem ok_part (h : P_ok pd n a) (h1 : ¬ chr_ pd n a = 33) (h2 : ¬ chr_ pd n a = 60) (h3 : ¬ chr_ pd n a = 62) (h4 : ¬ chr_ pd n a = 104) (h5 : ¬ chr_ pd n a = 114) : chr_ pd n a = 100 ∨ chr_ pd n a = 108 ∨ chr_ pd n a = 103 := by
  rcases ok_cases h with (q | q | q) | (q | q) | (q | q) | q
  · exact absurd q h1
  · exact absurd q h2
  · exact absurd q h3
  · exact Or.inl q
  · exact Or.inr (Or.inl q)
  · exact Or.inr (Or.inr q)
  · exact absurd q h4
  · exact absurd q h5
theorem nu_of (h : P_ok pd n a) (hnd : ¬ isDg (chr_ pd n (P_end pd n a))) (h1 : ¬ chr_ pd n a = 33) (h2 : ¬ chr_ pd n a = 60) (h3 : ¬ chr_ pd n a = 62) : P_no pd n a = M_nu pd n a := by
  rcases nu_is h hnd with (q | q | q) | q
  · exact absurd q h1
  · exact absurd q h2
  · exact absurd q h3
  · exact q.symm
theorem ch_ne {c d : Int32} (h : chr_ pd n a = c) (hd : c ≠ d) : ¬ chr_ pd n a = d := fun q => hd (h.symm.trans q)
end OE
set_option maxRecDepth 20000 in
set_option maxHeartbeats 4000000 in
/-- the fault -/
theorem c_X8_fault (l : Launch) (D : va_G) (Y : Nat → ClassId) (ad : Nat → Nat) (N : Nat) (hI : wI ad N) (C : Nat → va_E) (o : Nat) (hh : o + 6 ≤ N) (kn gr : Int32) (r s0 : Nat → Int32) (pd : Nat → Int32) (nn : Nat) (hn80 : nn ≤ 80) (hpdd : C (o + 5) = .inl (Y 0, 80, .inl pd)) : Met l yX8_fault (wm yX8_fault cX8_fault 4 (some .int)) { frames := 4, cells := 0, slots := 0, locals := 85 } (wPc D Y ad N [.ref (ad o)] (mW Y ad C o kn (nI nn) gr 0 r s0)) (wQi D ad N (fun q C' => C' = mW Y ad C o kn (nI nn) gr 0 r s0 ∧ q = F_fault pd nn 80 0)) 0 0 (wA ad N) := by
  refine wMet RX8 rfl (by decide +kernel) (Nat.le_of_ble_eq_true rfl) (lv := [(0, .ref (ad o))]) rfl ?_
  intro p e s m below meth c ls F hr hlocks hP hl
  have hS : va_S (wA ad N) s.heap s.heap [] := va_S.rf
  refine lv_iconst (v := 0) F.1 F.2.1 dX8_fault_0 (by decide) ?_
  refine lv_istore_n (lv' := [(1, .int (0)), (0, .ref (ad o))]) F.1 F.2.1 dX8_fault_1 rfl hl (by decide) rfl (fun ls hl => ?_)
  refine lv_iconst (v := 0) F.1 F.2.1 dX8_fault_2 (by decide) ?_
  refine lv_istore_n (lv' := [(2, .int (0)), (1, .int (0)), (0, .ref (ad o))]) F.1 F.2.1 dX8_fault_3 rfl hl (by decide) rfl (fun ls hl => ?_)
  refine w_loop (Inv := fun j ls C' => ∃ i a : Nat, j = 80 - i ∧ 2 * i ≤ a ∧ a ≤ nn ∧ lv_has ls 4 [(2, .int (nI i)), (1, .int (nI a)), (0, .ref (ad o))] ∧ C' = mW Y ad C o kn (nI nn) gr 0 r s0 ∧ F_fault pd nn (80 - i) a = F_fault pd nn 80 0) ?_ 80 ⟨0, 0, rfl, by decide, Nat.zero_le _, lv_sub hl [0, 1, 2] rfl, rfl, rfl⟩ hP hS
  intro j ih H locs ls K0 hInv hP hS
  obtain ⟨i, a, hj, hia, han, hl, rfl, hF⟩ := hInv
  rw [show 80 - i = 80 - (i + 1) + 1 by omega] at hF
  have hF2 : (if P_ok pd nn a then (if P_end pd nn a = nn then (-6 : Int32) else if chr_ pd nn (P_end pd nn a) = 59 then F_fault pd nn (80 - (i + 1)) (P_end pd nn a + 1) else nI (P_end pd nn a)) else nI (P_end pd nn a)) = F_fault pd nn 80 0 := hF
  refine lv_iload_n F.1 F.2.1 dX8_fault_4 rfl (lv_at hl 0 rfl) ?_
  refine lv_bipush (v := 80) F.1 F.2.1 dX8_fault_5 (by decide) ?_
  refine lv_icmp_ge (tgt := 57) F.1 F.2.1 dX8_fault_7 (by decide) (fun c1 => False.elim (nI_ge (b := 80) (by omega) (by decide) c1)) (fun c1 => ?_)
  refine lv_aload_n F.1 F.2.1 dX8_fault_10 rfl (lv_at hl 2 rfl) ?_
  refine lv_iload_n F.1 F.2.1 dX8_fault_11 rfl (lv_at hl 1 rfl) ?_
  refine w_calli F hP hS (c_X8_orderEnd l D Y ad N hI C o hh kn gr r s0 pd nn hn80 hpdd a (by omega) (nI a) rfl ) (cwVm 1 F.2.2.2.2.1 (fun _ h => h) mw_627 mw_624 mw_625 mw_626 mw_5 rfl rfl ydX8_orderEnd ⟨by decide, by decide⟩) (by omega) mW_o rfl rfl hl.1 rfl (Nat.le_of_ble_eq_true rfl) dX8_fault_12 ⟨Nat.zero_le _, Nat.zero_le _⟩ (fun rq2 Kq2 H locs hq2 hP hS => ?_)
  obtain ⟨hq2w, hq2r⟩ := hq2; subst hq2w hq2r
  by_cases hok5 : P_ok pd nn a
  · have heb := P_end_b pd nn a
    have hpl := P_ok_lt hok5
    refine lv_topi (fun v3 ev3 => ?_)
    have ev3 : v3 = nI (P_end pd nn a) := ev3.trans (if_pos hok5)
    subst ev3
    refine lv_istore_n (lv' := [(3, .int (nI (P_end pd nn a))), (2, .int (nI i)), (1, .int (nI a)), (0, .ref (ad o))]) F.1 F.2.1 dX8_fault_15 rfl hl (by decide) rfl (fun ls hl => ?_)
    refine lv_iload_n F.1 F.2.1 dX8_fault_16 rfl (lv_at hl 0 rfl) ?_
    refine lv_if_ge (tgt := 24) F.1 F.2.1 dX8_fault_17 (by decide) (fun c4 => ?_) (fun c4 => False.elim (c4 (nI_pos' (by omega))))
    refine lv_iload_n F.1 F.2.1 dX8_fault_24 rfl (lv_at hl 0 rfl) ?_
    refine lv_aload_n F.1 F.2.1 dX8_fault_25 rfl (lv_at hl 3 rfl) ?_
    refine gf_X8_106 F hP (by omega) mW_o (v := .int (nI nn)) rfl dX8_fault_26 ?_
    refine lv_icmp_ne (tgt := 35) F.1 F.2.1 dX8_fault_29 (by decide) (fun c5 => ?_) (fun c5 => ?_)
    · refine lv_aload_n F.1 F.2.1 dX8_fault_35 rfl (lv_at hl 3 rfl) ?_
      refine lv_iload_n F.1 F.2.1 dX8_fault_36 rfl (lv_at hl 0 rfl) ?_
      refine w_calli F hP hS (c_X8_sign l D Y ad N hI C o hh kn gr r s0 pd nn hn80 hpdd (P_end pd nn a) (by omega) (nI (P_end pd nn a)) rfl ) (cwVm 1 F.2.2.2.2.1 (fun _ h => h) mw_631 mw_628 mw_629 mw_630 mw_5 rfl rfl ydX8_sign ⟨by decide, by decide⟩) (by omega) mW_o rfl rfl hl.1 rfl (Nat.le_of_ble_eq_true rfl) dX8_fault_37 ⟨Nat.zero_le _, Nat.zero_le _⟩ (fun rq6 Kq6 H locs hq6 hP hS => ?_)
      obtain ⟨hq6w, hq6r⟩ := hq6; subst hq6w hq6r
      refine lv_bipush (v := 59) F.1 F.2.1 dX8_fault_40 (by decide) ?_
      refine lv_icmp_eq (tgt := 47) F.1 F.2.1 dX8_fault_42 (by decide) (fun c7 => ?_) (fun c7 => ?_)
      · refine lv_iload_n F.1 F.2.1 dX8_fault_47 rfl (lv_at hl 0 rfl) ?_
        refine lv_iconst (v := 1) F.1 F.2.1 dX8_fault_48 (by decide) ?_
        refine lv_iadd F.1 F.2.1 dX8_fault_49 ?_
        refine lv_istore_n (lv' := [(1, .int ((nI (P_end pd nn a)) + 1)), (3, .int (nI (P_end pd nn a))), (2, .int (nI i)), (0, .ref (ad o))]) F.1 F.2.1 dX8_fault_50 rfl hl (by decide) rfl (fun ls hl => ?_)
        refine lv_iinc (v := (nI i) + 1) (lv' := [(2, .int ((nI i) + 1)), (1, .int ((nI (P_end pd nn a)) + 1)), (3, .int (nI (P_end pd nn a))), (0, .ref (ad o))]) F.1 F.2.1 dX8_fault_51 hl (k := 2) rfl rfl (by decide) rfl (fun ls hl => ?_)
        refine lv_goto (tgt := 4) F.1 F.2.1 dX8_fault_54 (by decide) ?_
        have hch : chr_ pd nn (P_end pd nn a) = 59 := (sg_eq (by decide) (by decide)).mp c7
        have hlt : P_end pd nn a < nn := chr_lt (fun q => by rw [hch] at q; exact absurd q (by decide))
        rw [if_pos hok5, if_neg (fun q => c5 (by rw [q])), if_pos hch] at hF2
        exact ih _ (by omega) _ _ _ _ ⟨i + 1, P_end pd nn a + 1, rfl, by omega, by omega, (by rw [nI_succ, nI_succ]; exact lv_sub hl [0, 1, 3] rfl), rfl, hF2⟩ hP hS
      · refine lv_iload_n F.1 F.2.1 dX8_fault_45 rfl (lv_at hl 0 rfl) ?_
        exact w_iret F hr hlocks hP hS dX8_fault_46 ⟨rfl, by rw [if_pos hok5, if_neg (fun q => c5 (by rw [q])), if_neg (fun q => c7 ((sg_eq (by decide) (by decide)).mpr q))] at hF2; exact hF2⟩
    · refine lv_bipush (v := (-6)) F.1 F.2.1 dX8_fault_32 (by decide) ?_
      exact w_iret F hr hlocks hP hS dX8_fault_34 ⟨rfl, by rw [if_pos hok5, if_pos ((nI_eq (by omega) (by omega)).mp c5)] at hF2; exact hF2⟩
  · have heb := P_end_b pd nn a
    refine lv_topi (fun v8 ev8 => ?_)
    have ev8 : v8 = -1 - nI (P_end pd nn a) := ev8.trans (if_neg hok5)
    subst ev8
    refine lv_istore_n (lv' := [(3, .int (-1 - nI (P_end pd nn a))), (2, .int (nI i)), (1, .int (nI a)), (0, .ref (ad o))]) F.1 F.2.1 dX8_fault_15 rfl hl (by decide) rfl (fun ls hl => ?_)
    refine lv_iload_n F.1 F.2.1 dX8_fault_16 rfl (lv_at hl 0 rfl) ?_
    refine lv_if_ge (tgt := 24) F.1 F.2.1 dX8_fault_17 (by decide) (fun c9 => False.elim (i_nle (m1_nI _ (by omega)) c9)) (fun c9 => ?_)
    refine lv_iconst (v := (-1)) F.1 F.2.1 dX8_fault_20 (by decide) ?_
    refine lv_iload_n F.1 F.2.1 dX8_fault_21 rfl (lv_at hl 0 rfl) ?_
    refine lv_isub F.1 F.2.1 dX8_fault_22 ?_
    exact w_iret F hr hlocks hP hS dX8_fault_23 ⟨rfl, by rw [if_neg hok5] at hF2; rw [← hF2]; exact m1_back _⟩
set_option maxRecDepth 20000 in
set_option maxHeartbeats 4000000 in
/-- may an order be -/
theorem c_X8_whyNot (l : Launch) (D : va_G) (Y : Nat → ClassId) (ad : Nat → Nat) (N : Nat) (hI : wI ad N) (C : Nat → va_E) (o : Nat) (hh : o + 6 ≤ N) (kn gr : Int32) (r s0 : Nat → Int32) (pd : Nat → Int32) (nn : Nat) (hn80 : nn ≤ 80) (hpdd : C (o + 5) = .inl (Y 0, 80, .inl pd)) (a : Nat) (ha : a ≤ 98) (x : Int32) (ex : x = nI a) (hok5 : P_ok pd nn a) (hnd : ¬ isDg (chr_ pd nn (P_end pd nn a))) (hokS : okS r) : Met l yX8_whyNot (wm yX8_whyNot cX8_whyNot 3 (some .int)) { frames := 4, cells := 0, slots := 0, locals := 85 } (wPc D Y ad N [.ref (ad o), .int (x)] (mW Y ad C o kn (nI nn) gr 0 r s0)) (wQi D ad N (fun q C' => C' = mW Y ad C o kn (nI nn) gr 0 r s0 ∧ q = T_err r (chr_ pd nn a) (P_no pd nn a))) 0 0 (wA ad N) := by
  refine wMet RX8 rfl (by decide +kernel) (Nat.le_of_ble_eq_true rfl) (lv := [(0, .ref (ad o)), (1, .int (x))]) rfl ?_
  intro p e s m below meth c ls F hr hlocks hP hl
  have hS : va_S (wA ad N) s.heap s.heap [] := va_S.rf
  refine lv_aload_n F.1 F.2.1 dX8_whyNot_0 rfl (lv_at hl 0 rfl) ?_
  refine lv_iload_n F.1 F.2.1 dX8_whyNot_1 rfl (lv_at hl 1 rfl) ?_
  refine lv_iconst (v := 1) F.1 F.2.1 dX8_whyNot_2 (by decide) ?_
  refine lv_iadd F.1 F.2.1 dX8_whyNot_3 ?_
  refine w_calli F hP hS (c_X8_digit l D Y ad N hI C o hh kn gr r s0 pd nn hn80 hpdd (a + 1) (by omega) (x + 1) (ix_add (X := a) (Y := 1) (Z := a + 1) ex rfl (by omega)) ) (cwVm 1 F.2.2.2.2.1 (fun _ h => h) mw_635 mw_632 mw_633 mw_634 mw_5 rfl rfl ydX8_digit ⟨by decide, by decide⟩) (by omega) mW_o rfl rfl hl.1 rfl (Nat.le_of_ble_eq_true rfl) dX8_whyNot_4 ⟨Nat.zero_le _, Nat.zero_le _⟩ (fun rq1 Kq1 H locs hq1 hP hS => ?_)
  obtain ⟨hq1w, hq1r⟩ := hq1; subst hq1w hq1r
  refine lv_if_ge (tgt := 14) F.1 F.2.1 dX8_whyNot_7 (by decide) (fun c2 => ?_) (fun c2 => ?_)
  · refine lv_aload_n F.1 F.2.1 dX8_whyNot_14 rfl (lv_at hl 0 rfl) ?_
    refine lv_iload_n F.1 F.2.1 dX8_whyNot_15 rfl (lv_at hl 1 rfl) ?_
    refine lv_iconst (v := 1) F.1 F.2.1 dX8_whyNot_16 (by decide) ?_
    refine lv_iadd F.1 F.2.1 dX8_whyNot_17 ?_
    refine w_calli F hP hS (c_X8_numberAt l D Y ad N hI C o hh kn gr r s0 pd nn hn80 hpdd (a + 1) (by omega) (x + 1) (ix_add (X := a) (Y := 1) (Z := a + 1) ex rfl (by omega)) (dg_nn.mp (i_nlt c2))) (cwVm 1 F.2.2.2.2.1 (fun _ h => h) mw_667 mw_664 mw_665 mw_666 mw_5 rfl rfl ydX8_numberAt ⟨by decide, by decide⟩) (by omega) mW_o rfl rfl hl.1 rfl (Nat.le_of_ble_eq_true rfl) dX8_whyNot_18 ⟨Nat.zero_le _, Nat.zero_le _⟩ (fun rq3 Kq3 H locs hq3 hP hS => ?_)
    obtain ⟨hq3w, hq3r⟩ := hq3; subst hq3w hq3r
    refine lv_topi (fun v4 ev4 => ?_)
    have ev4 : v4 = M_nu pd nn a := ev4.trans ((if_pos (dg_nn.mp (i_nlt c2))).symm)
    subst ev4
    refine lv_istore_n (lv' := [(2, .int (M_nu pd nn a)), (0, .ref (ad o)), (1, .int (x))]) F.1 F.2.1 dX8_whyNot_21 rfl hl (by decide) rfl (fun ls hl => ?_)
    refine lv_aload_n F.1 F.2.1 dX8_whyNot_22 rfl (lv_at hl 1 rfl) ?_
    refine lv_iload_n F.1 F.2.1 dX8_whyNot_23 rfl (lv_at hl 2 rfl) ?_
    refine w_calli F hP hS (c_X8_sign l D Y ad N hI C o hh kn gr r s0 pd nn hn80 hpdd a (by omega) x ex ) (cwVm 1 F.2.2.2.2.1 (fun _ h => h) mw_631 mw_628 mw_629 mw_630 mw_5 rfl rfl ydX8_sign ⟨by decide, by decide⟩) (by omega) mW_o rfl rfl hl.1 rfl (Nat.le_of_ble_eq_true rfl) dX8_whyNot_24 ⟨Nat.zero_le _, Nat.zero_le _⟩ (fun rq5 Kq5 H locs hq5 hP hS => ?_)
    obtain ⟨hq5w, hq5r⟩ := hq5; subst hq5w hq5r
    refine lv_topi (fun v6 ev6 => ?_)
    have ev6 : v6 = chr_ pd nn a := ev6.trans (sg_ok hok5)
    subst ev6
    by_cases k7 : chr_ pd nn a = 100
    · refine lv_tableIn (off := 73) (tgt := 100) F.1 F.2.1 dX8_whyNot_27 (by rw [k7]; decide) (by rw [k7]; decide) (by rw [k7]; rfl) (by decide) ?_
      refine lv_aload_n F.1 F.2.1 dX8_whyNot_100 rfl (lv_at hl 1 rfl) ?_
      refine lv_aload_n F.1 F.2.1 dX8_whyNot_101 rfl (lv_at hl 1 rfl) ?_
      refine gf_X8_7 F hP (by omega) mW_o (v := .ref (ad (o + 1))) rfl dX8_whyNot_102 ?_
      refine lv_iconst (v := 4) F.1 F.2.1 dX8_whyNot_105 (by decide) ?_
      refine w_iald F hP (by omega) mW_s (k := 4) rfl (by omega) (Nat.le_of_ble_eq_true rfl) (v := r 4) (put_at (k := 4) (by omega) (by omega)) dX8_whyNot_106 ?_
      refine lv_aload_n F.1 F.2.1 dX8_whyNot_107 rfl (lv_at hl 1 rfl) ?_
      refine lv_iload_n F.1 F.2.1 dX8_whyNot_108 rfl (lv_at hl 2 rfl) ?_
      refine w_calli F hP hS (c_X8_sign l D Y ad N hI C o hh kn gr r s0 pd nn hn80 hpdd a (by omega) x ex ) (cwVm 1 F.2.2.2.2.1 (fun _ h => h) mw_631 mw_628 mw_629 mw_630 mw_5 rfl rfl ydX8_sign ⟨by decide, by decide⟩) (by omega) mW_o rfl rfl hl.1 rfl (Nat.le_of_ble_eq_true rfl) dX8_whyNot_109 ⟨Nat.zero_le _, Nat.zero_le _⟩ (fun rq8 Kq8 H locs hq8 hP hS => ?_)
      obtain ⟨hq8w, hq8r⟩ := hq8; subst hq8w hq8r
      refine lv_topi (fun v9 ev9 => ?_)
      have ev9 : v9 = chr_ pd nn a := ev9.trans (sg_ok hok5)
      subst ev9
      refine w_calls F hP hS (c_X8_kindOf l D Y ad N hI _ (chr_ pd nn a)) (cwSm 1 F.2.2.2.2.1 (fun _ h => h) mw_670 mw_668 mw_669 mw_5 rfl rfl ydX8_kindOf ⟨by decide, by decide⟩) rfl hl.1 rfl (Nat.le_of_ble_eq_true rfl) dX8_whyNot_112 ⟨Nat.zero_le _, Nat.zero_le _⟩ (fun rq10 Kq10 H locs hq10 hP hS => ?_)
      obtain ⟨hq10w, hq10r⟩ := hq10; rw [hq10w] at hP
      subst hq10r
      refine lv_iload_n F.1 F.2.1 dX8_whyNot_115 rfl (lv_at hl 0 rfl) ?_
      refine w_calli F hP hS (c_X8_whyNotPart l D Y ad N hI C o hh kn (nI nn) gr r s0 (r 4) (if (chr_ pd nn a) = 100 then 0 else if (chr_ pd nn a) = 108 then 1 else 2) (M_nu pd nn a) hokS) (cwVm 3 F.2.2.2.2.1 (fun _ h => h) mw_219 mw_216 mw_217 mw_218 mw_5 rfl rfl ydX8_whyNotPart ⟨by decide, by decide⟩) (by omega) mW_o rfl rfl hl.1 rfl (Nat.le_of_ble_eq_true rfl) dX8_whyNot_116 ⟨Nat.zero_le _, Nat.zero_le _⟩ (fun rq11 Kq11 H locs hq11 hP hS => ?_)
      obtain ⟨hq11w, hq11r⟩ := hq11; subst hq11w
      subst hq11r
      exact w_iret F hr hlocks hP hS dX8_whyNot_119 ⟨rfl, by rw [nu_of hok5 hnd (ch_ne k7 (by decide)) (ch_ne k7 (by decide)) (ch_ne k7 (by decide)), err_p (Or.inl k7)]⟩
    · by_cases k12 : chr_ pd nn a = 101
      · refine lv_tableIn (off := 116) (tgt := 143) F.1 F.2.1 dX8_whyNot_27 (by rw [k12]; decide) (by rw [k12]; decide) (by rw [k12]; rfl) (by decide) ?_
        refine lv_aload_n F.1 F.2.1 dX8_whyNot_143 rfl (lv_at hl 1 rfl) ?_
        refine w_calli F hP hS (c_X8_isRolling l D Y ad N hI C o hh kn (nI nn) gr r s0) (cwVm 0 F.2.2.2.2.1 (fun _ h => h) mw_361 mw_358 mw_359 mw_360 mw_5 rfl rfl ydX8_isRolling ⟨by decide, by decide⟩) (by omega) mW_o rfl rfl hl.1 rfl (Nat.le_of_ble_eq_true rfl) dX8_whyNot_144 ⟨Nat.zero_le _, Nat.zero_le _⟩ (fun rq13 Kq13 H locs hq13 hP hS => ?_)
        obtain ⟨hq13w, hq13r⟩ := hq13; subst hq13w
        refine lv_if_eq (tgt := 154) F.1 F.2.1 dX8_whyNot_147 (by decide) (fun c14 => ?_) (fun c14 => ?_)
        · refine lv_bipush (v := (-5)) F.1 F.2.1 dX8_whyNot_154 (by decide) ?_
          exact w_iret F hr hlocks hP hS dX8_whyNot_156 ⟨rfl, False.elim (by unfold P_ok at hok5; rw [k12] at hok5; exact hok5)⟩
        · refine lv_iconst (v := 0) F.1 F.2.1 dX8_whyNot_150 (by decide) ?_
          refine lv_goto (tgt := 156) F.1 F.2.1 dX8_whyNot_151 (by decide) ?_
          exact w_iret F hr hlocks hP hS dX8_whyNot_156 ⟨rfl, False.elim (by unfold P_ok at hok5; rw [k12] at hok5; exact hok5)⟩
      · by_cases k15 : chr_ pd nn a = 102
        · refine lv_tableIn (off := 116) (tgt := 143) F.1 F.2.1 dX8_whyNot_27 (by rw [k15]; decide) (by rw [k15]; decide) (by rw [k15]; rfl) (by decide) ?_
          refine lv_aload_n F.1 F.2.1 dX8_whyNot_143 rfl (lv_at hl 1 rfl) ?_
          refine w_calli F hP hS (c_X8_isRolling l D Y ad N hI C o hh kn (nI nn) gr r s0) (cwVm 0 F.2.2.2.2.1 (fun _ h => h) mw_361 mw_358 mw_359 mw_360 mw_5 rfl rfl ydX8_isRolling ⟨by decide, by decide⟩) (by omega) mW_o rfl rfl hl.1 rfl (Nat.le_of_ble_eq_true rfl) dX8_whyNot_144 ⟨Nat.zero_le _, Nat.zero_le _⟩ (fun rq16 Kq16 H locs hq16 hP hS => ?_)
          obtain ⟨hq16w, hq16r⟩ := hq16; subst hq16w
          refine lv_if_eq (tgt := 154) F.1 F.2.1 dX8_whyNot_147 (by decide) (fun c17 => ?_) (fun c17 => ?_)
          · refine lv_bipush (v := (-5)) F.1 F.2.1 dX8_whyNot_154 (by decide) ?_
            exact w_iret F hr hlocks hP hS dX8_whyNot_156 ⟨rfl, False.elim (by unfold P_ok at hok5; rw [k15] at hok5; exact hok5)⟩
          · refine lv_iconst (v := 0) F.1 F.2.1 dX8_whyNot_150 (by decide) ?_
            refine lv_goto (tgt := 156) F.1 F.2.1 dX8_whyNot_151 (by decide) ?_
            exact w_iret F hr hlocks hP hS dX8_whyNot_156 ⟨rfl, False.elim (by unfold P_ok at hok5; rw [k15] at hok5; exact hok5)⟩
        · by_cases k18 : chr_ pd nn a = 103
          · refine lv_tableIn (off := 73) (tgt := 100) F.1 F.2.1 dX8_whyNot_27 (by rw [k18]; decide) (by rw [k18]; decide) (by rw [k18]; rfl) (by decide) ?_
            refine lv_aload_n F.1 F.2.1 dX8_whyNot_100 rfl (lv_at hl 1 rfl) ?_
            refine lv_aload_n F.1 F.2.1 dX8_whyNot_101 rfl (lv_at hl 1 rfl) ?_
            refine gf_X8_7 F hP (by omega) mW_o (v := .ref (ad (o + 1))) rfl dX8_whyNot_102 ?_
            refine lv_iconst (v := 4) F.1 F.2.1 dX8_whyNot_105 (by decide) ?_
            refine w_iald F hP (by omega) mW_s (k := 4) rfl (by omega) (Nat.le_of_ble_eq_true rfl) (v := r 4) (put_at (k := 4) (by omega) (by omega)) dX8_whyNot_106 ?_
            refine lv_aload_n F.1 F.2.1 dX8_whyNot_107 rfl (lv_at hl 1 rfl) ?_
            refine lv_iload_n F.1 F.2.1 dX8_whyNot_108 rfl (lv_at hl 2 rfl) ?_
            refine w_calli F hP hS (c_X8_sign l D Y ad N hI C o hh kn gr r s0 pd nn hn80 hpdd a (by omega) x ex ) (cwVm 1 F.2.2.2.2.1 (fun _ h => h) mw_631 mw_628 mw_629 mw_630 mw_5 rfl rfl ydX8_sign ⟨by decide, by decide⟩) (by omega) mW_o rfl rfl hl.1 rfl (Nat.le_of_ble_eq_true rfl) dX8_whyNot_109 ⟨Nat.zero_le _, Nat.zero_le _⟩ (fun rq19 Kq19 H locs hq19 hP hS => ?_)
            obtain ⟨hq19w, hq19r⟩ := hq19; subst hq19w hq19r
            refine lv_topi (fun v20 ev20 => ?_)
            have ev20 : v20 = chr_ pd nn a := ev20.trans (sg_ok hok5)
            subst ev20
            refine w_calls F hP hS (c_X8_kindOf l D Y ad N hI _ (chr_ pd nn a)) (cwSm 1 F.2.2.2.2.1 (fun _ h => h) mw_670 mw_668 mw_669 mw_5 rfl rfl ydX8_kindOf ⟨by decide, by decide⟩) rfl hl.1 rfl (Nat.le_of_ble_eq_true rfl) dX8_whyNot_112 ⟨Nat.zero_le _, Nat.zero_le _⟩ (fun rq21 Kq21 H locs hq21 hP hS => ?_)
            obtain ⟨hq21w, hq21r⟩ := hq21; rw [hq21w] at hP
            subst hq21r
            refine lv_iload_n F.1 F.2.1 dX8_whyNot_115 rfl (lv_at hl 0 rfl) ?_
            refine w_calli F hP hS (c_X8_whyNotPart l D Y ad N hI C o hh kn (nI nn) gr r s0 (r 4) (if (chr_ pd nn a) = 100 then 0 else if (chr_ pd nn a) = 108 then 1 else 2) (M_nu pd nn a) hokS) (cwVm 3 F.2.2.2.2.1 (fun _ h => h) mw_219 mw_216 mw_217 mw_218 mw_5 rfl rfl ydX8_whyNotPart ⟨by decide, by decide⟩) (by omega) mW_o rfl rfl hl.1 rfl (Nat.le_of_ble_eq_true rfl) dX8_whyNot_116 ⟨Nat.zero_le _, Nat.zero_le _⟩ (fun rq22 Kq22 H locs hq22 hP hS => ?_)
            obtain ⟨hq22w, hq22r⟩ := hq22; subst hq22w
            subst hq22r
            exact w_iret F hr hlocks hP hS dX8_whyNot_119 ⟨rfl, by rw [nu_of hok5 hnd (ch_ne k18 (by decide)) (ch_ne k18 (by decide)) (ch_ne k18 (by decide)), err_p (Or.inr (Or.inr k18))]⟩
          · by_cases k23 : chr_ pd nn a = 104
            · refine lv_tableIn (off := 93) (tgt := 120) F.1 F.2.1 dX8_whyNot_27 (by rw [k23]; decide) (by rw [k23]; decide) (by rw [k23]; rfl) (by decide) ?_
              refine lv_iload_n F.1 F.2.1 dX8_whyNot_120 rfl (lv_at hl 0 rfl) ?_
              refine lv_iconst (v := 1) F.1 F.2.1 dX8_whyNot_121 (by decide) ?_
              refine lv_bipush (v := 60) F.1 F.2.1 dX8_whyNot_122 (by decide) ?_
              refine w_calls F hP hS (c_X8_in l D Y ad N hI _ (M_nu pd nn a) 1 60) (cwSm 3 F.2.2.2.2.1 (fun _ h => h) mw_183 mw_181 mw_182 mw_5 rfl rfl ydX8_in ⟨by decide, by decide⟩) rfl hl.1 rfl (Nat.le_of_ble_eq_true rfl) dX8_whyNot_124 ⟨Nat.zero_le _, Nat.zero_le _⟩ (fun rq24 Kq24 H locs hq24 hP hS => ?_)
              obtain ⟨hq24w, hq24r⟩ := hq24; rw [hq24w] at hP
              refine lv_if_eq (tgt := 134) F.1 F.2.1 dX8_whyNot_127 (by decide) (fun c25 => ?_) (fun c25 => ?_)
              · refine lv_bipush (v := (-2)) F.1 F.2.1 dX8_whyNot_134 (by decide) ?_
                exact w_iret F hr hlocks hP hS dX8_whyNot_136 ⟨rfl, by rw [nu_of hok5 hnd (ch_ne k23 (by decide)) (ch_ne k23 (by decide)) (ch_ne k23 (by decide)), err_h k23, if_neg (b_f hq24r c25)]⟩
              · refine lv_iconst (v := 0) F.1 F.2.1 dX8_whyNot_130 (by decide) ?_
                refine lv_goto (tgt := 136) F.1 F.2.1 dX8_whyNot_131 (by decide) ?_
                exact w_iret F hr hlocks hP hS dX8_whyNot_136 ⟨rfl, by rw [nu_of hok5 hnd (ch_ne k23 (by decide)) (ch_ne k23 (by decide)) (ch_ne k23 (by decide)), err_h k23, if_pos (b_t hq24r c25)]⟩
            · by_cases k26 : chr_ pd nn a = 105
              · refine lv_tableIn (off := 116) (tgt := 143) F.1 F.2.1 dX8_whyNot_27 (by rw [k26]; decide) (by rw [k26]; decide) (by rw [k26]; rfl) (by decide) ?_
                refine lv_aload_n F.1 F.2.1 dX8_whyNot_143 rfl (lv_at hl 1 rfl) ?_
                refine w_calli F hP hS (c_X8_isRolling l D Y ad N hI C o hh kn (nI nn) gr r s0) (cwVm 0 F.2.2.2.2.1 (fun _ h => h) mw_361 mw_358 mw_359 mw_360 mw_5 rfl rfl ydX8_isRolling ⟨by decide, by decide⟩) (by omega) mW_o rfl rfl hl.1 rfl (Nat.le_of_ble_eq_true rfl) dX8_whyNot_144 ⟨Nat.zero_le _, Nat.zero_le _⟩ (fun rq27 Kq27 H locs hq27 hP hS => ?_)
                obtain ⟨hq27w, hq27r⟩ := hq27; subst hq27w
                refine lv_if_eq (tgt := 154) F.1 F.2.1 dX8_whyNot_147 (by decide) (fun c28 => ?_) (fun c28 => ?_)
                · refine lv_bipush (v := (-5)) F.1 F.2.1 dX8_whyNot_154 (by decide) ?_
                  exact w_iret F hr hlocks hP hS dX8_whyNot_156 ⟨rfl, False.elim (by unfold P_ok at hok5; rw [k26] at hok5; exact hok5)⟩
                · refine lv_iconst (v := 0) F.1 F.2.1 dX8_whyNot_150 (by decide) ?_
                  refine lv_goto (tgt := 156) F.1 F.2.1 dX8_whyNot_151 (by decide) ?_
                  exact w_iret F hr hlocks hP hS dX8_whyNot_156 ⟨rfl, False.elim (by unfold P_ok at hok5; rw [k26] at hok5; exact hok5)⟩
              · by_cases k29 : chr_ pd nn a = 106
                · refine lv_tableIn (off := 116) (tgt := 143) F.1 F.2.1 dX8_whyNot_27 (by rw [k29]; decide) (by rw [k29]; decide) (by rw [k29]; rfl) (by decide) ?_
                  refine lv_aload_n F.1 F.2.1 dX8_whyNot_143 rfl (lv_at hl 1 rfl) ?_
                  refine w_calli F hP hS (c_X8_isRolling l D Y ad N hI C o hh kn (nI nn) gr r s0) (cwVm 0 F.2.2.2.2.1 (fun _ h => h) mw_361 mw_358 mw_359 mw_360 mw_5 rfl rfl ydX8_isRolling ⟨by decide, by decide⟩) (by omega) mW_o rfl rfl hl.1 rfl (Nat.le_of_ble_eq_true rfl) dX8_whyNot_144 ⟨Nat.zero_le _, Nat.zero_le _⟩ (fun rq30 Kq30 H locs hq30 hP hS => ?_)
                  obtain ⟨hq30w, hq30r⟩ := hq30; subst hq30w
                  refine lv_if_eq (tgt := 154) F.1 F.2.1 dX8_whyNot_147 (by decide) (fun c31 => ?_) (fun c31 => ?_)
                  · refine lv_bipush (v := (-5)) F.1 F.2.1 dX8_whyNot_154 (by decide) ?_
                    exact w_iret F hr hlocks hP hS dX8_whyNot_156 ⟨rfl, False.elim (by unfold P_ok at hok5; rw [k29] at hok5; exact hok5)⟩
                  · refine lv_iconst (v := 0) F.1 F.2.1 dX8_whyNot_150 (by decide) ?_
                    refine lv_goto (tgt := 156) F.1 F.2.1 dX8_whyNot_151 (by decide) ?_
                    exact w_iret F hr hlocks hP hS dX8_whyNot_156 ⟨rfl, False.elim (by unfold P_ok at hok5; rw [k29] at hok5; exact hok5)⟩
                · by_cases k32 : chr_ pd nn a = 107
                  · refine lv_tableIn (off := 116) (tgt := 143) F.1 F.2.1 dX8_whyNot_27 (by rw [k32]; decide) (by rw [k32]; decide) (by rw [k32]; rfl) (by decide) ?_
                    refine lv_aload_n F.1 F.2.1 dX8_whyNot_143 rfl (lv_at hl 1 rfl) ?_
                    refine w_calli F hP hS (c_X8_isRolling l D Y ad N hI C o hh kn (nI nn) gr r s0) (cwVm 0 F.2.2.2.2.1 (fun _ h => h) mw_361 mw_358 mw_359 mw_360 mw_5 rfl rfl ydX8_isRolling ⟨by decide, by decide⟩) (by omega) mW_o rfl rfl hl.1 rfl (Nat.le_of_ble_eq_true rfl) dX8_whyNot_144 ⟨Nat.zero_le _, Nat.zero_le _⟩ (fun rq33 Kq33 H locs hq33 hP hS => ?_)
                    obtain ⟨hq33w, hq33r⟩ := hq33; subst hq33w
                    refine lv_if_eq (tgt := 154) F.1 F.2.1 dX8_whyNot_147 (by decide) (fun c34 => ?_) (fun c34 => ?_)
                    · refine lv_bipush (v := (-5)) F.1 F.2.1 dX8_whyNot_154 (by decide) ?_
                      exact w_iret F hr hlocks hP hS dX8_whyNot_156 ⟨rfl, False.elim (by unfold P_ok at hok5; rw [k32] at hok5; exact hok5)⟩
                    · refine lv_iconst (v := 0) F.1 F.2.1 dX8_whyNot_150 (by decide) ?_
                      refine lv_goto (tgt := 156) F.1 F.2.1 dX8_whyNot_151 (by decide) ?_
                      exact w_iret F hr hlocks hP hS dX8_whyNot_156 ⟨rfl, False.elim (by unfold P_ok at hok5; rw [k32] at hok5; exact hok5)⟩
                  · by_cases k35 : chr_ pd nn a = 108
                    · refine lv_tableIn (off := 73) (tgt := 100) F.1 F.2.1 dX8_whyNot_27 (by rw [k35]; decide) (by rw [k35]; decide) (by rw [k35]; rfl) (by decide) ?_
                      refine lv_aload_n F.1 F.2.1 dX8_whyNot_100 rfl (lv_at hl 1 rfl) ?_
                      refine lv_aload_n F.1 F.2.1 dX8_whyNot_101 rfl (lv_at hl 1 rfl) ?_
                      refine gf_X8_7 F hP (by omega) mW_o (v := .ref (ad (o + 1))) rfl dX8_whyNot_102 ?_
                      refine lv_iconst (v := 4) F.1 F.2.1 dX8_whyNot_105 (by decide) ?_
                      refine w_iald F hP (by omega) mW_s (k := 4) rfl (by omega) (Nat.le_of_ble_eq_true rfl) (v := r 4) (put_at (k := 4) (by omega) (by omega)) dX8_whyNot_106 ?_
                      refine lv_aload_n F.1 F.2.1 dX8_whyNot_107 rfl (lv_at hl 1 rfl) ?_
                      refine lv_iload_n F.1 F.2.1 dX8_whyNot_108 rfl (lv_at hl 2 rfl) ?_
                      refine w_calli F hP hS (c_X8_sign l D Y ad N hI C o hh kn gr r s0 pd nn hn80 hpdd a (by omega) x ex ) (cwVm 1 F.2.2.2.2.1 (fun _ h => h) mw_631 mw_628 mw_629 mw_630 mw_5 rfl rfl ydX8_sign ⟨by decide, by decide⟩) (by omega) mW_o rfl rfl hl.1 rfl (Nat.le_of_ble_eq_true rfl) dX8_whyNot_109 ⟨Nat.zero_le _, Nat.zero_le _⟩ (fun rq36 Kq36 H locs hq36 hP hS => ?_)
                      obtain ⟨hq36w, hq36r⟩ := hq36; subst hq36w hq36r
                      refine lv_topi (fun v37 ev37 => ?_)
                      have ev37 : v37 = chr_ pd nn a := ev37.trans (sg_ok hok5)
                      subst ev37
                      refine w_calls F hP hS (c_X8_kindOf l D Y ad N hI _ (chr_ pd nn a)) (cwSm 1 F.2.2.2.2.1 (fun _ h => h) mw_670 mw_668 mw_669 mw_5 rfl rfl ydX8_kindOf ⟨by decide, by decide⟩) rfl hl.1 rfl (Nat.le_of_ble_eq_true rfl) dX8_whyNot_112 ⟨Nat.zero_le _, Nat.zero_le _⟩ (fun rq38 Kq38 H locs hq38 hP hS => ?_)
                      obtain ⟨hq38w, hq38r⟩ := hq38; rw [hq38w] at hP
                      subst hq38r
                      refine lv_iload_n F.1 F.2.1 dX8_whyNot_115 rfl (lv_at hl 0 rfl) ?_
                      refine w_calli F hP hS (c_X8_whyNotPart l D Y ad N hI C o hh kn (nI nn) gr r s0 (r 4) (if (chr_ pd nn a) = 100 then 0 else if (chr_ pd nn a) = 108 then 1 else 2) (M_nu pd nn a) hokS) (cwVm 3 F.2.2.2.2.1 (fun _ h => h) mw_219 mw_216 mw_217 mw_218 mw_5 rfl rfl ydX8_whyNotPart ⟨by decide, by decide⟩) (by omega) mW_o rfl rfl hl.1 rfl (Nat.le_of_ble_eq_true rfl) dX8_whyNot_116 ⟨Nat.zero_le _, Nat.zero_le _⟩ (fun rq39 Kq39 H locs hq39 hP hS => ?_)
                      obtain ⟨hq39w, hq39r⟩ := hq39; subst hq39w
                      subst hq39r
                      exact w_iret F hr hlocks hP hS dX8_whyNot_119 ⟨rfl, by rw [nu_of hok5 hnd (ch_ne k35 (by decide)) (ch_ne k35 (by decide)) (ch_ne k35 (by decide)), err_p (Or.inr (Or.inl k35))]⟩
                    · by_cases k40 : chr_ pd nn a = 109
                      · refine lv_tableIn (off := 116) (tgt := 143) F.1 F.2.1 dX8_whyNot_27 (by rw [k40]; decide) (by rw [k40]; decide) (by rw [k40]; rfl) (by decide) ?_
                        refine lv_aload_n F.1 F.2.1 dX8_whyNot_143 rfl (lv_at hl 1 rfl) ?_
                        refine w_calli F hP hS (c_X8_isRolling l D Y ad N hI C o hh kn (nI nn) gr r s0) (cwVm 0 F.2.2.2.2.1 (fun _ h => h) mw_361 mw_358 mw_359 mw_360 mw_5 rfl rfl ydX8_isRolling ⟨by decide, by decide⟩) (by omega) mW_o rfl rfl hl.1 rfl (Nat.le_of_ble_eq_true rfl) dX8_whyNot_144 ⟨Nat.zero_le _, Nat.zero_le _⟩ (fun rq41 Kq41 H locs hq41 hP hS => ?_)
                        obtain ⟨hq41w, hq41r⟩ := hq41; subst hq41w
                        refine lv_if_eq (tgt := 154) F.1 F.2.1 dX8_whyNot_147 (by decide) (fun c42 => ?_) (fun c42 => ?_)
                        · refine lv_bipush (v := (-5)) F.1 F.2.1 dX8_whyNot_154 (by decide) ?_
                          exact w_iret F hr hlocks hP hS dX8_whyNot_156 ⟨rfl, False.elim (by unfold P_ok at hok5; rw [k40] at hok5; exact hok5)⟩
                        · refine lv_iconst (v := 0) F.1 F.2.1 dX8_whyNot_150 (by decide) ?_
                          refine lv_goto (tgt := 156) F.1 F.2.1 dX8_whyNot_151 (by decide) ?_
                          exact w_iret F hr hlocks hP hS dX8_whyNot_156 ⟨rfl, False.elim (by unfold P_ok at hok5; rw [k40] at hok5; exact hok5)⟩
                      · by_cases k43 : chr_ pd nn a = 110
                        · refine lv_tableIn (off := 116) (tgt := 143) F.1 F.2.1 dX8_whyNot_27 (by rw [k43]; decide) (by rw [k43]; decide) (by rw [k43]; rfl) (by decide) ?_
                          refine lv_aload_n F.1 F.2.1 dX8_whyNot_143 rfl (lv_at hl 1 rfl) ?_
                          refine w_calli F hP hS (c_X8_isRolling l D Y ad N hI C o hh kn (nI nn) gr r s0) (cwVm 0 F.2.2.2.2.1 (fun _ h => h) mw_361 mw_358 mw_359 mw_360 mw_5 rfl rfl ydX8_isRolling ⟨by decide, by decide⟩) (by omega) mW_o rfl rfl hl.1 rfl (Nat.le_of_ble_eq_true rfl) dX8_whyNot_144 ⟨Nat.zero_le _, Nat.zero_le _⟩ (fun rq44 Kq44 H locs hq44 hP hS => ?_)
                          obtain ⟨hq44w, hq44r⟩ := hq44; subst hq44w
                          refine lv_if_eq (tgt := 154) F.1 F.2.1 dX8_whyNot_147 (by decide) (fun c45 => ?_) (fun c45 => ?_)
                          · refine lv_bipush (v := (-5)) F.1 F.2.1 dX8_whyNot_154 (by decide) ?_
                            exact w_iret F hr hlocks hP hS dX8_whyNot_156 ⟨rfl, False.elim (by unfold P_ok at hok5; rw [k43] at hok5; exact hok5)⟩
                          · refine lv_iconst (v := 0) F.1 F.2.1 dX8_whyNot_150 (by decide) ?_
                            refine lv_goto (tgt := 156) F.1 F.2.1 dX8_whyNot_151 (by decide) ?_
                            exact w_iret F hr hlocks hP hS dX8_whyNot_156 ⟨rfl, False.elim (by unfold P_ok at hok5; rw [k43] at hok5; exact hok5)⟩
                        · by_cases k46 : chr_ pd nn a = 111
                          · refine lv_tableIn (off := 116) (tgt := 143) F.1 F.2.1 dX8_whyNot_27 (by rw [k46]; decide) (by rw [k46]; decide) (by rw [k46]; rfl) (by decide) ?_
                            refine lv_aload_n F.1 F.2.1 dX8_whyNot_143 rfl (lv_at hl 1 rfl) ?_
                            refine w_calli F hP hS (c_X8_isRolling l D Y ad N hI C o hh kn (nI nn) gr r s0) (cwVm 0 F.2.2.2.2.1 (fun _ h => h) mw_361 mw_358 mw_359 mw_360 mw_5 rfl rfl ydX8_isRolling ⟨by decide, by decide⟩) (by omega) mW_o rfl rfl hl.1 rfl (Nat.le_of_ble_eq_true rfl) dX8_whyNot_144 ⟨Nat.zero_le _, Nat.zero_le _⟩ (fun rq47 Kq47 H locs hq47 hP hS => ?_)
                            obtain ⟨hq47w, hq47r⟩ := hq47; subst hq47w
                            refine lv_if_eq (tgt := 154) F.1 F.2.1 dX8_whyNot_147 (by decide) (fun c48 => ?_) (fun c48 => ?_)
                            · refine lv_bipush (v := (-5)) F.1 F.2.1 dX8_whyNot_154 (by decide) ?_
                              exact w_iret F hr hlocks hP hS dX8_whyNot_156 ⟨rfl, False.elim (by unfold P_ok at hok5; rw [k46] at hok5; exact hok5)⟩
                            · refine lv_iconst (v := 0) F.1 F.2.1 dX8_whyNot_150 (by decide) ?_
                              refine lv_goto (tgt := 156) F.1 F.2.1 dX8_whyNot_151 (by decide) ?_
                              exact w_iret F hr hlocks hP hS dX8_whyNot_156 ⟨rfl, False.elim (by unfold P_ok at hok5; rw [k46] at hok5; exact hok5)⟩
                          · by_cases k49 : chr_ pd nn a = 112
                            · refine lv_tableIn (off := 116) (tgt := 143) F.1 F.2.1 dX8_whyNot_27 (by rw [k49]; decide) (by rw [k49]; decide) (by rw [k49]; rfl) (by decide) ?_
                              refine lv_aload_n F.1 F.2.1 dX8_whyNot_143 rfl (lv_at hl 1 rfl) ?_
                              refine w_calli F hP hS (c_X8_isRolling l D Y ad N hI C o hh kn (nI nn) gr r s0) (cwVm 0 F.2.2.2.2.1 (fun _ h => h) mw_361 mw_358 mw_359 mw_360 mw_5 rfl rfl ydX8_isRolling ⟨by decide, by decide⟩) (by omega) mW_o rfl rfl hl.1 rfl (Nat.le_of_ble_eq_true rfl) dX8_whyNot_144 ⟨Nat.zero_le _, Nat.zero_le _⟩ (fun rq50 Kq50 H locs hq50 hP hS => ?_)
                              obtain ⟨hq50w, hq50r⟩ := hq50; subst hq50w
                              refine lv_if_eq (tgt := 154) F.1 F.2.1 dX8_whyNot_147 (by decide) (fun c51 => ?_) (fun c51 => ?_)
                              · refine lv_bipush (v := (-5)) F.1 F.2.1 dX8_whyNot_154 (by decide) ?_
                                exact w_iret F hr hlocks hP hS dX8_whyNot_156 ⟨rfl, False.elim (by unfold P_ok at hok5; rw [k49] at hok5; exact hok5)⟩
                              · refine lv_iconst (v := 0) F.1 F.2.1 dX8_whyNot_150 (by decide) ?_
                                refine lv_goto (tgt := 156) F.1 F.2.1 dX8_whyNot_151 (by decide) ?_
                                exact w_iret F hr hlocks hP hS dX8_whyNot_156 ⟨rfl, False.elim (by unfold P_ok at hok5; rw [k49] at hok5; exact hok5)⟩
                            · by_cases k52 : chr_ pd nn a = 113
                              · refine lv_tableIn (off := 116) (tgt := 143) F.1 F.2.1 dX8_whyNot_27 (by rw [k52]; decide) (by rw [k52]; decide) (by rw [k52]; rfl) (by decide) ?_
                                refine lv_aload_n F.1 F.2.1 dX8_whyNot_143 rfl (lv_at hl 1 rfl) ?_
                                refine w_calli F hP hS (c_X8_isRolling l D Y ad N hI C o hh kn (nI nn) gr r s0) (cwVm 0 F.2.2.2.2.1 (fun _ h => h) mw_361 mw_358 mw_359 mw_360 mw_5 rfl rfl ydX8_isRolling ⟨by decide, by decide⟩) (by omega) mW_o rfl rfl hl.1 rfl (Nat.le_of_ble_eq_true rfl) dX8_whyNot_144 ⟨Nat.zero_le _, Nat.zero_le _⟩ (fun rq53 Kq53 H locs hq53 hP hS => ?_)
                                obtain ⟨hq53w, hq53r⟩ := hq53; subst hq53w
                                refine lv_if_eq (tgt := 154) F.1 F.2.1 dX8_whyNot_147 (by decide) (fun c54 => ?_) (fun c54 => ?_)
                                · refine lv_bipush (v := (-5)) F.1 F.2.1 dX8_whyNot_154 (by decide) ?_
                                  exact w_iret F hr hlocks hP hS dX8_whyNot_156 ⟨rfl, False.elim (by unfold P_ok at hok5; rw [k52] at hok5; exact hok5)⟩
                                · refine lv_iconst (v := 0) F.1 F.2.1 dX8_whyNot_150 (by decide) ?_
                                  refine lv_goto (tgt := 156) F.1 F.2.1 dX8_whyNot_151 (by decide) ?_
                                  exact w_iret F hr hlocks hP hS dX8_whyNot_156 ⟨rfl, False.elim (by unfold P_ok at hok5; rw [k52] at hok5; exact hok5)⟩
                              · by_cases k55 : chr_ pd nn a = 114
                                · refine lv_tableIn (off := 110) (tgt := 137) F.1 F.2.1 dX8_whyNot_27 (by rw [k55]; decide) (by rw [k55]; decide) (by rw [k55]; rfl) (by decide) ?_
                                  refine lv_aload_n F.1 F.2.1 dX8_whyNot_137 rfl (lv_at hl 1 rfl) ?_
                                  refine lv_iload_n F.1 F.2.1 dX8_whyNot_138 rfl (lv_at hl 0 rfl) ?_
                                  refine w_calli F hP hS (c_X8_whyNotRoll l D Y ad N hI C o hh kn (nI nn) gr r s0 (M_nu pd nn a)) (cwVm 1 F.2.2.2.2.1 (fun _ h => h) mw_357 mw_354 mw_355 mw_356 mw_5 rfl rfl ydX8_whyNotRoll ⟨by decide, by decide⟩) (by omega) mW_o rfl rfl hl.1 rfl (Nat.le_of_ble_eq_true rfl) dX8_whyNot_139 ⟨Nat.zero_le _, Nat.zero_le _⟩ (fun rq56 Kq56 H locs hq56 hP hS => ?_)
                                  obtain ⟨hq56w, hq56r⟩ := hq56; subst hq56w
                                  subst hq56r
                                  exact w_iret F hr hlocks hP hS dX8_whyNot_142 ⟨rfl, by rw [nu_of hok5 hnd (ch_ne k55 (by decide)) (ch_ne k55 (by decide)) (ch_ne k55 (by decide)), err_r k55]⟩
                                · refine lv_tableOut (tgt := 143) F.1 F.2.1 dX8_whyNot_27 (by have := lv_neT k7 (a := 100) rfl; have := lv_neT k12 (a := 101) rfl; have := lv_neT k15 (a := 102) rfl; have := lv_neT k18 (a := 103) rfl; have := lv_neT k23 (a := 104) rfl; have := lv_neT k26 (a := 105) rfl; have := lv_neT k29 (a := 106) rfl; have := lv_neT k32 (a := 107) rfl; have := lv_neT k35 (a := 108) rfl; have := lv_neT k40 (a := 109) rfl; have := lv_neT k43 (a := 110) rfl; have := lv_neT k46 (a := 111) rfl; have := lv_neT k49 (a := 112) rfl; have := lv_neT k52 (a := 113) rfl; have := lv_neT k55 (a := 114) rfl; omega) (by decide) ?_
                                  refine lv_aload_n F.1 F.2.1 dX8_whyNot_143 rfl (lv_at hl 1 rfl) ?_
                                  refine w_calli F hP hS (c_X8_isRolling l D Y ad N hI C o hh kn (nI nn) gr r s0) (cwVm 0 F.2.2.2.2.1 (fun _ h => h) mw_361 mw_358 mw_359 mw_360 mw_5 rfl rfl ydX8_isRolling ⟨by decide, by decide⟩) (by omega) mW_o rfl rfl hl.1 rfl (Nat.le_of_ble_eq_true rfl) dX8_whyNot_144 ⟨Nat.zero_le _, Nat.zero_le _⟩ (fun rq57 Kq57 H locs hq57 hP hS => ?_)
                                  obtain ⟨hq57w, hq57r⟩ := hq57; subst hq57w
                                  refine lv_if_eq (tgt := 154) F.1 F.2.1 dX8_whyNot_147 (by decide) (fun c58 => ?_) (fun c58 => ?_)
                                  · refine lv_bipush (v := (-5)) F.1 F.2.1 dX8_whyNot_154 (by decide) ?_
                                    exact w_iret F hr hlocks hP hS dX8_whyNot_156 ⟨rfl, by rw [err_1 (ok_def hok5 k7 k18 k23 k35 k55), if_neg (b_f hq57r c58)]⟩
                                  · refine lv_iconst (v := 0) F.1 F.2.1 dX8_whyNot_150 (by decide) ?_
                                    refine lv_goto (tgt := 156) F.1 F.2.1 dX8_whyNot_151 (by decide) ?_
                                    exact w_iret F hr hlocks hP hS dX8_whyNot_156 ⟨rfl, by rw [err_1 (ok_def hok5 k7 k18 k23 k35 k55), if_pos (b_t hq57r c58)]⟩
  · refine lv_iconst (v := 1) F.1 F.2.1 dX8_whyNot_10 (by decide) ?_
    refine lv_goto (tgt := 21) F.1 F.2.1 dX8_whyNot_11 (by decide) ?_
    refine lv_topi (fun v59 ev59 => ?_)
    have ev59 : v59 = M_nu pd nn a := ev59.trans ((if_neg (fun q => dg_nn.mpr q (i_lt c2))).symm)
    subst ev59
    refine lv_istore_n (lv' := [(2, .int (M_nu pd nn a)), (0, .ref (ad o)), (1, .int (x))]) F.1 F.2.1 dX8_whyNot_21 rfl hl (by decide) rfl (fun ls hl => ?_)
    refine lv_aload_n F.1 F.2.1 dX8_whyNot_22 rfl (lv_at hl 1 rfl) ?_
    refine lv_iload_n F.1 F.2.1 dX8_whyNot_23 rfl (lv_at hl 2 rfl) ?_
    refine w_calli F hP hS (c_X8_sign l D Y ad N hI C o hh kn gr r s0 pd nn hn80 hpdd a (by omega) x ex ) (cwVm 1 F.2.2.2.2.1 (fun _ h => h) mw_631 mw_628 mw_629 mw_630 mw_5 rfl rfl ydX8_sign ⟨by decide, by decide⟩) (by omega) mW_o rfl rfl hl.1 rfl (Nat.le_of_ble_eq_true rfl) dX8_whyNot_24 ⟨Nat.zero_le _, Nat.zero_le _⟩ (fun rq60 Kq60 H locs hq60 hP hS => ?_)
    obtain ⟨hq60w, hq60r⟩ := hq60; subst hq60w hq60r
    refine lv_topi (fun v61 ev61 => ?_)
    have ev61 : v61 = chr_ pd nn a := ev61.trans (sg_ok hok5)
    subst ev61
    by_cases k62 : chr_ pd nn a = 100
    · refine lv_tableIn (off := 73) (tgt := 100) F.1 F.2.1 dX8_whyNot_27 (by rw [k62]; decide) (by rw [k62]; decide) (by rw [k62]; rfl) (by decide) ?_
      refine lv_aload_n F.1 F.2.1 dX8_whyNot_100 rfl (lv_at hl 1 rfl) ?_
      refine lv_aload_n F.1 F.2.1 dX8_whyNot_101 rfl (lv_at hl 1 rfl) ?_
      refine gf_X8_7 F hP (by omega) mW_o (v := .ref (ad (o + 1))) rfl dX8_whyNot_102 ?_
      refine lv_iconst (v := 4) F.1 F.2.1 dX8_whyNot_105 (by decide) ?_
      refine w_iald F hP (by omega) mW_s (k := 4) rfl (by omega) (Nat.le_of_ble_eq_true rfl) (v := r 4) (put_at (k := 4) (by omega) (by omega)) dX8_whyNot_106 ?_
      refine lv_aload_n F.1 F.2.1 dX8_whyNot_107 rfl (lv_at hl 1 rfl) ?_
      refine lv_iload_n F.1 F.2.1 dX8_whyNot_108 rfl (lv_at hl 2 rfl) ?_
      refine w_calli F hP hS (c_X8_sign l D Y ad N hI C o hh kn gr r s0 pd nn hn80 hpdd a (by omega) x ex ) (cwVm 1 F.2.2.2.2.1 (fun _ h => h) mw_631 mw_628 mw_629 mw_630 mw_5 rfl rfl ydX8_sign ⟨by decide, by decide⟩) (by omega) mW_o rfl rfl hl.1 rfl (Nat.le_of_ble_eq_true rfl) dX8_whyNot_109 ⟨Nat.zero_le _, Nat.zero_le _⟩ (fun rq63 Kq63 H locs hq63 hP hS => ?_)
      obtain ⟨hq63w, hq63r⟩ := hq63; subst hq63w hq63r
      refine lv_topi (fun v64 ev64 => ?_)
      have ev64 : v64 = chr_ pd nn a := ev64.trans (sg_ok hok5)
      subst ev64
      refine w_calls F hP hS (c_X8_kindOf l D Y ad N hI _ (chr_ pd nn a)) (cwSm 1 F.2.2.2.2.1 (fun _ h => h) mw_670 mw_668 mw_669 mw_5 rfl rfl ydX8_kindOf ⟨by decide, by decide⟩) rfl hl.1 rfl (Nat.le_of_ble_eq_true rfl) dX8_whyNot_112 ⟨Nat.zero_le _, Nat.zero_le _⟩ (fun rq65 Kq65 H locs hq65 hP hS => ?_)
      obtain ⟨hq65w, hq65r⟩ := hq65; rw [hq65w] at hP
      subst hq65r
      refine lv_iload_n F.1 F.2.1 dX8_whyNot_115 rfl (lv_at hl 0 rfl) ?_
      refine w_calli F hP hS (c_X8_whyNotPart l D Y ad N hI C o hh kn (nI nn) gr r s0 (r 4) (if (chr_ pd nn a) = 100 then 0 else if (chr_ pd nn a) = 108 then 1 else 2) (M_nu pd nn a) hokS) (cwVm 3 F.2.2.2.2.1 (fun _ h => h) mw_219 mw_216 mw_217 mw_218 mw_5 rfl rfl ydX8_whyNotPart ⟨by decide, by decide⟩) (by omega) mW_o rfl rfl hl.1 rfl (Nat.le_of_ble_eq_true rfl) dX8_whyNot_116 ⟨Nat.zero_le _, Nat.zero_le _⟩ (fun rq66 Kq66 H locs hq66 hP hS => ?_)
      obtain ⟨hq66w, hq66r⟩ := hq66; subst hq66w
      subst hq66r
      exact w_iret F hr hlocks hP hS dX8_whyNot_119 ⟨rfl, by rw [nu_of hok5 hnd (ch_ne k62 (by decide)) (ch_ne k62 (by decide)) (ch_ne k62 (by decide)), err_p (Or.inl k62)]⟩
    · by_cases k67 : chr_ pd nn a = 101
      · refine lv_tableIn (off := 116) (tgt := 143) F.1 F.2.1 dX8_whyNot_27 (by rw [k67]; decide) (by rw [k67]; decide) (by rw [k67]; rfl) (by decide) ?_
        refine lv_aload_n F.1 F.2.1 dX8_whyNot_143 rfl (lv_at hl 1 rfl) ?_
        refine w_calli F hP hS (c_X8_isRolling l D Y ad N hI C o hh kn (nI nn) gr r s0) (cwVm 0 F.2.2.2.2.1 (fun _ h => h) mw_361 mw_358 mw_359 mw_360 mw_5 rfl rfl ydX8_isRolling ⟨by decide, by decide⟩) (by omega) mW_o rfl rfl hl.1 rfl (Nat.le_of_ble_eq_true rfl) dX8_whyNot_144 ⟨Nat.zero_le _, Nat.zero_le _⟩ (fun rq68 Kq68 H locs hq68 hP hS => ?_)
        obtain ⟨hq68w, hq68r⟩ := hq68; subst hq68w
        refine lv_if_eq (tgt := 154) F.1 F.2.1 dX8_whyNot_147 (by decide) (fun c69 => ?_) (fun c69 => ?_)
        · refine lv_bipush (v := (-5)) F.1 F.2.1 dX8_whyNot_154 (by decide) ?_
          exact w_iret F hr hlocks hP hS dX8_whyNot_156 ⟨rfl, False.elim (by unfold P_ok at hok5; rw [k67] at hok5; exact hok5)⟩
        · refine lv_iconst (v := 0) F.1 F.2.1 dX8_whyNot_150 (by decide) ?_
          refine lv_goto (tgt := 156) F.1 F.2.1 dX8_whyNot_151 (by decide) ?_
          exact w_iret F hr hlocks hP hS dX8_whyNot_156 ⟨rfl, False.elim (by unfold P_ok at hok5; rw [k67] at hok5; exact hok5)⟩
      · by_cases k70 : chr_ pd nn a = 102
        · refine lv_tableIn (off := 116) (tgt := 143) F.1 F.2.1 dX8_whyNot_27 (by rw [k70]; decide) (by rw [k70]; decide) (by rw [k70]; rfl) (by decide) ?_
          refine lv_aload_n F.1 F.2.1 dX8_whyNot_143 rfl (lv_at hl 1 rfl) ?_
          refine w_calli F hP hS (c_X8_isRolling l D Y ad N hI C o hh kn (nI nn) gr r s0) (cwVm 0 F.2.2.2.2.1 (fun _ h => h) mw_361 mw_358 mw_359 mw_360 mw_5 rfl rfl ydX8_isRolling ⟨by decide, by decide⟩) (by omega) mW_o rfl rfl hl.1 rfl (Nat.le_of_ble_eq_true rfl) dX8_whyNot_144 ⟨Nat.zero_le _, Nat.zero_le _⟩ (fun rq71 Kq71 H locs hq71 hP hS => ?_)
          obtain ⟨hq71w, hq71r⟩ := hq71; subst hq71w
          refine lv_if_eq (tgt := 154) F.1 F.2.1 dX8_whyNot_147 (by decide) (fun c72 => ?_) (fun c72 => ?_)
          · refine lv_bipush (v := (-5)) F.1 F.2.1 dX8_whyNot_154 (by decide) ?_
            exact w_iret F hr hlocks hP hS dX8_whyNot_156 ⟨rfl, False.elim (by unfold P_ok at hok5; rw [k70] at hok5; exact hok5)⟩
          · refine lv_iconst (v := 0) F.1 F.2.1 dX8_whyNot_150 (by decide) ?_
            refine lv_goto (tgt := 156) F.1 F.2.1 dX8_whyNot_151 (by decide) ?_
            exact w_iret F hr hlocks hP hS dX8_whyNot_156 ⟨rfl, False.elim (by unfold P_ok at hok5; rw [k70] at hok5; exact hok5)⟩
        · by_cases k73 : chr_ pd nn a = 103
          · refine lv_tableIn (off := 73) (tgt := 100) F.1 F.2.1 dX8_whyNot_27 (by rw [k73]; decide) (by rw [k73]; decide) (by rw [k73]; rfl) (by decide) ?_
            refine lv_aload_n F.1 F.2.1 dX8_whyNot_100 rfl (lv_at hl 1 rfl) ?_
            refine lv_aload_n F.1 F.2.1 dX8_whyNot_101 rfl (lv_at hl 1 rfl) ?_
            refine gf_X8_7 F hP (by omega) mW_o (v := .ref (ad (o + 1))) rfl dX8_whyNot_102 ?_
            refine lv_iconst (v := 4) F.1 F.2.1 dX8_whyNot_105 (by decide) ?_
            refine w_iald F hP (by omega) mW_s (k := 4) rfl (by omega) (Nat.le_of_ble_eq_true rfl) (v := r 4) (put_at (k := 4) (by omega) (by omega)) dX8_whyNot_106 ?_
            refine lv_aload_n F.1 F.2.1 dX8_whyNot_107 rfl (lv_at hl 1 rfl) ?_
            refine lv_iload_n F.1 F.2.1 dX8_whyNot_108 rfl (lv_at hl 2 rfl) ?_
            refine w_calli F hP hS (c_X8_sign l D Y ad N hI C o hh kn gr r s0 pd nn hn80 hpdd a (by omega) x ex ) (cwVm 1 F.2.2.2.2.1 (fun _ h => h) mw_631 mw_628 mw_629 mw_630 mw_5 rfl rfl ydX8_sign ⟨by decide, by decide⟩) (by omega) mW_o rfl rfl hl.1 rfl (Nat.le_of_ble_eq_true rfl) dX8_whyNot_109 ⟨Nat.zero_le _, Nat.zero_le _⟩ (fun rq74 Kq74 H locs hq74 hP hS => ?_)
            obtain ⟨hq74w, hq74r⟩ := hq74; subst hq74w hq74r
            refine lv_topi (fun v75 ev75 => ?_)
            have ev75 : v75 = chr_ pd nn a := ev75.trans (sg_ok hok5)
            subst ev75
            refine w_calls F hP hS (c_X8_kindOf l D Y ad N hI _ (chr_ pd nn a)) (cwSm 1 F.2.2.2.2.1 (fun _ h => h) mw_670 mw_668 mw_669 mw_5 rfl rfl ydX8_kindOf ⟨by decide, by decide⟩) rfl hl.1 rfl (Nat.le_of_ble_eq_true rfl) dX8_whyNot_112 ⟨Nat.zero_le _, Nat.zero_le _⟩ (fun rq76 Kq76 H locs hq76 hP hS => ?_)
            obtain ⟨hq76w, hq76r⟩ := hq76; rw [hq76w] at hP
            subst hq76r
            refine lv_iload_n F.1 F.2.1 dX8_whyNot_115 rfl (lv_at hl 0 rfl) ?_
            refine w_calli F hP hS (c_X8_whyNotPart l D Y ad N hI C o hh kn (nI nn) gr r s0 (r 4) (if (chr_ pd nn a) = 100 then 0 else if (chr_ pd nn a) = 108 then 1 else 2) (M_nu pd nn a) hokS) (cwVm 3 F.2.2.2.2.1 (fun _ h => h) mw_219 mw_216 mw_217 mw_218 mw_5 rfl rfl ydX8_whyNotPart ⟨by decide, by decide⟩) (by omega) mW_o rfl rfl hl.1 rfl (Nat.le_of_ble_eq_true rfl) dX8_whyNot_116 ⟨Nat.zero_le _, Nat.zero_le _⟩ (fun rq77 Kq77 H locs hq77 hP hS => ?_)
            obtain ⟨hq77w, hq77r⟩ := hq77; subst hq77w
            subst hq77r
            exact w_iret F hr hlocks hP hS dX8_whyNot_119 ⟨rfl, by rw [nu_of hok5 hnd (ch_ne k73 (by decide)) (ch_ne k73 (by decide)) (ch_ne k73 (by decide)), err_p (Or.inr (Or.inr k73))]⟩
          · by_cases k78 : chr_ pd nn a = 104
            · refine lv_tableIn (off := 93) (tgt := 120) F.1 F.2.1 dX8_whyNot_27 (by rw [k78]; decide) (by rw [k78]; decide) (by rw [k78]; rfl) (by decide) ?_
              refine lv_iload_n F.1 F.2.1 dX8_whyNot_120 rfl (lv_at hl 0 rfl) ?_
              refine lv_iconst (v := 1) F.1 F.2.1 dX8_whyNot_121 (by decide) ?_
              refine lv_bipush (v := 60) F.1 F.2.1 dX8_whyNot_122 (by decide) ?_
              refine w_calls F hP hS (c_X8_in l D Y ad N hI _ (M_nu pd nn a) 1 60) (cwSm 3 F.2.2.2.2.1 (fun _ h => h) mw_183 mw_181 mw_182 mw_5 rfl rfl ydX8_in ⟨by decide, by decide⟩) rfl hl.1 rfl (Nat.le_of_ble_eq_true rfl) dX8_whyNot_124 ⟨Nat.zero_le _, Nat.zero_le _⟩ (fun rq79 Kq79 H locs hq79 hP hS => ?_)
              obtain ⟨hq79w, hq79r⟩ := hq79; rw [hq79w] at hP
              refine lv_if_eq (tgt := 134) F.1 F.2.1 dX8_whyNot_127 (by decide) (fun c80 => ?_) (fun c80 => ?_)
              · refine lv_bipush (v := (-2)) F.1 F.2.1 dX8_whyNot_134 (by decide) ?_
                exact w_iret F hr hlocks hP hS dX8_whyNot_136 ⟨rfl, by rw [nu_of hok5 hnd (ch_ne k78 (by decide)) (ch_ne k78 (by decide)) (ch_ne k78 (by decide)), err_h k78, if_neg (b_f hq79r c80)]⟩
              · refine lv_iconst (v := 0) F.1 F.2.1 dX8_whyNot_130 (by decide) ?_
                refine lv_goto (tgt := 136) F.1 F.2.1 dX8_whyNot_131 (by decide) ?_
                exact w_iret F hr hlocks hP hS dX8_whyNot_136 ⟨rfl, by rw [nu_of hok5 hnd (ch_ne k78 (by decide)) (ch_ne k78 (by decide)) (ch_ne k78 (by decide)), err_h k78, if_pos (b_t hq79r c80)]⟩
            · by_cases k81 : chr_ pd nn a = 105
              · refine lv_tableIn (off := 116) (tgt := 143) F.1 F.2.1 dX8_whyNot_27 (by rw [k81]; decide) (by rw [k81]; decide) (by rw [k81]; rfl) (by decide) ?_
                refine lv_aload_n F.1 F.2.1 dX8_whyNot_143 rfl (lv_at hl 1 rfl) ?_
                refine w_calli F hP hS (c_X8_isRolling l D Y ad N hI C o hh kn (nI nn) gr r s0) (cwVm 0 F.2.2.2.2.1 (fun _ h => h) mw_361 mw_358 mw_359 mw_360 mw_5 rfl rfl ydX8_isRolling ⟨by decide, by decide⟩) (by omega) mW_o rfl rfl hl.1 rfl (Nat.le_of_ble_eq_true rfl) dX8_whyNot_144 ⟨Nat.zero_le _, Nat.zero_le _⟩ (fun rq82 Kq82 H locs hq82 hP hS => ?_)
                obtain ⟨hq82w, hq82r⟩ := hq82; subst hq82w
                refine lv_if_eq (tgt := 154) F.1 F.2.1 dX8_whyNot_147 (by decide) (fun c83 => ?_) (fun c83 => ?_)
                · refine lv_bipush (v := (-5)) F.1 F.2.1 dX8_whyNot_154 (by decide) ?_
                  exact w_iret F hr hlocks hP hS dX8_whyNot_156 ⟨rfl, False.elim (by unfold P_ok at hok5; rw [k81] at hok5; exact hok5)⟩
                · refine lv_iconst (v := 0) F.1 F.2.1 dX8_whyNot_150 (by decide) ?_
                  refine lv_goto (tgt := 156) F.1 F.2.1 dX8_whyNot_151 (by decide) ?_
                  exact w_iret F hr hlocks hP hS dX8_whyNot_156 ⟨rfl, False.elim (by unfold P_ok at hok5; rw [k81] at hok5; exact hok5)⟩
              · by_cases k84 : chr_ pd nn a = 106
                · refine lv_tableIn (off := 116) (tgt := 143) F.1 F.2.1 dX8_whyNot_27 (by rw [k84]; decide) (by rw [k84]; decide) (by rw [k84]; rfl) (by decide) ?_
                  refine lv_aload_n F.1 F.2.1 dX8_whyNot_143 rfl (lv_at hl 1 rfl) ?_
                  refine w_calli F hP hS (c_X8_isRolling l D Y ad N hI C o hh kn (nI nn) gr r s0) (cwVm 0 F.2.2.2.2.1 (fun _ h => h) mw_361 mw_358 mw_359 mw_360 mw_5 rfl rfl ydX8_isRolling ⟨by decide, by decide⟩) (by omega) mW_o rfl rfl hl.1 rfl (Nat.le_of_ble_eq_true rfl) dX8_whyNot_144 ⟨Nat.zero_le _, Nat.zero_le _⟩ (fun rq85 Kq85 H locs hq85 hP hS => ?_)
                  obtain ⟨hq85w, hq85r⟩ := hq85; subst hq85w
                  refine lv_if_eq (tgt := 154) F.1 F.2.1 dX8_whyNot_147 (by decide) (fun c86 => ?_) (fun c86 => ?_)
                  · refine lv_bipush (v := (-5)) F.1 F.2.1 dX8_whyNot_154 (by decide) ?_
                    exact w_iret F hr hlocks hP hS dX8_whyNot_156 ⟨rfl, False.elim (by unfold P_ok at hok5; rw [k84] at hok5; exact hok5)⟩
                  · refine lv_iconst (v := 0) F.1 F.2.1 dX8_whyNot_150 (by decide) ?_
                    refine lv_goto (tgt := 156) F.1 F.2.1 dX8_whyNot_151 (by decide) ?_
                    exact w_iret F hr hlocks hP hS dX8_whyNot_156 ⟨rfl, False.elim (by unfold P_ok at hok5; rw [k84] at hok5; exact hok5)⟩
                · by_cases k87 : chr_ pd nn a = 107
                  · refine lv_tableIn (off := 116) (tgt := 143) F.1 F.2.1 dX8_whyNot_27 (by rw [k87]; decide) (by rw [k87]; decide) (by rw [k87]; rfl) (by decide) ?_
                    refine lv_aload_n F.1 F.2.1 dX8_whyNot_143 rfl (lv_at hl 1 rfl) ?_
                    refine w_calli F hP hS (c_X8_isRolling l D Y ad N hI C o hh kn (nI nn) gr r s0) (cwVm 0 F.2.2.2.2.1 (fun _ h => h) mw_361 mw_358 mw_359 mw_360 mw_5 rfl rfl ydX8_isRolling ⟨by decide, by decide⟩) (by omega) mW_o rfl rfl hl.1 rfl (Nat.le_of_ble_eq_true rfl) dX8_whyNot_144 ⟨Nat.zero_le _, Nat.zero_le _⟩ (fun rq88 Kq88 H locs hq88 hP hS => ?_)
                    obtain ⟨hq88w, hq88r⟩ := hq88; subst hq88w
                    refine lv_if_eq (tgt := 154) F.1 F.2.1 dX8_whyNot_147 (by decide) (fun c89 => ?_) (fun c89 => ?_)
                    · refine lv_bipush (v := (-5)) F.1 F.2.1 dX8_whyNot_154 (by decide) ?_
                      exact w_iret F hr hlocks hP hS dX8_whyNot_156 ⟨rfl, False.elim (by unfold P_ok at hok5; rw [k87] at hok5; exact hok5)⟩
                    · refine lv_iconst (v := 0) F.1 F.2.1 dX8_whyNot_150 (by decide) ?_
                      refine lv_goto (tgt := 156) F.1 F.2.1 dX8_whyNot_151 (by decide) ?_
                      exact w_iret F hr hlocks hP hS dX8_whyNot_156 ⟨rfl, False.elim (by unfold P_ok at hok5; rw [k87] at hok5; exact hok5)⟩
                  · by_cases k90 : chr_ pd nn a = 108
                    · refine lv_tableIn (off := 73) (tgt := 100) F.1 F.2.1 dX8_whyNot_27 (by rw [k90]; decide) (by rw [k90]; decide) (by rw [k90]; rfl) (by decide) ?_
                      refine lv_aload_n F.1 F.2.1 dX8_whyNot_100 rfl (lv_at hl 1 rfl) ?_
                      refine lv_aload_n F.1 F.2.1 dX8_whyNot_101 rfl (lv_at hl 1 rfl) ?_
                      refine gf_X8_7 F hP (by omega) mW_o (v := .ref (ad (o + 1))) rfl dX8_whyNot_102 ?_
                      refine lv_iconst (v := 4) F.1 F.2.1 dX8_whyNot_105 (by decide) ?_
                      refine w_iald F hP (by omega) mW_s (k := 4) rfl (by omega) (Nat.le_of_ble_eq_true rfl) (v := r 4) (put_at (k := 4) (by omega) (by omega)) dX8_whyNot_106 ?_
                      refine lv_aload_n F.1 F.2.1 dX8_whyNot_107 rfl (lv_at hl 1 rfl) ?_
                      refine lv_iload_n F.1 F.2.1 dX8_whyNot_108 rfl (lv_at hl 2 rfl) ?_
                      refine w_calli F hP hS (c_X8_sign l D Y ad N hI C o hh kn gr r s0 pd nn hn80 hpdd a (by omega) x ex ) (cwVm 1 F.2.2.2.2.1 (fun _ h => h) mw_631 mw_628 mw_629 mw_630 mw_5 rfl rfl ydX8_sign ⟨by decide, by decide⟩) (by omega) mW_o rfl rfl hl.1 rfl (Nat.le_of_ble_eq_true rfl) dX8_whyNot_109 ⟨Nat.zero_le _, Nat.zero_le _⟩ (fun rq91 Kq91 H locs hq91 hP hS => ?_)
                      obtain ⟨hq91w, hq91r⟩ := hq91; subst hq91w hq91r
                      refine lv_topi (fun v92 ev92 => ?_)
                      have ev92 : v92 = chr_ pd nn a := ev92.trans (sg_ok hok5)
                      subst ev92
                      refine w_calls F hP hS (c_X8_kindOf l D Y ad N hI _ (chr_ pd nn a)) (cwSm 1 F.2.2.2.2.1 (fun _ h => h) mw_670 mw_668 mw_669 mw_5 rfl rfl ydX8_kindOf ⟨by decide, by decide⟩) rfl hl.1 rfl (Nat.le_of_ble_eq_true rfl) dX8_whyNot_112 ⟨Nat.zero_le _, Nat.zero_le _⟩ (fun rq93 Kq93 H locs hq93 hP hS => ?_)
                      obtain ⟨hq93w, hq93r⟩ := hq93; rw [hq93w] at hP
                      subst hq93r
                      refine lv_iload_n F.1 F.2.1 dX8_whyNot_115 rfl (lv_at hl 0 rfl) ?_
                      refine w_calli F hP hS (c_X8_whyNotPart l D Y ad N hI C o hh kn (nI nn) gr r s0 (r 4) (if (chr_ pd nn a) = 100 then 0 else if (chr_ pd nn a) = 108 then 1 else 2) (M_nu pd nn a) hokS) (cwVm 3 F.2.2.2.2.1 (fun _ h => h) mw_219 mw_216 mw_217 mw_218 mw_5 rfl rfl ydX8_whyNotPart ⟨by decide, by decide⟩) (by omega) mW_o rfl rfl hl.1 rfl (Nat.le_of_ble_eq_true rfl) dX8_whyNot_116 ⟨Nat.zero_le _, Nat.zero_le _⟩ (fun rq94 Kq94 H locs hq94 hP hS => ?_)
                      obtain ⟨hq94w, hq94r⟩ := hq94; subst hq94w
                      subst hq94r
                      exact w_iret F hr hlocks hP hS dX8_whyNot_119 ⟨rfl, by rw [nu_of hok5 hnd (ch_ne k90 (by decide)) (ch_ne k90 (by decide)) (ch_ne k90 (by decide)), err_p (Or.inr (Or.inl k90))]⟩
                    · by_cases k95 : chr_ pd nn a = 109
                      · refine lv_tableIn (off := 116) (tgt := 143) F.1 F.2.1 dX8_whyNot_27 (by rw [k95]; decide) (by rw [k95]; decide) (by rw [k95]; rfl) (by decide) ?_
                        refine lv_aload_n F.1 F.2.1 dX8_whyNot_143 rfl (lv_at hl 1 rfl) ?_
                        refine w_calli F hP hS (c_X8_isRolling l D Y ad N hI C o hh kn (nI nn) gr r s0) (cwVm 0 F.2.2.2.2.1 (fun _ h => h) mw_361 mw_358 mw_359 mw_360 mw_5 rfl rfl ydX8_isRolling ⟨by decide, by decide⟩) (by omega) mW_o rfl rfl hl.1 rfl (Nat.le_of_ble_eq_true rfl) dX8_whyNot_144 ⟨Nat.zero_le _, Nat.zero_le _⟩ (fun rq96 Kq96 H locs hq96 hP hS => ?_)
                        obtain ⟨hq96w, hq96r⟩ := hq96; subst hq96w
                        refine lv_if_eq (tgt := 154) F.1 F.2.1 dX8_whyNot_147 (by decide) (fun c97 => ?_) (fun c97 => ?_)
                        · refine lv_bipush (v := (-5)) F.1 F.2.1 dX8_whyNot_154 (by decide) ?_
                          exact w_iret F hr hlocks hP hS dX8_whyNot_156 ⟨rfl, False.elim (by unfold P_ok at hok5; rw [k95] at hok5; exact hok5)⟩
                        · refine lv_iconst (v := 0) F.1 F.2.1 dX8_whyNot_150 (by decide) ?_
                          refine lv_goto (tgt := 156) F.1 F.2.1 dX8_whyNot_151 (by decide) ?_
                          exact w_iret F hr hlocks hP hS dX8_whyNot_156 ⟨rfl, False.elim (by unfold P_ok at hok5; rw [k95] at hok5; exact hok5)⟩
                      · by_cases k98 : chr_ pd nn a = 110
                        · refine lv_tableIn (off := 116) (tgt := 143) F.1 F.2.1 dX8_whyNot_27 (by rw [k98]; decide) (by rw [k98]; decide) (by rw [k98]; rfl) (by decide) ?_
                          refine lv_aload_n F.1 F.2.1 dX8_whyNot_143 rfl (lv_at hl 1 rfl) ?_
                          refine w_calli F hP hS (c_X8_isRolling l D Y ad N hI C o hh kn (nI nn) gr r s0) (cwVm 0 F.2.2.2.2.1 (fun _ h => h) mw_361 mw_358 mw_359 mw_360 mw_5 rfl rfl ydX8_isRolling ⟨by decide, by decide⟩) (by omega) mW_o rfl rfl hl.1 rfl (Nat.le_of_ble_eq_true rfl) dX8_whyNot_144 ⟨Nat.zero_le _, Nat.zero_le _⟩ (fun rq99 Kq99 H locs hq99 hP hS => ?_)
                          obtain ⟨hq99w, hq99r⟩ := hq99; subst hq99w
                          refine lv_if_eq (tgt := 154) F.1 F.2.1 dX8_whyNot_147 (by decide) (fun c100 => ?_) (fun c100 => ?_)
                          · refine lv_bipush (v := (-5)) F.1 F.2.1 dX8_whyNot_154 (by decide) ?_
                            exact w_iret F hr hlocks hP hS dX8_whyNot_156 ⟨rfl, False.elim (by unfold P_ok at hok5; rw [k98] at hok5; exact hok5)⟩
                          · refine lv_iconst (v := 0) F.1 F.2.1 dX8_whyNot_150 (by decide) ?_
                            refine lv_goto (tgt := 156) F.1 F.2.1 dX8_whyNot_151 (by decide) ?_
                            exact w_iret F hr hlocks hP hS dX8_whyNot_156 ⟨rfl, False.elim (by unfold P_ok at hok5; rw [k98] at hok5; exact hok5)⟩
                        · by_cases k101 : chr_ pd nn a = 111
                          · refine lv_tableIn (off := 116) (tgt := 143) F.1 F.2.1 dX8_whyNot_27 (by rw [k101]; decide) (by rw [k101]; decide) (by rw [k101]; rfl) (by decide) ?_
                            refine lv_aload_n F.1 F.2.1 dX8_whyNot_143 rfl (lv_at hl 1 rfl) ?_
                            refine w_calli F hP hS (c_X8_isRolling l D Y ad N hI C o hh kn (nI nn) gr r s0) (cwVm 0 F.2.2.2.2.1 (fun _ h => h) mw_361 mw_358 mw_359 mw_360 mw_5 rfl rfl ydX8_isRolling ⟨by decide, by decide⟩) (by omega) mW_o rfl rfl hl.1 rfl (Nat.le_of_ble_eq_true rfl) dX8_whyNot_144 ⟨Nat.zero_le _, Nat.zero_le _⟩ (fun rq102 Kq102 H locs hq102 hP hS => ?_)
                            obtain ⟨hq102w, hq102r⟩ := hq102; subst hq102w
                            refine lv_if_eq (tgt := 154) F.1 F.2.1 dX8_whyNot_147 (by decide) (fun c103 => ?_) (fun c103 => ?_)
                            · refine lv_bipush (v := (-5)) F.1 F.2.1 dX8_whyNot_154 (by decide) ?_
                              exact w_iret F hr hlocks hP hS dX8_whyNot_156 ⟨rfl, False.elim (by unfold P_ok at hok5; rw [k101] at hok5; exact hok5)⟩
                            · refine lv_iconst (v := 0) F.1 F.2.1 dX8_whyNot_150 (by decide) ?_
                              refine lv_goto (tgt := 156) F.1 F.2.1 dX8_whyNot_151 (by decide) ?_
                              exact w_iret F hr hlocks hP hS dX8_whyNot_156 ⟨rfl, False.elim (by unfold P_ok at hok5; rw [k101] at hok5; exact hok5)⟩
                          · by_cases k104 : chr_ pd nn a = 112
                            · refine lv_tableIn (off := 116) (tgt := 143) F.1 F.2.1 dX8_whyNot_27 (by rw [k104]; decide) (by rw [k104]; decide) (by rw [k104]; rfl) (by decide) ?_
                              refine lv_aload_n F.1 F.2.1 dX8_whyNot_143 rfl (lv_at hl 1 rfl) ?_
                              refine w_calli F hP hS (c_X8_isRolling l D Y ad N hI C o hh kn (nI nn) gr r s0) (cwVm 0 F.2.2.2.2.1 (fun _ h => h) mw_361 mw_358 mw_359 mw_360 mw_5 rfl rfl ydX8_isRolling ⟨by decide, by decide⟩) (by omega) mW_o rfl rfl hl.1 rfl (Nat.le_of_ble_eq_true rfl) dX8_whyNot_144 ⟨Nat.zero_le _, Nat.zero_le _⟩ (fun rq105 Kq105 H locs hq105 hP hS => ?_)
                              obtain ⟨hq105w, hq105r⟩ := hq105; subst hq105w
                              refine lv_if_eq (tgt := 154) F.1 F.2.1 dX8_whyNot_147 (by decide) (fun c106 => ?_) (fun c106 => ?_)
                              · refine lv_bipush (v := (-5)) F.1 F.2.1 dX8_whyNot_154 (by decide) ?_
                                exact w_iret F hr hlocks hP hS dX8_whyNot_156 ⟨rfl, False.elim (by unfold P_ok at hok5; rw [k104] at hok5; exact hok5)⟩
                              · refine lv_iconst (v := 0) F.1 F.2.1 dX8_whyNot_150 (by decide) ?_
                                refine lv_goto (tgt := 156) F.1 F.2.1 dX8_whyNot_151 (by decide) ?_
                                exact w_iret F hr hlocks hP hS dX8_whyNot_156 ⟨rfl, False.elim (by unfold P_ok at hok5; rw [k104] at hok5; exact hok5)⟩
                            · by_cases k107 : chr_ pd nn a = 113
                              · refine lv_tableIn (off := 116) (tgt := 143) F.1 F.2.1 dX8_whyNot_27 (by rw [k107]; decide) (by rw [k107]; decide) (by rw [k107]; rfl) (by decide) ?_
                                refine lv_aload_n F.1 F.2.1 dX8_whyNot_143 rfl (lv_at hl 1 rfl) ?_
                                refine w_calli F hP hS (c_X8_isRolling l D Y ad N hI C o hh kn (nI nn) gr r s0) (cwVm 0 F.2.2.2.2.1 (fun _ h => h) mw_361 mw_358 mw_359 mw_360 mw_5 rfl rfl ydX8_isRolling ⟨by decide, by decide⟩) (by omega) mW_o rfl rfl hl.1 rfl (Nat.le_of_ble_eq_true rfl) dX8_whyNot_144 ⟨Nat.zero_le _, Nat.zero_le _⟩ (fun rq108 Kq108 H locs hq108 hP hS => ?_)
                                obtain ⟨hq108w, hq108r⟩ := hq108; subst hq108w
                                refine lv_if_eq (tgt := 154) F.1 F.2.1 dX8_whyNot_147 (by decide) (fun c109 => ?_) (fun c109 => ?_)
                                · refine lv_bipush (v := (-5)) F.1 F.2.1 dX8_whyNot_154 (by decide) ?_
                                  exact w_iret F hr hlocks hP hS dX8_whyNot_156 ⟨rfl, False.elim (by unfold P_ok at hok5; rw [k107] at hok5; exact hok5)⟩
                                · refine lv_iconst (v := 0) F.1 F.2.1 dX8_whyNot_150 (by decide) ?_
                                  refine lv_goto (tgt := 156) F.1 F.2.1 dX8_whyNot_151 (by decide) ?_
                                  exact w_iret F hr hlocks hP hS dX8_whyNot_156 ⟨rfl, False.elim (by unfold P_ok at hok5; rw [k107] at hok5; exact hok5)⟩
                              · by_cases k110 : chr_ pd nn a = 114
                                · refine lv_tableIn (off := 110) (tgt := 137) F.1 F.2.1 dX8_whyNot_27 (by rw [k110]; decide) (by rw [k110]; decide) (by rw [k110]; rfl) (by decide) ?_
                                  refine lv_aload_n F.1 F.2.1 dX8_whyNot_137 rfl (lv_at hl 1 rfl) ?_
                                  refine lv_iload_n F.1 F.2.1 dX8_whyNot_138 rfl (lv_at hl 0 rfl) ?_
                                  refine w_calli F hP hS (c_X8_whyNotRoll l D Y ad N hI C o hh kn (nI nn) gr r s0 (M_nu pd nn a)) (cwVm 1 F.2.2.2.2.1 (fun _ h => h) mw_357 mw_354 mw_355 mw_356 mw_5 rfl rfl ydX8_whyNotRoll ⟨by decide, by decide⟩) (by omega) mW_o rfl rfl hl.1 rfl (Nat.le_of_ble_eq_true rfl) dX8_whyNot_139 ⟨Nat.zero_le _, Nat.zero_le _⟩ (fun rq111 Kq111 H locs hq111 hP hS => ?_)
                                  obtain ⟨hq111w, hq111r⟩ := hq111; subst hq111w
                                  subst hq111r
                                  exact w_iret F hr hlocks hP hS dX8_whyNot_142 ⟨rfl, by rw [nu_of hok5 hnd (ch_ne k110 (by decide)) (ch_ne k110 (by decide)) (ch_ne k110 (by decide)), err_r k110]⟩
                                · refine lv_tableOut (tgt := 143) F.1 F.2.1 dX8_whyNot_27 (by have := lv_neT k62 (a := 100) rfl; have := lv_neT k67 (a := 101) rfl; have := lv_neT k70 (a := 102) rfl; have := lv_neT k73 (a := 103) rfl; have := lv_neT k78 (a := 104) rfl; have := lv_neT k81 (a := 105) rfl; have := lv_neT k84 (a := 106) rfl; have := lv_neT k87 (a := 107) rfl; have := lv_neT k90 (a := 108) rfl; have := lv_neT k95 (a := 109) rfl; have := lv_neT k98 (a := 110) rfl; have := lv_neT k101 (a := 111) rfl; have := lv_neT k104 (a := 112) rfl; have := lv_neT k107 (a := 113) rfl; have := lv_neT k110 (a := 114) rfl; omega) (by decide) ?_
                                  refine lv_aload_n F.1 F.2.1 dX8_whyNot_143 rfl (lv_at hl 1 rfl) ?_
                                  refine w_calli F hP hS (c_X8_isRolling l D Y ad N hI C o hh kn (nI nn) gr r s0) (cwVm 0 F.2.2.2.2.1 (fun _ h => h) mw_361 mw_358 mw_359 mw_360 mw_5 rfl rfl ydX8_isRolling ⟨by decide, by decide⟩) (by omega) mW_o rfl rfl hl.1 rfl (Nat.le_of_ble_eq_true rfl) dX8_whyNot_144 ⟨Nat.zero_le _, Nat.zero_le _⟩ (fun rq112 Kq112 H locs hq112 hP hS => ?_)
                                  obtain ⟨hq112w, hq112r⟩ := hq112; subst hq112w
                                  refine lv_if_eq (tgt := 154) F.1 F.2.1 dX8_whyNot_147 (by decide) (fun c113 => ?_) (fun c113 => ?_)
                                  · refine lv_bipush (v := (-5)) F.1 F.2.1 dX8_whyNot_154 (by decide) ?_
                                    exact w_iret F hr hlocks hP hS dX8_whyNot_156 ⟨rfl, by rw [err_1 (ok_def hok5 k62 k73 k78 k90 k110), if_neg (b_f hq112r c113)]⟩
                                  · refine lv_iconst (v := 0) F.1 F.2.1 dX8_whyNot_150 (by decide) ?_
                                    refine lv_goto (tgt := 156) F.1 F.2.1 dX8_whyNot_151 (by decide) ?_
                                    exact w_iret F hr hlocks hP hS dX8_whyNot_156 ⟨rfl, by rw [err_1 (ok_def hok5 k62 k73 k78 k90 k110), if_pos (b_t hq112r c113)]⟩
set_option maxRecDepth 20000 in
set_option maxHeartbeats 4000000 in
/-- an order done -/
theorem c_X8_does (l : Launch) (D : va_G) (Y : Nat → ClassId) (ad : Nat → Nat) (N : Nat) (hI : wI ad N) (C : Nat → va_E) (o : Nat) (hh : o + 6 ≤ N) (kn gr : Int32) (r s0 : Nat → Int32) (pd : Nat → Int32) (nn : Nat) (hn80 : nn ≤ 80) (hpdd : C (o + 5) = .inl (Y 0, 80, .inl pd)) (a : Nat) (ha : a ≤ 98) (x : Int32) (ex : x = nI a) (hok5 : P_ok pd nn a) (hnd : ¬ isDg (chr_ pd nn (P_end pd nn a))) (B : Int) (hB : B + 600 ≤ 900000000) (hokR : okRow B r) (he : T_err r (chr_ pd nn a) (P_no pd nn a) = 0) : Met l yX8_does (wm yX8_does cX8_does 4 none) { frames := 4, cells := 0, slots := 0, locals := 94 } (wPc D Y ad N [.ref (ad o), .int (x)] (mW Y ad C o kn (nI nn) gr 0 r s0)) (wQv D ad N (fun C' => ∃ gr', C' = mW Y ad C o kn (nI nn) gr' 0 (T_do r (chr_ pd nn a) (P_no pd nn a)) s0)) 0 0 (wA ad N) := by
  refine wMet RX8 rfl (by decide +kernel) (Nat.le_of_ble_eq_true rfl) (lv := [(0, .ref (ad o)), (1, .int (x))]) rfl ?_
  intro p e s m below meth c ls F hr hlocks hP hl
  have hS : va_S (wA ad N) s.heap s.heap [] := va_S.rf
  refine lv_aload_n F.1 F.2.1 dX8_does_0 rfl (lv_at hl 0 rfl) ?_
  refine lv_iload_n F.1 F.2.1 dX8_does_1 rfl (lv_at hl 1 rfl) ?_
  refine lv_iconst (v := 1) F.1 F.2.1 dX8_does_2 (by decide) ?_
  refine lv_iadd F.1 F.2.1 dX8_does_3 ?_
  refine w_calli F hP hS (c_X8_digit l D Y ad N hI C o hh kn gr r s0 pd nn hn80 hpdd (a + 1) (by omega) (x + 1) (ix_add (X := a) (Y := 1) (Z := a + 1) ex rfl (by omega)) ) (cwVm 1 F.2.2.2.2.1 (fun _ h => h) mw_635 mw_632 mw_633 mw_634 mw_5 rfl rfl ydX8_digit ⟨by decide, by decide⟩) (by omega) mW_o rfl rfl hl.1 rfl (Nat.le_of_ble_eq_true rfl) dX8_does_4 ⟨Nat.zero_le _, Nat.zero_le _⟩ (fun rq1 Kq1 H locs hq1 hP hS => ?_)
  obtain ⟨hq1w, hq1r⟩ := hq1; subst hq1w hq1r
  refine lv_if_ge (tgt := 14) F.1 F.2.1 dX8_does_7 (by decide) (fun c2 => ?_) (fun c2 => ?_)
  · refine lv_aload_n F.1 F.2.1 dX8_does_14 rfl (lv_at hl 0 rfl) ?_
    refine lv_iload_n F.1 F.2.1 dX8_does_15 rfl (lv_at hl 1 rfl) ?_
    refine lv_iconst (v := 1) F.1 F.2.1 dX8_does_16 (by decide) ?_
    refine lv_iadd F.1 F.2.1 dX8_does_17 ?_
    refine w_calli F hP hS (c_X8_numberAt l D Y ad N hI C o hh kn gr r s0 pd nn hn80 hpdd (a + 1) (by omega) (x + 1) (ix_add (X := a) (Y := 1) (Z := a + 1) ex rfl (by omega)) (dg_nn.mp (i_nlt c2))) (cwVm 1 F.2.2.2.2.1 (fun _ h => h) mw_667 mw_664 mw_665 mw_666 mw_5 rfl rfl ydX8_numberAt ⟨by decide, by decide⟩) (by omega) mW_o rfl rfl hl.1 rfl (Nat.le_of_ble_eq_true rfl) dX8_does_18 ⟨Nat.zero_le _, Nat.zero_le _⟩ (fun rq3 Kq3 H locs hq3 hP hS => ?_)
    obtain ⟨hq3w, hq3r⟩ := hq3; subst hq3w hq3r
    refine lv_topi (fun v4 ev4 => ?_)
    have ev4 : v4 = M_nu pd nn a := ev4.trans ((if_pos (dg_nn.mp (i_nlt c2))).symm)
    subst ev4
    refine lv_istore_n (lv' := [(2, .int (M_nu pd nn a)), (0, .ref (ad o)), (1, .int (x))]) F.1 F.2.1 dX8_does_21 rfl hl (by decide) rfl (fun ls hl => ?_)
    refine lv_iconst (v := 0) F.1 F.2.1 dX8_does_22 (by decide) ?_
    refine lv_istore_n (lv' := [(3, .int (0)), (2, .int (M_nu pd nn a)), (0, .ref (ad o)), (1, .int (x))]) F.1 F.2.1 dX8_does_23 rfl hl (by decide) rfl (fun ls hl => ?_)
    refine lv_aload_n F.1 F.2.1 dX8_does_24 rfl (lv_at hl 2 rfl) ?_
    refine lv_iload_n F.1 F.2.1 dX8_does_25 rfl (lv_at hl 3 rfl) ?_
    refine w_calli F hP hS (c_X8_sign l D Y ad N hI C o hh kn gr r s0 pd nn hn80 hpdd a (by omega) x ex ) (cwVm 1 F.2.2.2.2.1 (fun _ h => h) mw_631 mw_628 mw_629 mw_630 mw_5 rfl rfl ydX8_sign ⟨by decide, by decide⟩) (by omega) mW_o rfl rfl hl.1 rfl (Nat.le_of_ble_eq_true rfl) dX8_does_26 ⟨Nat.zero_le _, Nat.zero_le _⟩ (fun rq5 Kq5 H locs hq5 hP hS => ?_)
    obtain ⟨hq5w, hq5r⟩ := hq5; subst hq5w hq5r
    refine lv_topi (fun v6 ev6 => ?_)
    have ev6 : v6 = chr_ pd nn a := ev6.trans (sg_ok hok5)
    subst ev6
    by_cases k7 : chr_ pd nn a = 33
    · refine lv_lookup (off := 88) (tgt := 117) F.1 F.2.1 dX8_does_29 (by decide) ((by rw [k7]; rfl)) (by decide) ?_
      refine lv_aload_n F.1 F.2.1 dX8_does_117 rfl (lv_at hl 2 rfl) ?_
      refine w_calli F hP hS (c_X8_pushes l D Y ad N hI C o hh kn (nI nn) gr r s0) (cwVm 0 F.2.2.2.2.1 (fun _ h => h) mw_441 mw_438 mw_439 mw_440 mw_5 rfl rfl ydX8_pushes ⟨by decide, by decide⟩) (by omega) mW_o rfl rfl hl.1 rfl (Nat.le_of_ble_eq_true rfl) dX8_does_118 ⟨Nat.zero_le _, Nat.zero_le _⟩ (fun rq8 Kq8 H locs hq8 hP hS => ?_)
      obtain ⟨hq8w, hq8r⟩ := hq8; subst hq8w
      subst hq8r
      refine lv_istore_n (lv' := [(3, .int (T_push r 7)), (2, .int (M_nu pd nn a)), (0, .ref (ad o)), (1, .int (x))]) F.1 F.2.1 dX8_does_121 rfl hl (by decide) rfl (fun ls hl => ?_)
      refine lv_goto (tgt := 145) F.1 F.2.1 dX8_does_122 (by decide) ?_
      exact w_vret F hr hlocks hP hS dX8_does_145 ⟨_, by rw [do_b k7]⟩
    · by_cases k9 : chr_ pd nn a = 60
      · refine lv_lookup (off := 70) (tgt := 99) F.1 F.2.1 dX8_does_29 (by decide) ((lv_osw k7 rfl).trans ((by rw [k9]; rfl))) (by decide) ?_
        refine lv_aload_n F.1 F.2.1 dX8_does_99 rfl (lv_at hl 2 rfl) ?_
        refine lv_iconst (v := 0) F.1 F.2.1 dX8_does_100 (by decide) ?_
        refine lv_iconst (v := 0) F.1 F.2.1 dX8_does_101 (by decide) ?_
        refine w_callv F hP hS (c_X8_taps l D Y ad N hI C o hh kn (nI nn) gr 0 (Or.inl rfl) r s0 0) (cwVm 2 F.2.2.2.2.1 (fun _ h => h) mw_417 mw_414 mw_415 mw_416 mw_5 rfl rfl ydX8_taps ⟨by decide, by decide⟩) (by omega) mW_o rfl rfl hl.1 rfl (Nat.le_of_ble_eq_true rfl) dX8_does_102 ⟨Nat.zero_le _, Nat.zero_le _⟩ (fun Kq10 H locs hq10 hP hS => ?_)
        subst hq10
        refine lv_goto (tgt := 145) F.1 F.2.1 dX8_does_105 (by decide) ?_
        exact w_vret F hr hlocks hP hS dX8_does_145 ⟨_, by rw [do_l k9]⟩
      · by_cases k11 : chr_ pd nn a = 62
        · refine lv_lookup (off := 79) (tgt := 108) F.1 F.2.1 dX8_does_29 (by decide) ((lv_osw k7 rfl).trans ((lv_osw k9 rfl).trans ((by rw [k11]; rfl)))) (by decide) ?_
          refine lv_aload_n F.1 F.2.1 dX8_does_108 rfl (lv_at hl 2 rfl) ?_
          refine lv_iconst (v := 0) F.1 F.2.1 dX8_does_109 (by decide) ?_
          refine lv_iconst (v := 1) F.1 F.2.1 dX8_does_110 (by decide) ?_
          refine w_callv F hP hS (c_X8_taps l D Y ad N hI C o hh kn (nI nn) gr 0 (Or.inl rfl) r s0 1) (cwVm 2 F.2.2.2.2.1 (fun _ h => h) mw_417 mw_414 mw_415 mw_416 mw_5 rfl rfl ydX8_taps ⟨by decide, by decide⟩) (by omega) mW_o rfl rfl hl.1 rfl (Nat.le_of_ble_eq_true rfl) dX8_does_111 ⟨Nat.zero_le _, Nat.zero_le _⟩ (fun Kq12 H locs hq12 hP hS => ?_)
          subst hq12
          refine lv_goto (tgt := 145) F.1 F.2.1 dX8_does_114 (by decide) ?_
          exact w_vret F hr hlocks hP hS dX8_does_145 ⟨_, by rw [do_g k11]⟩
        · by_cases k13 : chr_ pd nn a = 104
          · refine lv_lookup (off := 51) (tgt := 80) F.1 F.2.1 dX8_does_29 (by decide) ((lv_osw k7 rfl).trans ((lv_osw k9 rfl).trans ((lv_osw k11 rfl).trans ((by rw [k13]; rfl))))) (by decide) ?_
            refine lv_aload_n F.1 F.2.1 dX8_does_80 rfl (lv_at hl 2 rfl) ?_
            refine lv_iconst (v := 0) F.1 F.2.1 dX8_does_81 (by decide) ?_
            refine lv_iload_n F.1 F.2.1 dX8_does_82 rfl (lv_at hl 1 rfl) ?_
            refine w_callv F hP hS (c_X8_begins l D Y ad N hI C o hh kn (nI nn) gr 0 (Or.inl rfl) r s0 (M_nu pd nn a)) (cwVm 2 F.2.2.2.2.1 (fun _ h => h) mw_274 mw_271 mw_272 mw_273 mw_5 rfl rfl ydX8_begins ⟨by decide, by decide⟩) (by omega) mW_o rfl rfl hl.1 rfl (Nat.le_of_ble_eq_true rfl) dX8_does_83 ⟨Nat.zero_le _, Nat.zero_le _⟩ (fun Kq14 H locs hq14 hP hS => ?_)
            subst hq14
            refine lv_goto (tgt := 145) F.1 F.2.1 dX8_does_86 (by decide) ?_
            exact w_vret F hr hlocks hP hS dX8_does_145 ⟨_, by rw [nu_of hok5 hnd (ch_ne k13 (by decide)) (ch_ne k13 (by decide)) (ch_ne k13 (by decide)), do_h k13]⟩
          · by_cases k15 : chr_ pd nn a = 114
            · refine lv_lookup (off := 60) (tgt := 89) F.1 F.2.1 dX8_does_29 (by decide) ((lv_osw k7 rfl).trans ((lv_osw k9 rfl).trans ((lv_osw k11 rfl).trans ((lv_osw k13 rfl).trans ((by rw [k15]; rfl)))))) (by decide) ?_
              refine lv_aload_n F.1 F.2.1 dX8_does_89 rfl (lv_at hl 2 rfl) ?_
              refine lv_iconst (v := 0) F.1 F.2.1 dX8_does_90 (by decide) ?_
              refine lv_iload_n F.1 F.2.1 dX8_does_91 rfl (lv_at hl 1 rfl) ?_
              have he1 := he
              rw [nu_of hok5 hnd (ch_ne k15 (by decide)) (ch_ne k15 (by decide)) (ch_ne k15 (by decide)), err_r k15] at he1
              obtain ⟨kp, hk1, hk20, ek, hcl, h5, h11⟩ := re_0 he1
              refine w_calli F hP hS (c_X8_rolls l D Y ad N hI C o hh kn (nI nn) gr 0 (Or.inl rfl) r s0 B kp (by omega) (by omega) hokR.1 (hokR.2.2.1 h5) h11 (M_nu pd nn a) ek) (cwVm 2 F.2.2.2.2.1 (fun _ h => h) mw_365 mw_362 mw_363 mw_364 mw_5 rfl rfl ydX8_rolls ⟨by decide, by decide⟩) (by omega) mW_o rfl rfl hl.1 rfl (Nat.le_of_ble_eq_true rfl) dX8_does_92 ⟨Nat.zero_le _, Nat.zero_le _⟩ (fun rq16 Kq16 H locs hq16 hP hS => ?_)
              obtain ⟨hq16w, hq16r⟩ := hq16; subst hq16w
              subst hq16r
              refine lv_istore_n (lv' := [(3, .int (T_rolled kp r gr 11)), (2, .int (M_nu pd nn a)), (0, .ref (ad o)), (1, .int (x))]) F.1 F.2.1 dX8_does_95 rfl hl (by decide) rfl (fun ls hl => ?_)
              refine lv_goto (tgt := 145) F.1 F.2.1 dX8_does_96 (by decide) ?_
              exact w_vret F hr hlocks hP hS dX8_does_145 ⟨_, by rw [nu_of hok5 hnd (ch_ne k15 (by decide)) (ch_ne k15 (by decide)) (ch_ne k15 (by decide)), do_r k15, hcl, rolled_g kp (g := 0) (g' := gr)]⟩
            · refine lv_lookup (off := 96) (tgt := 125) F.1 F.2.1 dX8_does_29 (by decide) ((lv_osw k7 rfl).trans ((lv_osw k9 rfl).trans ((lv_osw k11 rfl).trans ((lv_osw k13 rfl).trans ((lv_osw k15 rfl).trans (rfl)))))) (by decide) ?_
              refine lv_aload_n F.1 F.2.1 dX8_does_125 rfl (lv_at hl 2 rfl) ?_
              refine lv_aload_n F.1 F.2.1 dX8_does_126 rfl (lv_at hl 2 rfl) ?_
              refine gf_X8_7 F hP (by omega) mW_o (v := .ref (ad (o + 1))) rfl dX8_does_127 ?_
              refine lv_iconst (v := 4) F.1 F.2.1 dX8_does_130 (by decide) ?_
              refine w_iald F hP (by omega) mW_s (k := 4) rfl (by omega) (Nat.le_of_ble_eq_true rfl) (v := r 4) (put_at (k := 4) (by omega) (by omega)) dX8_does_131 ?_
              refine lv_aload_n F.1 F.2.1 dX8_does_132 rfl (lv_at hl 2 rfl) ?_
              refine lv_iload_n F.1 F.2.1 dX8_does_133 rfl (lv_at hl 3 rfl) ?_
              refine w_calli F hP hS (c_X8_sign l D Y ad N hI C o hh kn gr r s0 pd nn hn80 hpdd a (by omega) x ex ) (cwVm 1 F.2.2.2.2.1 (fun _ h => h) mw_631 mw_628 mw_629 mw_630 mw_5 rfl rfl ydX8_sign ⟨by decide, by decide⟩) (by omega) mW_o rfl rfl hl.1 rfl (Nat.le_of_ble_eq_true rfl) dX8_does_134 ⟨Nat.zero_le _, Nat.zero_le _⟩ (fun rq17 Kq17 H locs hq17 hP hS => ?_)
              obtain ⟨hq17w, hq17r⟩ := hq17; subst hq17w hq17r
              refine lv_topi (fun v18 ev18 => ?_)
              have ev18 : v18 = chr_ pd nn a := ev18.trans (sg_ok hok5)
              subst ev18
              refine w_calls F hP hS (c_X8_kindOf l D Y ad N hI _ (chr_ pd nn a)) (cwSm 1 F.2.2.2.2.1 (fun _ h => h) mw_670 mw_668 mw_669 mw_5 rfl rfl ydX8_kindOf ⟨by decide, by decide⟩) rfl hl.1 rfl (Nat.le_of_ble_eq_true rfl) dX8_does_137 ⟨Nat.zero_le _, Nat.zero_le _⟩ (fun rq19 Kq19 H locs hq19 hP hS => ?_)
              obtain ⟨hq19w, hq19r⟩ := hq19; rw [hq19w] at hP
              subst hq19r
              refine lv_iload_n F.1 F.2.1 dX8_does_140 rfl (lv_at hl 1 rfl) ?_
              have hpt := ok_part hok5 k7 k9 k11 k13 k15
              have he1 := he
              rw [nu_of hok5 hnd k7 k9 k11, err_p hpt] at he1
              obtain ⟨kp, m4, ek, hk4, hm4, h4, hcl, hokp⟩ := pe_0 he1 hokR.1
              have hcl2 : (r 4).toNatClampNeg = m4 := by rw [h4]; exact nI_clamp (by omega)
              refine w_calli F hP hS (c_X8_comes l D Y ad N hI C o hh kn (nI nn) gr r s0 kp m4 hk4 hm4 h4 hcl2 (r 4) ek (if (chr_ pd nn a) = 100 then 0 else if (chr_ pd nn a) = 108 then 1 else 2) (M_nu pd nn a)) (cwVm 3 F.2.2.2.2.1 (fun _ h => h) mw_223 mw_220 mw_221 mw_222 mw_5 rfl rfl ydX8_comes ⟨by decide, by decide⟩) (by omega) mW_o rfl rfl hl.1 rfl (Nat.le_of_ble_eq_true rfl) dX8_does_141 ⟨Nat.zero_le _, Nat.zero_le _⟩ (fun rq20 Kq20 H locs hq20 hP hS => ?_)
              obtain ⟨hq20w, hq20r⟩ := hq20; subst hq20w
              subst hq20r
              refine lv_istore_n (lv' := [(3, .int (T_insert kp (if (chr_ pd nn a) = 100 then 0 else if (chr_ pd nn a) = 108 then 1 else 2) (M_nu pd nn a) r 4)), (2, .int (M_nu pd nn a)), (0, .ref (ad o)), (1, .int (x))]) F.1 F.2.1 dX8_does_144 rfl hl (by decide) rfl (fun ls hl => ?_)
              exact w_vret F hr hlocks hP hS dX8_does_145 ⟨_, by rw [nu_of hok5 hnd k7 k9 k11, do_p hpt, hcl]⟩
  · refine lv_iconst (v := 1) F.1 F.2.1 dX8_does_10 (by decide) ?_
    refine lv_goto (tgt := 21) F.1 F.2.1 dX8_does_11 (by decide) ?_
    refine lv_topi (fun v21 ev21 => ?_)
    have ev21 : v21 = M_nu pd nn a := ev21.trans ((if_neg (fun q => dg_nn.mpr q (i_lt c2))).symm)
    subst ev21
    refine lv_istore_n (lv' := [(2, .int (M_nu pd nn a)), (0, .ref (ad o)), (1, .int (x))]) F.1 F.2.1 dX8_does_21 rfl hl (by decide) rfl (fun ls hl => ?_)
    refine lv_iconst (v := 0) F.1 F.2.1 dX8_does_22 (by decide) ?_
    refine lv_istore_n (lv' := [(3, .int (0)), (2, .int (M_nu pd nn a)), (0, .ref (ad o)), (1, .int (x))]) F.1 F.2.1 dX8_does_23 rfl hl (by decide) rfl (fun ls hl => ?_)
    refine lv_aload_n F.1 F.2.1 dX8_does_24 rfl (lv_at hl 2 rfl) ?_
    refine lv_iload_n F.1 F.2.1 dX8_does_25 rfl (lv_at hl 3 rfl) ?_
    refine w_calli F hP hS (c_X8_sign l D Y ad N hI C o hh kn gr r s0 pd nn hn80 hpdd a (by omega) x ex ) (cwVm 1 F.2.2.2.2.1 (fun _ h => h) mw_631 mw_628 mw_629 mw_630 mw_5 rfl rfl ydX8_sign ⟨by decide, by decide⟩) (by omega) mW_o rfl rfl hl.1 rfl (Nat.le_of_ble_eq_true rfl) dX8_does_26 ⟨Nat.zero_le _, Nat.zero_le _⟩ (fun rq22 Kq22 H locs hq22 hP hS => ?_)
    obtain ⟨hq22w, hq22r⟩ := hq22; subst hq22w hq22r
    refine lv_topi (fun v23 ev23 => ?_)
    have ev23 : v23 = chr_ pd nn a := ev23.trans (sg_ok hok5)
    subst ev23
    by_cases k24 : chr_ pd nn a = 33
    · refine lv_lookup (off := 88) (tgt := 117) F.1 F.2.1 dX8_does_29 (by decide) ((by rw [k24]; rfl)) (by decide) ?_
      refine lv_aload_n F.1 F.2.1 dX8_does_117 rfl (lv_at hl 2 rfl) ?_
      refine w_calli F hP hS (c_X8_pushes l D Y ad N hI C o hh kn (nI nn) gr r s0) (cwVm 0 F.2.2.2.2.1 (fun _ h => h) mw_441 mw_438 mw_439 mw_440 mw_5 rfl rfl ydX8_pushes ⟨by decide, by decide⟩) (by omega) mW_o rfl rfl hl.1 rfl (Nat.le_of_ble_eq_true rfl) dX8_does_118 ⟨Nat.zero_le _, Nat.zero_le _⟩ (fun rq25 Kq25 H locs hq25 hP hS => ?_)
      obtain ⟨hq25w, hq25r⟩ := hq25; subst hq25w
      subst hq25r
      refine lv_istore_n (lv' := [(3, .int (T_push r 7)), (2, .int (M_nu pd nn a)), (0, .ref (ad o)), (1, .int (x))]) F.1 F.2.1 dX8_does_121 rfl hl (by decide) rfl (fun ls hl => ?_)
      refine lv_goto (tgt := 145) F.1 F.2.1 dX8_does_122 (by decide) ?_
      exact w_vret F hr hlocks hP hS dX8_does_145 ⟨_, by rw [do_b k24]⟩
    · by_cases k26 : chr_ pd nn a = 60
      · refine lv_lookup (off := 70) (tgt := 99) F.1 F.2.1 dX8_does_29 (by decide) ((lv_osw k24 rfl).trans ((by rw [k26]; rfl))) (by decide) ?_
        refine lv_aload_n F.1 F.2.1 dX8_does_99 rfl (lv_at hl 2 rfl) ?_
        refine lv_iconst (v := 0) F.1 F.2.1 dX8_does_100 (by decide) ?_
        refine lv_iconst (v := 0) F.1 F.2.1 dX8_does_101 (by decide) ?_
        refine w_callv F hP hS (c_X8_taps l D Y ad N hI C o hh kn (nI nn) gr 0 (Or.inl rfl) r s0 0) (cwVm 2 F.2.2.2.2.1 (fun _ h => h) mw_417 mw_414 mw_415 mw_416 mw_5 rfl rfl ydX8_taps ⟨by decide, by decide⟩) (by omega) mW_o rfl rfl hl.1 rfl (Nat.le_of_ble_eq_true rfl) dX8_does_102 ⟨Nat.zero_le _, Nat.zero_le _⟩ (fun Kq27 H locs hq27 hP hS => ?_)
        subst hq27
        refine lv_goto (tgt := 145) F.1 F.2.1 dX8_does_105 (by decide) ?_
        exact w_vret F hr hlocks hP hS dX8_does_145 ⟨_, by rw [do_l k26]⟩
      · by_cases k28 : chr_ pd nn a = 62
        · refine lv_lookup (off := 79) (tgt := 108) F.1 F.2.1 dX8_does_29 (by decide) ((lv_osw k24 rfl).trans ((lv_osw k26 rfl).trans ((by rw [k28]; rfl)))) (by decide) ?_
          refine lv_aload_n F.1 F.2.1 dX8_does_108 rfl (lv_at hl 2 rfl) ?_
          refine lv_iconst (v := 0) F.1 F.2.1 dX8_does_109 (by decide) ?_
          refine lv_iconst (v := 1) F.1 F.2.1 dX8_does_110 (by decide) ?_
          refine w_callv F hP hS (c_X8_taps l D Y ad N hI C o hh kn (nI nn) gr 0 (Or.inl rfl) r s0 1) (cwVm 2 F.2.2.2.2.1 (fun _ h => h) mw_417 mw_414 mw_415 mw_416 mw_5 rfl rfl ydX8_taps ⟨by decide, by decide⟩) (by omega) mW_o rfl rfl hl.1 rfl (Nat.le_of_ble_eq_true rfl) dX8_does_111 ⟨Nat.zero_le _, Nat.zero_le _⟩ (fun Kq29 H locs hq29 hP hS => ?_)
          subst hq29
          refine lv_goto (tgt := 145) F.1 F.2.1 dX8_does_114 (by decide) ?_
          exact w_vret F hr hlocks hP hS dX8_does_145 ⟨_, by rw [do_g k28]⟩
        · by_cases k30 : chr_ pd nn a = 104
          · refine lv_lookup (off := 51) (tgt := 80) F.1 F.2.1 dX8_does_29 (by decide) ((lv_osw k24 rfl).trans ((lv_osw k26 rfl).trans ((lv_osw k28 rfl).trans ((by rw [k30]; rfl))))) (by decide) ?_
            refine lv_aload_n F.1 F.2.1 dX8_does_80 rfl (lv_at hl 2 rfl) ?_
            refine lv_iconst (v := 0) F.1 F.2.1 dX8_does_81 (by decide) ?_
            refine lv_iload_n F.1 F.2.1 dX8_does_82 rfl (lv_at hl 1 rfl) ?_
            refine w_callv F hP hS (c_X8_begins l D Y ad N hI C o hh kn (nI nn) gr 0 (Or.inl rfl) r s0 (M_nu pd nn a)) (cwVm 2 F.2.2.2.2.1 (fun _ h => h) mw_274 mw_271 mw_272 mw_273 mw_5 rfl rfl ydX8_begins ⟨by decide, by decide⟩) (by omega) mW_o rfl rfl hl.1 rfl (Nat.le_of_ble_eq_true rfl) dX8_does_83 ⟨Nat.zero_le _, Nat.zero_le _⟩ (fun Kq31 H locs hq31 hP hS => ?_)
            subst hq31
            refine lv_goto (tgt := 145) F.1 F.2.1 dX8_does_86 (by decide) ?_
            exact w_vret F hr hlocks hP hS dX8_does_145 ⟨_, by rw [nu_of hok5 hnd (ch_ne k30 (by decide)) (ch_ne k30 (by decide)) (ch_ne k30 (by decide)), do_h k30]⟩
          · by_cases k32 : chr_ pd nn a = 114
            · refine lv_lookup (off := 60) (tgt := 89) F.1 F.2.1 dX8_does_29 (by decide) ((lv_osw k24 rfl).trans ((lv_osw k26 rfl).trans ((lv_osw k28 rfl).trans ((lv_osw k30 rfl).trans ((by rw [k32]; rfl)))))) (by decide) ?_
              refine lv_aload_n F.1 F.2.1 dX8_does_89 rfl (lv_at hl 2 rfl) ?_
              refine lv_iconst (v := 0) F.1 F.2.1 dX8_does_90 (by decide) ?_
              refine lv_iload_n F.1 F.2.1 dX8_does_91 rfl (lv_at hl 1 rfl) ?_
              have he1 := he
              rw [nu_of hok5 hnd (ch_ne k32 (by decide)) (ch_ne k32 (by decide)) (ch_ne k32 (by decide)), err_r k32] at he1
              obtain ⟨kp, hk1, hk20, ek, hcl, h5, h11⟩ := re_0 he1
              refine w_calli F hP hS (c_X8_rolls l D Y ad N hI C o hh kn (nI nn) gr 0 (Or.inl rfl) r s0 B kp (by omega) (by omega) hokR.1 (hokR.2.2.1 h5) h11 (M_nu pd nn a) ek) (cwVm 2 F.2.2.2.2.1 (fun _ h => h) mw_365 mw_362 mw_363 mw_364 mw_5 rfl rfl ydX8_rolls ⟨by decide, by decide⟩) (by omega) mW_o rfl rfl hl.1 rfl (Nat.le_of_ble_eq_true rfl) dX8_does_92 ⟨Nat.zero_le _, Nat.zero_le _⟩ (fun rq33 Kq33 H locs hq33 hP hS => ?_)
              obtain ⟨hq33w, hq33r⟩ := hq33; subst hq33w
              subst hq33r
              refine lv_istore_n (lv' := [(3, .int (T_rolled kp r gr 11)), (2, .int (M_nu pd nn a)), (0, .ref (ad o)), (1, .int (x))]) F.1 F.2.1 dX8_does_95 rfl hl (by decide) rfl (fun ls hl => ?_)
              refine lv_goto (tgt := 145) F.1 F.2.1 dX8_does_96 (by decide) ?_
              exact w_vret F hr hlocks hP hS dX8_does_145 ⟨_, by rw [nu_of hok5 hnd (ch_ne k32 (by decide)) (ch_ne k32 (by decide)) (ch_ne k32 (by decide)), do_r k32, hcl, rolled_g kp (g := 0) (g' := gr)]⟩
            · refine lv_lookup (off := 96) (tgt := 125) F.1 F.2.1 dX8_does_29 (by decide) ((lv_osw k24 rfl).trans ((lv_osw k26 rfl).trans ((lv_osw k28 rfl).trans ((lv_osw k30 rfl).trans ((lv_osw k32 rfl).trans (rfl)))))) (by decide) ?_
              refine lv_aload_n F.1 F.2.1 dX8_does_125 rfl (lv_at hl 2 rfl) ?_
              refine lv_aload_n F.1 F.2.1 dX8_does_126 rfl (lv_at hl 2 rfl) ?_
              refine gf_X8_7 F hP (by omega) mW_o (v := .ref (ad (o + 1))) rfl dX8_does_127 ?_
              refine lv_iconst (v := 4) F.1 F.2.1 dX8_does_130 (by decide) ?_
              refine w_iald F hP (by omega) mW_s (k := 4) rfl (by omega) (Nat.le_of_ble_eq_true rfl) (v := r 4) (put_at (k := 4) (by omega) (by omega)) dX8_does_131 ?_
              refine lv_aload_n F.1 F.2.1 dX8_does_132 rfl (lv_at hl 2 rfl) ?_
              refine lv_iload_n F.1 F.2.1 dX8_does_133 rfl (lv_at hl 3 rfl) ?_
              refine w_calli F hP hS (c_X8_sign l D Y ad N hI C o hh kn gr r s0 pd nn hn80 hpdd a (by omega) x ex ) (cwVm 1 F.2.2.2.2.1 (fun _ h => h) mw_631 mw_628 mw_629 mw_630 mw_5 rfl rfl ydX8_sign ⟨by decide, by decide⟩) (by omega) mW_o rfl rfl hl.1 rfl (Nat.le_of_ble_eq_true rfl) dX8_does_134 ⟨Nat.zero_le _, Nat.zero_le _⟩ (fun rq34 Kq34 H locs hq34 hP hS => ?_)
              obtain ⟨hq34w, hq34r⟩ := hq34; subst hq34w hq34r
              refine lv_topi (fun v35 ev35 => ?_)
              have ev35 : v35 = chr_ pd nn a := ev35.trans (sg_ok hok5)
              subst ev35
              refine w_calls F hP hS (c_X8_kindOf l D Y ad N hI _ (chr_ pd nn a)) (cwSm 1 F.2.2.2.2.1 (fun _ h => h) mw_670 mw_668 mw_669 mw_5 rfl rfl ydX8_kindOf ⟨by decide, by decide⟩) rfl hl.1 rfl (Nat.le_of_ble_eq_true rfl) dX8_does_137 ⟨Nat.zero_le _, Nat.zero_le _⟩ (fun rq36 Kq36 H locs hq36 hP hS => ?_)
              obtain ⟨hq36w, hq36r⟩ := hq36; rw [hq36w] at hP
              subst hq36r
              refine lv_iload_n F.1 F.2.1 dX8_does_140 rfl (lv_at hl 1 rfl) ?_
              have hpt := ok_part hok5 k24 k26 k28 k30 k32
              have he1 := he
              rw [nu_of hok5 hnd k24 k26 k28, err_p hpt] at he1
              obtain ⟨kp, m4, ek, hk4, hm4, h4, hcl, hokp⟩ := pe_0 he1 hokR.1
              have hcl2 : (r 4).toNatClampNeg = m4 := by rw [h4]; exact nI_clamp (by omega)
              refine w_calli F hP hS (c_X8_comes l D Y ad N hI C o hh kn (nI nn) gr r s0 kp m4 hk4 hm4 h4 hcl2 (r 4) ek (if (chr_ pd nn a) = 100 then 0 else if (chr_ pd nn a) = 108 then 1 else 2) (M_nu pd nn a)) (cwVm 3 F.2.2.2.2.1 (fun _ h => h) mw_223 mw_220 mw_221 mw_222 mw_5 rfl rfl ydX8_comes ⟨by decide, by decide⟩) (by omega) mW_o rfl rfl hl.1 rfl (Nat.le_of_ble_eq_true rfl) dX8_does_141 ⟨Nat.zero_le _, Nat.zero_le _⟩ (fun rq37 Kq37 H locs hq37 hP hS => ?_)
              obtain ⟨hq37w, hq37r⟩ := hq37; subst hq37w
              subst hq37r
              refine lv_istore_n (lv' := [(3, .int (T_insert kp (if (chr_ pd nn a) = 100 then 0 else if (chr_ pd nn a) = 108 then 1 else 2) (M_nu pd nn a) r 4)), (2, .int (M_nu pd nn a)), (0, .ref (ad o)), (1, .int (x))]) F.1 F.2.1 dX8_does_144 rfl hl (by decide) rfl (fun ls hl => ?_)
              exact w_vret F hr hlocks hP hS dX8_does_145 ⟨_, by rw [nu_of hok5 hnd k24 k26 k28, do_p hpt, hcl]⟩
