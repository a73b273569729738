/-! HoopStairsModel: may it be; a part comes -/
theorem if_iff {c d : Prop} [Decidable c] [Decidable d] {a b : Int32} (h : c ↔ d) : (if c then a else b) = if d then a else b := by
  by_cases q : c
  · rw [if_pos q, if_pos (h.mp q)]
  · rw [if_neg q, if_neg (fun z => q (h.mpr z))]
theorem can_0 {x v : Int32} (h : x = 0) : (10 ≤ v ∧ v ≤ 99) ↔ T_can x v := ⟨fun q => Or.inl ⟨h, q⟩, fun q => by
  rcases q with q | q | q
  · exact q.2
  · rcases q.1 with z | z
    · rw [h] at z; exact absurd z (by decide)
    · rw [h] at z; exact absurd z (by decide)
  · have z := q.1; rw [h] at z; exact absurd z (by decide)⟩
theorem can_3 {x v : Int32} (h : x = 3) : (1 ≤ v ∧ v ≤ 30) ↔ T_can x v := ⟨fun q => Or.inr (Or.inr ⟨h, q⟩), fun q => by
  rcases q with q | q | q
  · have z := q.1; rw [h] at z; exact absurd z (by decide)
  · rcases q.1 with z | z
    · rw [h] at z; exact absurd z (by decide)
    · rw [h] at z; exact absurd z (by decide)
  · exact q.2⟩
theorem can_no {x v : Int32} (h0 : ¬ x = 0) (h3 : ¬ x = 3) (h : ¬ ((x = 1 ∨ x = 2) ∧ 0 ≤ v ∧ v ≤ 20)) : ¬ T_can x v := fun q => by
  rcases q with q | q | q
  · exact h0 q.1
  · exact h q
  · exact h3 q.1
/-- the numbers from k on have come five places further -/
def I_sh (k e : Nat) (r : Nat → Int32) : Nat → Int32 := fun j => if k + 5 < j ∧ j < e then r (j - 5) else r j
theorem I_sh_0 {k e : Nat} {r : Nat → Int32} (h : e = k + 6) : I_sh k e r = r := funext fun j => if_neg (by omega)
theorem I_sh_s {k e : Nat} {r : Nat → Int32} (h : k + 1 + 6 ≤ e) : upd (I_sh (k + 1) e r) (6 + k) (I_sh (k + 1) e r (1 + k)) = I_sh k e r := by
  funext j
  by_cases a : j = 6 + k
  · subst a
    rw [upd_s]
    show (if k + 1 + 5 < 1 + k ∧ 1 + k < e then r (1 + k - 5) else r (1 + k)) = (if k + 5 < 6 + k ∧ 6 + k < e then r (6 + k - 5) else r (6 + k))
    rw [if_neg (by omega), if_pos (by omega), show 6 + k - 5 = 1 + k by omega]
  · rw [upd_n a]
    show (if k + 1 + 5 < j ∧ j < e then r (j - 5) else r j) = (if k + 5 < j ∧ j < e then r (j - 5) else r j)
    by_cases b : k + 1 + 5 < j ∧ j < e
    · rw [if_pos b, if_pos (by omega)]
    · rw [if_neg b, if_neg (by omega)]
theorem I_sh_lo {k e j : Nat} {r : Nat → Int32} (h : j ≤ k + 5) : I_sh k e r j = r j := if_neg (by omega)
theorem ins_is {p m : Nat} {kd v : Int32} {r : Nat → Int32} (h4 : (r 4).toNatClampNeg = m) : upd (upd (upd (upd (upd (upd (upd (I_sh (60 + 5 * p) (66 + 5 * m) r) (61 + 5 * p) kd) (62 + 5 * p) v) (63 + 5 * p) 0) (64 + 5 * p) 0) (65 + 5 * p) 0) 4 (r 4 + 1)) 5 0 = T_insert p kd v r := by
  funext j
  unfold T_insert
  by_cases a5 : j = 5
  · subst a5; rw [upd_s, if_neg (by decide), if_pos rfl]
  rw [upd_n a5]
  by_cases a4 : j = 4
  · subst a4; rw [upd_s, if_pos rfl]
  rw [upd_n a4, if_neg a4, if_neg a5]
  by_cases b5 : j = 65 + 5 * p
  · subst b5; rw [upd_s, if_neg (by omega), if_neg (by omega), if_pos (by omega)]
  rw [upd_n b5]
  by_cases b4 : j = 64 + 5 * p
  · subst b4; rw [upd_s, if_neg (by omega), if_neg (by omega), if_pos (by omega)]
  rw [upd_n b4]
  by_cases b3 : j = 63 + 5 * p
  · subst b3; rw [upd_s, if_neg (by omega), if_neg (by omega), if_pos (by omega)]
  rw [upd_n b3]
  by_cases b2 : j = 62 + 5 * p
  · subst b2; rw [upd_s, if_neg (by omega), if_pos rfl]
  rw [upd_n b2]
  by_cases b1 : j = 61 + 5 * p
  · subst b1; rw [upd_s, if_pos rfl]
  rw [upd_n b1, if_neg b1, if_neg b2, if_neg (by omega), h4]
  unfold I_sh
  by_cases c : 60 + 5 * p + 5 < j ∧ j < 66 + 5 * m
  · rw [if_pos c, if_pos (by omega)]
  · rw [if_neg c, if_neg (by omega)]
set_option maxRecDepth 20000 in
set_option maxHeartbeats 4000000 in
/-- may a setting be so -/
theorem c_X8_canSet (l : Launch) (D : va_G) (Y : Nat → ClassId) (ad : Nat → Nat) (N : Nat) (hI : wI ad N) (C : Nat → va_E) (x v : Int32) : Met l yX8_canSet (wm yX8_canSet cX8_canSet 2 (some .boolean)) { frames := 1, cells := 0, slots := 0, locals := 22 } (wPc D Y ad N [.int (x), .int (v)] C) (wQi D ad N (fun r C' => C' = C ∧ r = if T_can x v then 1 else 0)) 0 0 (wA ad N) := by
  refine wMet RX8 rfl (by decide +kernel) (Nat.le_of_ble_eq_true rfl) (lv := [(0, .int (x)), (1, .int (v))]) rfl ?_
  intro p e s m below meth c ls F hr hlocks hP hl
  have hS : va_S (wA ad N) s.heap s.heap [] := va_S.rf
  refine lv_iload_n F.1 F.2.1 dX8_canSet_0 rfl (lv_at hl 0 rfl) ?_
  by_cases k1 : x = 0
  · refine lv_lookup (off := 27) (tgt := 28) F.1 F.2.1 dX8_canSet_1 (by decide) ((by rw [k1]; rfl)) (by decide) ?_
    refine lv_iload_n F.1 F.2.1 dX8_canSet_28 rfl (lv_at hl 1 rfl) ?_
    refine lv_bipush (v := 10) F.1 F.2.1 dX8_canSet_29 (by decide) ?_
    refine lv_bipush (v := 99) F.1 F.2.1 dX8_canSet_31 (by decide) ?_
    refine w_calls F hP hS (c_X8_in l D Y ad N hI _ v 10 99) (cwSm 3 F.2.2.2.2.1 (fun _ h => h) mw_183 mw_181 mw_182 mw_5 rfl rfl ydX8_in ⟨by decide, by decide⟩) rfl hl.1 rfl (Nat.le_of_ble_eq_true rfl) dX8_canSet_33 ⟨Nat.zero_le _, Nat.zero_le _⟩ (fun rq2 Kq2 H locs hq2 hP hS => ?_)
    obtain ⟨hq2w, hq2r⟩ := hq2; rw [hq2w] at hP
    exact w_zret F hr hlocks hP hS (b_z hq2r) dX8_canSet_36 ⟨rfl, hq2r.trans (if_iff (can_0 k1))⟩
  · by_cases k3 : x = 3
    · refine lv_lookup (off := 36) (tgt := 37) F.1 F.2.1 dX8_canSet_1 (by decide) ((lv_osw k1 rfl).trans ((by rw [k3]; rfl))) (by decide) ?_
      refine lv_iload_n F.1 F.2.1 dX8_canSet_37 rfl (lv_at hl 1 rfl) ?_
      refine lv_iconst (v := 1) F.1 F.2.1 dX8_canSet_38 (by decide) ?_
      refine lv_bipush (v := 30) F.1 F.2.1 dX8_canSet_39 (by decide) ?_
      refine w_calls F hP hS (c_X8_in l D Y ad N hI _ v 1 30) (cwSm 3 F.2.2.2.2.1 (fun _ h => h) mw_183 mw_181 mw_182 mw_5 rfl rfl ydX8_in ⟨by decide, by decide⟩) rfl hl.1 rfl (Nat.le_of_ble_eq_true rfl) dX8_canSet_41 ⟨Nat.zero_le _, Nat.zero_le _⟩ (fun rq4 Kq4 H locs hq4 hP hS => ?_)
      obtain ⟨hq4w, hq4r⟩ := hq4; rw [hq4w] at hP
      exact w_zret F hr hlocks hP hS (b_z hq4r) dX8_canSet_44 ⟨rfl, hq4r.trans (if_iff (can_3 k3))⟩
    · refine lv_lookup (off := 44) (tgt := 45) F.1 F.2.1 dX8_canSet_1 (by decide) ((lv_osw k1 rfl).trans ((lv_osw k3 rfl).trans (rfl))) (by decide) ?_
      refine lv_iload_n F.1 F.2.1 dX8_canSet_45 rfl (lv_at hl 0 rfl) ?_
      refine lv_iconst (v := 1) F.1 F.2.1 dX8_canSet_46 (by decide) ?_
      refine lv_icmp_eq (tgt := 55) F.1 F.2.1 dX8_canSet_47 (by decide) (fun c5 => ?_) (fun c5 => ?_)
      · refine lv_iload_n F.1 F.2.1 dX8_canSet_55 rfl (lv_at hl 1 rfl) ?_
        refine lv_iconst (v := 0) F.1 F.2.1 dX8_canSet_56 (by decide) ?_
        refine lv_bipush (v := 20) F.1 F.2.1 dX8_canSet_57 (by decide) ?_
        refine w_calls F hP hS (c_X8_in l D Y ad N hI _ v 0 20) (cwSm 3 F.2.2.2.2.1 (fun _ h => h) mw_183 mw_181 mw_182 mw_5 rfl rfl ydX8_in ⟨by decide, by decide⟩) rfl hl.1 rfl (Nat.le_of_ble_eq_true rfl) dX8_canSet_59 ⟨Nat.zero_le _, Nat.zero_le _⟩ (fun rq6 Kq6 H locs hq6 hP hS => ?_)
        obtain ⟨hq6w, hq6r⟩ := hq6; rw [hq6w] at hP
        refine lv_if_eq (tgt := 69) F.1 F.2.1 dX8_canSet_62 (by decide) (fun c7 => ?_) (fun c7 => ?_)
        · refine lv_iconst (v := 0) F.1 F.2.1 dX8_canSet_69 (by decide) ?_
          exact w_zret F hr hlocks hP hS (Or.inl rfl) dX8_canSet_70 ⟨rfl, (if_neg (can_no k1 k3 (fun q => (b_f hq6r c7) q.2))).symm⟩
        · refine lv_iconst (v := 1) F.1 F.2.1 dX8_canSet_65 (by decide) ?_
          refine lv_goto (tgt := 70) F.1 F.2.1 dX8_canSet_66 (by decide) ?_
          exact w_zret F hr hlocks hP hS (Or.inr rfl) dX8_canSet_70 ⟨rfl, (if_pos (Or.inr (Or.inl ⟨Or.inl c5, b_t hq6r c7⟩))).symm⟩
      · refine lv_iload_n F.1 F.2.1 dX8_canSet_50 rfl (lv_at hl 0 rfl) ?_
        refine lv_iconst (v := 2) F.1 F.2.1 dX8_canSet_51 (by decide) ?_
        refine lv_icmp_ne (tgt := 69) F.1 F.2.1 dX8_canSet_52 (by decide) (fun c8 => ?_) (fun c8 => ?_)
        · refine lv_iconst (v := 0) F.1 F.2.1 dX8_canSet_69 (by decide) ?_
          exact w_zret F hr hlocks hP hS (Or.inl rfl) dX8_canSet_70 ⟨rfl, (if_neg (can_no k1 k3 (fun q => q.1.elim c5 c8))).symm⟩
        · refine lv_iload_n F.1 F.2.1 dX8_canSet_55 rfl (lv_at hl 1 rfl) ?_
          refine lv_iconst (v := 0) F.1 F.2.1 dX8_canSet_56 (by decide) ?_
          refine lv_bipush (v := 20) F.1 F.2.1 dX8_canSet_57 (by decide) ?_
          refine w_calls F hP hS (c_X8_in l D Y ad N hI _ v 0 20) (cwSm 3 F.2.2.2.2.1 (fun _ h => h) mw_183 mw_181 mw_182 mw_5 rfl rfl ydX8_in ⟨by decide, by decide⟩) rfl hl.1 rfl (Nat.le_of_ble_eq_true rfl) dX8_canSet_59 ⟨Nat.zero_le _, Nat.zero_le _⟩ (fun rq9 Kq9 H locs hq9 hP hS => ?_)
          obtain ⟨hq9w, hq9r⟩ := hq9; rw [hq9w] at hP
          refine lv_if_eq (tgt := 69) F.1 F.2.1 dX8_canSet_62 (by decide) (fun c10 => ?_) (fun c10 => ?_)
          · refine lv_iconst (v := 0) F.1 F.2.1 dX8_canSet_69 (by decide) ?_
            exact w_zret F hr hlocks hP hS (Or.inl rfl) dX8_canSet_70 ⟨rfl, (if_neg (can_no k1 k3 (fun q => (b_f hq9r c10) q.2))).symm⟩
          · refine lv_iconst (v := 1) F.1 F.2.1 dX8_canSet_65 (by decide) ?_
            refine lv_goto (tgt := 70) F.1 F.2.1 dX8_canSet_66 (by decide) ?_
            exact w_zret F hr hlocks hP hS (Or.inr rfl) dX8_canSet_70 ⟨rfl, (if_pos (Or.inr (Or.inl ⟨Or.inr c8, b_t hq9r c10⟩))).symm⟩
set_option maxRecDepth 20000 in
set_option maxHeartbeats 4000000 in
/-- the kind -/
theorem c_X8_kindOf (l : Launch) (D : va_G) (Y : Nat → ClassId) (ad : Nat → Nat) (N : Nat) (hI : wI ad N) (C : Nat → va_E) (x : Int32) : Met l yX8_kindOf (wm yX8_kindOf cX8_kindOf 1 (some .int)) { frames := 0, cells := 0, slots := 0, locals := 0 } (wPc D Y ad N [.int (x)] C) (wQi D ad N (fun r C' => C' = C ∧ r = if x = 100 then 0 else if x = 108 then 1 else 2)) 0 0 (wA ad N) := by
  refine wMet RX8 rfl (by decide +kernel) (Nat.le_of_ble_eq_true rfl) (lv := [(0, .int (x))]) rfl ?_
  intro p e s m below meth c ls F hr hlocks hP hl
  have hS : va_S (wA ad N) s.heap s.heap [] := va_S.rf
  refine lv_iload_n F.1 F.2.1 dX8_kindOf_0 rfl (lv_at hl 0 rfl) ?_
  refine lv_bipush (v := 100) F.1 F.2.1 dX8_kindOf_1 (by decide) ?_
  refine lv_icmp_ne (tgt := 10) F.1 F.2.1 dX8_kindOf_3 (by decide) (fun c1 => ?_) (fun c1 => ?_)
  · refine lv_iload_n F.1 F.2.1 dX8_kindOf_10 rfl (lv_at hl 0 rfl) ?_
    refine lv_bipush (v := 108) F.1 F.2.1 dX8_kindOf_11 (by decide) ?_
    refine lv_icmp_ne (tgt := 20) F.1 F.2.1 dX8_kindOf_13 (by decide) (fun c2 => ?_) (fun c2 => ?_)
    · refine lv_iconst (v := 2) F.1 F.2.1 dX8_kindOf_20 (by decide) ?_
      exact w_iret F hr hlocks hP hS dX8_kindOf_21 ⟨rfl, by rw [if_neg c1, if_neg c2]⟩
    · refine lv_iconst (v := 1) F.1 F.2.1 dX8_kindOf_16 (by decide) ?_
      refine lv_goto (tgt := 21) F.1 F.2.1 dX8_kindOf_17 (by decide) ?_
      exact w_iret F hr hlocks hP hS dX8_kindOf_21 ⟨rfl, by rw [if_neg c1, if_pos c2]⟩
  · refine lv_iconst (v := 0) F.1 F.2.1 dX8_kindOf_6 (by decide) ?_
    refine lv_goto (tgt := 21) F.1 F.2.1 dX8_kindOf_7 (by decide) ?_
    exact w_iret F hr hlocks hP hS dX8_kindOf_21 ⟨rfl, by rw [if_pos c1]⟩
set_option maxRecDepth 20000 in
set_option maxHeartbeats 4000000 in
/-- may a part come -/
theorem c_X8_whyNotPart (l : Launch) (D : va_G) (Y : Nat → ClassId) (ad : Nat → Nat) (N : Nat) (hI : wI ad N) (C : Nat → va_E) (o : Nat) (hh : o + 6 ≤ N) (kn n gr : Int32) (r s0 : Nat → Int32) (x kd v : Int32) (hok : okS r) : Met l yX8_whyNotPart (wm yX8_whyNotPart cX8_whyNotPart 5 (some .int)) { frames := 1, cells := 0, slots := 0, locals := 22 } (wPc D Y ad N [.ref (ad o), .int (x), .int (kd), .int (v)] (mW Y ad C o kn n gr 0 r s0)) (wQi D ad N (fun q C' => C' = mW Y ad C o kn n gr 0 r s0 ∧ q = T_pe x kd v r)) 0 0 (wA ad N) := by
  refine wMet RX8 rfl (by decide +kernel) (Nat.le_of_ble_eq_true rfl) (lv := [(0, .ref (ad o)), (1, .int (x)), (2, .int (kd)), (3, .int (v))]) rfl ?_
  intro p e s m below meth c ls F hr hlocks hP hl
  have hS : va_S (wA ad N) s.heap s.heap [] := va_S.rf
  refine lv_iload_n F.1 F.2.1 dX8_whyNotPart_0 rfl (lv_at hl 1 rfl) ?_
  refine lv_iconst (v := 0) F.1 F.2.1 dX8_whyNotPart_1 (by decide) ?_
  refine lv_aload_n F.1 F.2.1 dX8_whyNotPart_2 rfl (lv_at hl 0 rfl) ?_
  refine gf_X8_7 F hP (by omega) mW_o (v := .ref (ad (o + 1))) rfl dX8_whyNotPart_3 ?_
  refine lv_iconst (v := 4) F.1 F.2.1 dX8_whyNotPart_6 (by decide) ?_
  refine w_iald F hP (by omega) mW_s (k := 4) rfl (by omega) (Nat.le_of_ble_eq_true rfl) (v := r 4) (put_at (k := 4) (by omega) (by omega)) dX8_whyNotPart_7 ?_
  refine w_calls F hP hS (c_X8_in l D Y ad N hI _ x 0 (r 4)) (cwSm 3 F.2.2.2.2.1 (fun _ h => h) mw_183 mw_181 mw_182 mw_5 rfl rfl ydX8_in ⟨by decide, by decide⟩) rfl hl.1 rfl (Nat.le_of_ble_eq_true rfl) dX8_whyNotPart_8 ⟨Nat.zero_le _, Nat.zero_le _⟩ (fun rq1 Kq1 H locs hq1 hP hS => ?_)
  obtain ⟨hq1w, hq1r⟩ := hq1; rw [hq1w] at hP
  refine lv_if_ne (tgt := 16) F.1 F.2.1 dX8_whyNotPart_11 (by decide) (fun c2 => ?_) (fun c2 => ?_)
  · refine lv_iload_n F.1 F.2.1 dX8_whyNotPart_16 rfl (lv_at hl 2 rfl) ?_
    refine lv_iconst (v := 0) F.1 F.2.1 dX8_whyNotPart_17 (by decide) ?_
    refine lv_iconst (v := 2) F.1 F.2.1 dX8_whyNotPart_18 (by decide) ?_
    refine w_calls F hP hS (c_X8_in l D Y ad N hI _ kd 0 2) (cwSm 3 F.2.2.2.2.1 (fun _ h => h) mw_183 mw_181 mw_182 mw_5 rfl rfl ydX8_in ⟨by decide, by decide⟩) rfl hl.1 rfl (Nat.le_of_ble_eq_true rfl) dX8_whyNotPart_19 ⟨Nat.zero_le _, Nat.zero_le _⟩ (fun rq3 Kq3 H locs hq3 hP hS => ?_)
    obtain ⟨hq3w, hq3r⟩ := hq3; rw [hq3w] at hP
    refine lv_if_eq (tgt := 49) F.1 F.2.1 dX8_whyNotPart_22 (by decide) (fun c4 => ?_) (fun c4 => ?_)
    · refine lv_iconst (v := 0) F.1 F.2.1 dX8_whyNotPart_49 (by decide) ?_
      refine lv_istore (lv' := [(4, .int (0)), (0, .ref (ad o)), (1, .int (x)), (2, .int (kd)), (3, .int (v))]) F.1 F.2.1 dX8_whyNotPart_50 hl (by decide) rfl (fun ls hl => ?_)
      refine lv_iload F.1 F.2.1 dX8_whyNotPart_52 (lv_at hl 0 rfl) ?_
      refine lv_if_ne (tgt := 62) F.1 F.2.1 dX8_whyNotPart_54 (by decide) (fun c5 => False.elim (by revert c5; decide)) (fun c5 => ?_)
      refine lv_bipush (v := (-2)) F.1 F.2.1 dX8_whyNotPart_57 (by decide) ?_
      refine lv_goto (tgt := 79) F.1 F.2.1 dX8_whyNotPart_59 (by decide) ?_
      exact w_iret F hr hlocks hP hS dX8_whyNotPart_79 ⟨rfl, by unfold T_pe; rw [if_pos (b_t hq1r c2), if_neg (fun q => (b_f hq3r c4) ⟨q.1, q.2.1⟩)]⟩
    · refine lv_iload_n F.1 F.2.1 dX8_whyNotPart_25 rfl (lv_at hl 3 rfl) ?_
      refine lv_iconst (v := 1) F.1 F.2.1 dX8_whyNotPart_26 (by decide) ?_
      refine lv_iload_n F.1 F.2.1 dX8_whyNotPart_27 rfl (lv_at hl 2 rfl) ?_
      refine lv_iconst (v := 2) F.1 F.2.1 dX8_whyNotPart_28 (by decide) ?_
      refine lv_icmp_ne (tgt := 37) F.1 F.2.1 dX8_whyNotPart_29 (by decide) (fun c6 => ?_) (fun c6 => ?_)
      · refine lv_bipush (v := 9) F.1 F.2.1 dX8_whyNotPart_37 (by decide) ?_
        refine w_calls F hP hS (c_X8_in l D Y ad N hI _ v 1 9) (cwSm 3 F.2.2.2.2.1 (fun _ h => h) mw_183 mw_181 mw_182 mw_5 rfl rfl ydX8_in ⟨by decide, by decide⟩) rfl hl.1 rfl (Nat.le_of_ble_eq_true rfl) dX8_whyNotPart_39 ⟨Nat.zero_le _, Nat.zero_le _⟩ (fun rq7 Kq7 H locs hq7 hP hS => ?_)
        obtain ⟨hq7w, hq7r⟩ := hq7; rw [hq7w] at hP
        refine lv_if_eq (tgt := 49) F.1 F.2.1 dX8_whyNotPart_42 (by decide) (fun c8 => ?_) (fun c8 => ?_)
        · refine lv_iconst (v := 0) F.1 F.2.1 dX8_whyNotPart_49 (by decide) ?_
          refine lv_istore (lv' := [(4, .int (0)), (0, .ref (ad o)), (1, .int (x)), (2, .int (kd)), (3, .int (v))]) F.1 F.2.1 dX8_whyNotPart_50 hl (by decide) rfl (fun ls hl => ?_)
          refine lv_iload F.1 F.2.1 dX8_whyNotPart_52 (lv_at hl 0 rfl) ?_
          refine lv_if_ne (tgt := 62) F.1 F.2.1 dX8_whyNotPart_54 (by decide) (fun c9 => False.elim (by revert c9; decide)) (fun c9 => ?_)
          refine lv_bipush (v := (-2)) F.1 F.2.1 dX8_whyNotPart_57 (by decide) ?_
          refine lv_goto (tgt := 79) F.1 F.2.1 dX8_whyNotPart_59 (by decide) ?_
          exact w_iret F hr hlocks hP hS dX8_whyNotPart_79 ⟨rfl, by unfold T_pe; rw [if_pos (b_t hq1r c2), if_neg c6, if_neg (fun q => (b_f hq7r c8) q.2.2)]⟩
        · refine lv_iconst (v := 1) F.1 F.2.1 dX8_whyNotPart_45 (by decide) ?_
          refine lv_goto (tgt := 50) F.1 F.2.1 dX8_whyNotPart_46 (by decide) ?_
          refine lv_istore (lv' := [(4, .int (1)), (0, .ref (ad o)), (1, .int (x)), (2, .int (kd)), (3, .int (v))]) F.1 F.2.1 dX8_whyNotPart_50 hl (by decide) rfl (fun ls hl => ?_)
          refine lv_iload F.1 F.2.1 dX8_whyNotPart_52 (lv_at hl 0 rfl) ?_
          refine lv_if_ne (tgt := 62) F.1 F.2.1 dX8_whyNotPart_54 (by decide) (fun c10 => ?_) (fun c10 => False.elim (by revert c10; decide))
          refine lv_aload_n F.1 F.2.1 dX8_whyNotPart_62 rfl (lv_at hl 1 rfl) ?_
          refine gf_X8_7 F hP (by omega) mW_o (v := .ref (ad (o + 1))) rfl dX8_whyNotPart_63 ?_
          refine lv_iconst (v := 4) F.1 F.2.1 dX8_whyNotPart_66 (by decide) ?_
          refine w_iald F hP (by omega) mW_s (k := 4) rfl (by omega) (Nat.le_of_ble_eq_true rfl) (v := r 4) (put_at (k := 4) (by omega) (by omega)) dX8_whyNotPart_67 ?_
          refine lv_bipush (v := 20) F.1 F.2.1 dX8_whyNotPart_68 (by decide) ?_
          refine lv_icmp_ne (tgt := 78) F.1 F.2.1 dX8_whyNotPart_70 (by decide) (fun c11 => ?_) (fun c11 => ?_)
          · refine lv_iconst (v := 0) F.1 F.2.1 dX8_whyNotPart_78 (by decide) ?_
            exact w_iret F hr hlocks hP hS dX8_whyNotPart_79 ⟨rfl, by unfold T_pe; rw [if_pos (b_t hq1r c2), if_neg c6, if_pos ⟨(b_t hq3r c4).1, (b_t hq3r c4).2, b_t hq7r c8⟩, if_neg (fun q => c11 (Int32.toInt_inj.mp (by have a := Int32.le_iff_toInt_le.mp q; have t : (20 : Int32).toInt = 20 := rfl; have := hok.2.2.2.2.1; omega)))]⟩
          · refine lv_bipush (v := (-4)) F.1 F.2.1 dX8_whyNotPart_73 (by decide) ?_
            refine lv_goto (tgt := 79) F.1 F.2.1 dX8_whyNotPart_75 (by decide) ?_
            exact w_iret F hr hlocks hP hS dX8_whyNotPart_79 ⟨rfl, by unfold T_pe; rw [if_pos (b_t hq1r c2), if_neg c6, if_pos ⟨(b_t hq3r c4).1, (b_t hq3r c4).2, b_t hq7r c8⟩, if_pos (by rw [c11]; exact Int32.le_refl _)]⟩
      · refine lv_bipush (v := 99) F.1 F.2.1 dX8_whyNotPart_32 (by decide) ?_
        refine lv_goto (tgt := 39) F.1 F.2.1 dX8_whyNotPart_34 (by decide) ?_
        refine w_calls F hP hS (c_X8_in l D Y ad N hI _ v 1 99) (cwSm 3 F.2.2.2.2.1 (fun _ h => h) mw_183 mw_181 mw_182 mw_5 rfl rfl ydX8_in ⟨by decide, by decide⟩) rfl hl.1 rfl (Nat.le_of_ble_eq_true rfl) dX8_whyNotPart_39 ⟨Nat.zero_le _, Nat.zero_le _⟩ (fun rq12 Kq12 H locs hq12 hP hS => ?_)
        obtain ⟨hq12w, hq12r⟩ := hq12; rw [hq12w] at hP
        refine lv_if_eq (tgt := 49) F.1 F.2.1 dX8_whyNotPart_42 (by decide) (fun c13 => ?_) (fun c13 => ?_)
        · refine lv_iconst (v := 0) F.1 F.2.1 dX8_whyNotPart_49 (by decide) ?_
          refine lv_istore (lv' := [(4, .int (0)), (0, .ref (ad o)), (1, .int (x)), (2, .int (kd)), (3, .int (v))]) F.1 F.2.1 dX8_whyNotPart_50 hl (by decide) rfl (fun ls hl => ?_)
          refine lv_iload F.1 F.2.1 dX8_whyNotPart_52 (lv_at hl 0 rfl) ?_
          refine lv_if_ne (tgt := 62) F.1 F.2.1 dX8_whyNotPart_54 (by decide) (fun c14 => False.elim (by revert c14; decide)) (fun c14 => ?_)
          refine lv_bipush (v := (-2)) F.1 F.2.1 dX8_whyNotPart_57 (by decide) ?_
          refine lv_goto (tgt := 79) F.1 F.2.1 dX8_whyNotPart_59 (by decide) ?_
          exact w_iret F hr hlocks hP hS dX8_whyNotPart_79 ⟨rfl, by unfold T_pe; rw [if_pos (b_t hq1r c2), if_pos c6, if_neg (fun q => (b_f hq12r c13) q.2.2)]⟩
        · refine lv_iconst (v := 1) F.1 F.2.1 dX8_whyNotPart_45 (by decide) ?_
          refine lv_goto (tgt := 50) F.1 F.2.1 dX8_whyNotPart_46 (by decide) ?_
          refine lv_istore (lv' := [(4, .int (1)), (0, .ref (ad o)), (1, .int (x)), (2, .int (kd)), (3, .int (v))]) F.1 F.2.1 dX8_whyNotPart_50 hl (by decide) rfl (fun ls hl => ?_)
          refine lv_iload F.1 F.2.1 dX8_whyNotPart_52 (lv_at hl 0 rfl) ?_
          refine lv_if_ne (tgt := 62) F.1 F.2.1 dX8_whyNotPart_54 (by decide) (fun c15 => ?_) (fun c15 => False.elim (by revert c15; decide))
          refine lv_aload_n F.1 F.2.1 dX8_whyNotPart_62 rfl (lv_at hl 1 rfl) ?_
          refine gf_X8_7 F hP (by omega) mW_o (v := .ref (ad (o + 1))) rfl dX8_whyNotPart_63 ?_
          refine lv_iconst (v := 4) F.1 F.2.1 dX8_whyNotPart_66 (by decide) ?_
          refine w_iald F hP (by omega) mW_s (k := 4) rfl (by omega) (Nat.le_of_ble_eq_true rfl) (v := r 4) (put_at (k := 4) (by omega) (by omega)) dX8_whyNotPart_67 ?_
          refine lv_bipush (v := 20) F.1 F.2.1 dX8_whyNotPart_68 (by decide) ?_
          refine lv_icmp_ne (tgt := 78) F.1 F.2.1 dX8_whyNotPart_70 (by decide) (fun c16 => ?_) (fun c16 => ?_)
          · refine lv_iconst (v := 0) F.1 F.2.1 dX8_whyNotPart_78 (by decide) ?_
            exact w_iret F hr hlocks hP hS dX8_whyNotPart_79 ⟨rfl, by unfold T_pe; rw [if_pos (b_t hq1r c2), if_pos c6, if_pos ⟨(b_t hq3r c4).1, (b_t hq3r c4).2, b_t hq12r c13⟩, if_neg (fun q => c16 (Int32.toInt_inj.mp (by have a := Int32.le_iff_toInt_le.mp q; have t : (20 : Int32).toInt = 20 := rfl; have := hok.2.2.2.2.1; omega)))]⟩
          · refine lv_bipush (v := (-4)) F.1 F.2.1 dX8_whyNotPart_73 (by decide) ?_
            refine lv_goto (tgt := 79) F.1 F.2.1 dX8_whyNotPart_75 (by decide) ?_
            exact w_iret F hr hlocks hP hS dX8_whyNotPart_79 ⟨rfl, by unfold T_pe; rw [if_pos (b_t hq1r c2), if_pos c6, if_pos ⟨(b_t hq3r c4).1, (b_t hq3r c4).2, b_t hq12r c13⟩, if_pos (by rw [c16]; exact Int32.le_refl _)]⟩
  · refine lv_iconst (v := (-1)) F.1 F.2.1 dX8_whyNotPart_14 (by decide) ?_
    exact w_iret F hr hlocks hP hS dX8_whyNotPart_15 ⟨rfl, by unfold T_pe; rw [if_neg (b_f hq1r c2)]⟩
set_option maxRecDepth 20000 in
set_option maxHeartbeats 4000000 in
/-- may it roll -/
theorem c_X8_whyNotRoll (l : Launch) (D : va_G) (Y : Nat → ClassId) (ad : Nat → Nat) (N : Nat) (hI : wI ad N) (C : Nat → va_E) (o : Nat) (hh : o + 6 ≤ N) (kn n gr : Int32) (r s0 : Nat → Int32) (x : Int32) : Met l yX8_whyNotRoll (wm yX8_whyNotRoll cX8_whyNotRoll 2 (some .int)) { frames := 1, cells := 0, slots := 0, locals := 22 } (wPc D Y ad N [.ref (ad o), .int (x)] (mW Y ad C o kn n gr 0 r s0)) (wQi D ad N (fun q C' => C' = mW Y ad C o kn n gr 0 r s0 ∧ q = T_re x r)) 0 0 (wA ad N) := by
  refine wMet RX8 rfl (by decide +kernel) (Nat.le_of_ble_eq_true rfl) (lv := [(0, .ref (ad o)), (1, .int (x))]) rfl ?_
  intro p e s m below meth c ls F hr hlocks hP hl
  have hS : va_S (wA ad N) s.heap s.heap [] := va_S.rf
  refine lv_iload_n F.1 F.2.1 dX8_whyNotRoll_0 rfl (lv_at hl 1 rfl) ?_
  refine lv_iconst (v := 1) F.1 F.2.1 dX8_whyNotRoll_1 (by decide) ?_
  refine lv_bipush (v := 20) F.1 F.2.1 dX8_whyNotRoll_2 (by decide) ?_
  refine w_calls F hP hS (c_X8_in l D Y ad N hI _ x 1 20) (cwSm 3 F.2.2.2.2.1 (fun _ h => h) mw_183 mw_181 mw_182 mw_5 rfl rfl ydX8_in ⟨by decide, by decide⟩) rfl hl.1 rfl (Nat.le_of_ble_eq_true rfl) dX8_whyNotRoll_4 ⟨Nat.zero_le _, Nat.zero_le _⟩ (fun rq1 Kq1 H locs hq1 hP hS => ?_)
  obtain ⟨hq1w, hq1r⟩ := hq1; rw [hq1w] at hP
  refine lv_if_ne (tgt := 15) F.1 F.2.1 dX8_whyNotRoll_7 (by decide) (fun c2 => ?_) (fun c2 => ?_)
  · refine lv_aload_n F.1 F.2.1 dX8_whyNotRoll_15 rfl (lv_at hl 0 rfl) ?_
    refine w_calli F hP hS (c_X8_isRolling l D Y ad N hI C o hh kn n gr r s0) (cwVm 0 F.2.2.2.2.1 (fun _ h => h) mw_361 mw_358 mw_359 mw_360 mw_5 rfl rfl ydX8_isRolling ⟨by decide, by decide⟩) (by omega) mW_o rfl rfl hl.1 rfl (Nat.le_of_ble_eq_true rfl) dX8_whyNotRoll_16 ⟨Nat.zero_le _, Nat.zero_le _⟩ (fun rq3 Kq3 H locs hq3 hP hS => ?_)
    obtain ⟨hq3w, hq3r⟩ := hq3; subst hq3w
    refine lv_if_eq (tgt := 26) F.1 F.2.1 dX8_whyNotRoll_19 (by decide) (fun c4 => ?_) (fun c4 => ?_)
    · refine lv_bipush (v := (-5)) F.1 F.2.1 dX8_whyNotRoll_26 (by decide) ?_
      exact w_iret F hr hlocks hP hS dX8_whyNotRoll_28 ⟨rfl, by unfold T_re; rw [if_pos (b_t hq1r c2), if_neg (b_f hq3r c4)]⟩
    · refine lv_iconst (v := 0) F.1 F.2.1 dX8_whyNotRoll_22 (by decide) ?_
      refine lv_goto (tgt := 28) F.1 F.2.1 dX8_whyNotRoll_23 (by decide) ?_
      exact w_iret F hr hlocks hP hS dX8_whyNotRoll_28 ⟨rfl, by unfold T_re; rw [if_pos (b_t hq1r c2), if_pos (b_t hq3r c4)]⟩
  · refine lv_bipush (v := (-2)) F.1 F.2.1 dX8_whyNotRoll_10 (by decide) ?_
    refine lv_goto (tgt := 28) F.1 F.2.1 dX8_whyNotRoll_12 (by decide) ?_
    exact w_iret F hr hlocks hP hS dX8_whyNotRoll_28 ⟨rfl, by unfold T_re; rw [if_neg (b_f hq1r c2)]⟩
set_option maxRecDepth 20000 in
set_option maxHeartbeats 4000000 in
/-- a part comes -/
theorem c_X8_comes (l : Launch) (D : va_G) (Y : Nat → ClassId) (ad : Nat → Nat) (N : Nat) (hI : wI ad N) (C : Nat → va_E) (o : Nat) (hh : o + 6 ≤ N) (kn n gr : Int32) (r s0 : Nat → Int32) (kp mm : Nat) (hp : kp ≤ mm) (hm : mm < 20) (h4 : r 4 = nI mm) (h4c : (r 4).toNatClampNeg = mm) (x : Int32) (ex : x = nI kp) (kd v : Int32) : Met l yX8_comes (wm yX8_comes cX8_comes 5 (some .int)) { frames := 1, cells := 0, slots := 0, locals := 21 } (wPc D Y ad N [.ref (ad o), .int (x), .int (kd), .int (v)] (mW Y ad C o kn n gr 0 r s0)) (wQi D ad N (fun q C' => C' = mW Y ad C o kn n gr 0 (T_insert kp kd v r) s0 ∧ q = T_insert kp kd v r 4)) 0 0 (wA ad N) := by
  refine wMet RX8 rfl (by decide +kernel) (Nat.le_of_ble_eq_true rfl) (lv := [(0, .ref (ad o)), (1, .int (x)), (2, .int (kd)), (3, .int (v))]) rfl ?_
  intro p e s m below meth c ls F hr hlocks hP hl
  have hS : va_S (wA ad N) s.heap s.heap [] := va_S.rf
  refine lv_iconst (v := 0) F.1 F.2.1 dX8_comes_0 (by decide) ?_
  refine lv_aload_n F.1 F.2.1 dX8_comes_1 rfl (lv_at hl 0 rfl) ?_
  refine gf_X8_7 F hP (by omega) mW_o (v := .ref (ad (o + 1))) rfl dX8_comes_2 ?_
  refine lv_iconst (v := 4) F.1 F.2.1 dX8_comes_5 (by decide) ?_
  refine w_iald F hP (by omega) mW_s (k := 4) rfl (by omega) (Nat.le_of_ble_eq_true rfl) (v := r 4) (put_at (k := 4) (by omega) (by omega)) dX8_comes_6 ?_
  refine w_calls F hP hS (c_X8_at l D Y ad N hI _ 0 (r 4)) (cwSm 2 F.2.2.2.2.1 (fun _ h => h) mw_226 mw_224 mw_225 mw_5 rfl rfl ydX8_at ⟨by decide, by decide⟩) rfl hl.1 rfl (Nat.le_of_ble_eq_true rfl) dX8_comes_7 ⟨Nat.zero_le _, Nat.zero_le _⟩ (fun rq1 Kq1 H locs hq1 hP hS => ?_)
  obtain ⟨hq1w, hq1r⟩ := hq1; rw [hq1w] at hP
  subst hq1r
  refine lv_iconst (v := 1) F.1 F.2.1 dX8_comes_10 (by decide) ?_
  refine lv_isub F.1 F.2.1 dX8_comes_11 ?_
  refine lv_topi (fun v2 ev2 => ?_)
  have ev2 : v2 = nI (60 + 5 * mm) := ev2.trans ((ix_sub (X := 0 + 61 + 5 * mm) (c := 1) (Z := 5 * mm + 60) (ix_add (X := 0 + 61) (Y := 5 * mm) (Z := 0 + 61 + 5 * mm) (ix_add (X := 0) (Y := 61) (Z := 0 + 61) rfl rfl (by omega)) (ix_mul (X := 5) (Y := mm) rfl h4) (by omega)) (by omega)).trans (congrArg nI (show 5 * mm + 60 = 60 + 5 * mm by omega)))
  subst ev2
  refine lv_istore (lv' := [(4, .int (nI (60 + 5 * mm))), (0, .ref (ad o)), (1, .int (x)), (2, .int (kd)), (3, .int (v))]) F.1 F.2.1 dX8_comes_12 hl (by decide) rfl (fun ls hl => ?_)
  refine w_loop (Inv := fun j ls C' => ∃ k : Nat, j = k ∧ 60 + 5 * kp ≤ k ∧ k ≤ 60 + 5 * mm ∧ lv_has ls 5 [(4, .int (nI k)), (0, .ref (ad o)), (1, .int x), (2, .int kd), (3, .int v)] ∧ C' = mW Y ad C o kn n gr 0 (I_sh k (66 + 5 * mm) r) s0) ?_ (60 + 5 * mm) ⟨60 + 5 * mm, rfl, by omega, Nat.le_refl _, lv_sub hl [0, 1, 2, 3, 4] rfl, by rw [I_sh_0 (by omega)]⟩ hP hS
  intro j ih H locs ls K0 hInv hP hS
  obtain ⟨k, hj, hk1, hk2, hl, rfl⟩ := hInv
  refine lv_iload F.1 F.2.1 dX8_comes_14 (lv_at hl 0 rfl) ?_
  refine lv_iconst (v := 0) F.1 F.2.1 dX8_comes_16 (by decide) ?_
  refine lv_iload_n F.1 F.2.1 dX8_comes_17 rfl (lv_at hl 2 rfl) ?_
  refine w_calls F hP hS (c_X8_at l D Y ad N hI _ 0 x) (cwSm 2 F.2.2.2.2.1 (fun _ h => h) mw_226 mw_224 mw_225 mw_5 rfl rfl ydX8_at ⟨by decide, by decide⟩) rfl hl.1 rfl (Nat.le_of_ble_eq_true rfl) dX8_comes_18 ⟨Nat.zero_le _, Nat.zero_le _⟩ (fun rq3 Kq3 H locs hq3 hP hS => ?_)
  obtain ⟨hq3w, hq3r⟩ := hq3; rw [hq3w] at hP
  subst hq3r
  refine lv_topi (fun v4 ev4 => ?_)
  have ev4 : v4 = nI (61 + 5 * kp) := ev4.trans ((ix_add (X := 0 + 61) (Y := 5 * kp) (Z := 0 + 61 + 5 * kp) (ix_add (X := 0) (Y := 61) (Z := 0 + 61) rfl rfl (by omega)) (ix_mul (X := 5) (Y := kp) rfl ex) (by omega)).trans (congrArg nI (show 0 + 61 + 5 * kp = 61 + 5 * kp by omega)))
  subst ev4
  refine lv_icmp_lt (tgt := 46) F.1 F.2.1 dX8_comes_21 (by decide) (fun c5 => ?_) (fun c5 => ?_)
  · obtain rfl : k = 60 + 5 * kp := by have : k < 61 + 5 * kp := Nat.lt_of_not_le (fun z => i_nle c5 (nI_le (a := 61 + 5 * kp) z (by omega))); omega
    refine lv_aload_n F.1 F.2.1 dX8_comes_46 rfl (lv_at hl 1 rfl) ?_
    refine gf_X8_7 F hP (by omega) mW_o (v := .ref (ad (o + 1))) rfl dX8_comes_47 ?_
    refine lv_iconst (v := 0) F.1 F.2.1 dX8_comes_50 (by decide) ?_
    refine lv_iload_n F.1 F.2.1 dX8_comes_51 rfl (lv_at hl 2 rfl) ?_
    refine w_calls F hP hS (c_X8_at l D Y ad N hI _ 0 x) (cwSm 2 F.2.2.2.2.1 (fun _ h => h) mw_226 mw_224 mw_225 mw_5 rfl rfl ydX8_at ⟨by decide, by decide⟩) rfl hl.1 rfl (Nat.le_of_ble_eq_true rfl) dX8_comes_52 ⟨Nat.zero_le _, Nat.zero_le _⟩ (fun rq6 Kq6 H locs hq6 hP hS => ?_)
    obtain ⟨hq6w, hq6r⟩ := hq6; rw [hq6w] at hP
    subst hq6r
    refine lv_iload_n F.1 F.2.1 dX8_comes_55 rfl (lv_at hl 3 rfl) ?_
    refine w_iast F hI hP hS (by omega) mW_s (k := 0 + 61 + 5 * kp) (ix_add (X := 0 + 61) (Y := 5 * kp) (Z := 0 + 61 + 5 * kp) (ix_add (X := 0) (Y := 61) (Z := 0 + 61) rfl rfl (by omega)) (ix_mul (X := 5) (Y := kp) rfl ex) (by omega)) (by omega) (Nat.le_of_ble_eq_true rfl) (C1 := mW Y ad C o kn n gr 0 (upd (I_sh (60 + 5 * kp) (66 + 5 * mm) r) (61 + 5 * kp) kd) s0) (fun q => congrFun (mW_upds (k := (61 + 5 * kp)) (by omega) (by omega)) q) dX8_comes_56 (fun H locs hP hS => ?_)
    refine lv_aload_n F.1 F.2.1 dX8_comes_57 rfl (lv_at hl 1 rfl) ?_
    refine gf_X8_7 F hP (by omega) mW_o (v := .ref (ad (o + 1))) rfl dX8_comes_58 ?_
    refine lv_iconst (v := 0) F.1 F.2.1 dX8_comes_61 (by decide) ?_
    refine lv_iload_n F.1 F.2.1 dX8_comes_62 rfl (lv_at hl 2 rfl) ?_
    refine w_calls F hP hS (c_X8_at l D Y ad N hI _ 0 x) (cwSm 2 F.2.2.2.2.1 (fun _ h => h) mw_226 mw_224 mw_225 mw_5 rfl rfl ydX8_at ⟨by decide, by decide⟩) rfl hl.1 rfl (Nat.le_of_ble_eq_true rfl) dX8_comes_63 ⟨Nat.zero_le _, Nat.zero_le _⟩ (fun rq7 Kq7 H locs hq7 hP hS => ?_)
    obtain ⟨hq7w, hq7r⟩ := hq7; rw [hq7w] at hP
    subst hq7r
    refine lv_iconst (v := 1) F.1 F.2.1 dX8_comes_66 (by decide) ?_
    refine lv_iadd F.1 F.2.1 dX8_comes_67 ?_
    refine lv_iload_n F.1 F.2.1 dX8_comes_68 rfl (lv_at hl 4 rfl) ?_
    refine w_iast F hI hP hS (by omega) mW_s (k := 0 + 61 + 5 * kp + 1) (ix_add (X := 0 + 61 + 5 * kp) (Y := 1) (Z := 0 + 61 + 5 * kp + 1) (ix_add (X := 0 + 61) (Y := 5 * kp) (Z := 0 + 61 + 5 * kp) (ix_add (X := 0) (Y := 61) (Z := 0 + 61) rfl rfl (by omega)) (ix_mul (X := 5) (Y := kp) rfl ex) (by omega)) rfl (by omega)) (by omega) (Nat.le_of_ble_eq_true rfl) (C1 := mW Y ad C o kn n gr 0 (upd (upd (I_sh (60 + 5 * kp) (66 + 5 * mm) r) (61 + 5 * kp) kd) (62 + 5 * kp) v) s0) (fun q => congrFun (mW_upds (k := (62 + 5 * kp)) (by omega) (by omega)) q) dX8_comes_69 (fun H locs hP hS => ?_)
    refine lv_iconst (v := 2) F.1 F.2.1 dX8_comes_70 (by decide) ?_
    refine lv_istore (lv' := [(4, .int (2)), (0, .ref (ad o)), (1, .int (x)), (2, .int (kd)), (3, .int (v))]) F.1 F.2.1 dX8_comes_71 hl (by decide) rfl (fun ls hl => ?_)
    refine lv_iload F.1 F.2.1 dX8_comes_73 (lv_at hl 0 rfl) ?_
    refine lv_iconst (v := 5) F.1 F.2.1 dX8_comes_75 (by decide) ?_
    refine lv_icmp_ge (tgt := 99) F.1 F.2.1 dX8_comes_76 (by decide) (fun c8 => False.elim (by revert c8; decide)) (fun c8 => ?_)
    refine lv_aload_n F.1 F.2.1 dX8_comes_79 rfl (lv_at hl 1 rfl) ?_
    refine gf_X8_7 F hP (by omega) mW_o (v := .ref (ad (o + 1))) rfl dX8_comes_80 ?_
    refine lv_iconst (v := 0) F.1 F.2.1 dX8_comes_83 (by decide) ?_
    refine lv_iload_n F.1 F.2.1 dX8_comes_84 rfl (lv_at hl 2 rfl) ?_
    refine w_calls F hP hS (c_X8_at l D Y ad N hI _ 0 x) (cwSm 2 F.2.2.2.2.1 (fun _ h => h) mw_226 mw_224 mw_225 mw_5 rfl rfl ydX8_at ⟨by decide, by decide⟩) rfl hl.1 rfl (Nat.le_of_ble_eq_true rfl) dX8_comes_85 ⟨Nat.zero_le _, Nat.zero_le _⟩ (fun rq9 Kq9 H locs hq9 hP hS => ?_)
    obtain ⟨hq9w, hq9r⟩ := hq9; rw [hq9w] at hP
    subst hq9r
    refine lv_iload F.1 F.2.1 dX8_comes_88 (lv_at hl 0 rfl) ?_
    refine lv_iadd F.1 F.2.1 dX8_comes_90 ?_
    refine lv_iconst (v := 0) F.1 F.2.1 dX8_comes_91 (by decide) ?_
    refine w_iast F hI hP hS (by omega) mW_s (k := 0 + 61 + 5 * kp + 2) (ix_add (X := 0 + 61 + 5 * kp) (Y := 2) (Z := 0 + 61 + 5 * kp + 2) (ix_add (X := 0 + 61) (Y := 5 * kp) (Z := 0 + 61 + 5 * kp) (ix_add (X := 0) (Y := 61) (Z := 0 + 61) rfl rfl (by omega)) (ix_mul (X := 5) (Y := kp) rfl ex) (by omega)) rfl (by omega)) (by omega) (Nat.le_of_ble_eq_true rfl) (C1 := mW Y ad C o kn n gr 0 (upd (upd (upd (I_sh (60 + 5 * kp) (66 + 5 * mm) r) (61 + 5 * kp) kd) (62 + 5 * kp) v) (63 + 5 * kp) 0) s0) (fun q => congrFun (mW_upds (k := (63 + 5 * kp)) (by omega) (by omega)) q) dX8_comes_92 (fun H locs hP hS => ?_)
    refine lv_iinc (v := 3) (lv' := [(4, .int (3)), (0, .ref (ad o)), (1, .int (x)), (2, .int (kd)), (3, .int (v))]) F.1 F.2.1 dX8_comes_93 hl (k := 0) rfl rfl (by decide) rfl (fun ls hl => ?_)
    refine lv_goto (tgt := 73) F.1 F.2.1 dX8_comes_96 (by decide) ?_
    refine lv_iload F.1 F.2.1 dX8_comes_73 (lv_at hl 0 rfl) ?_
    refine lv_iconst (v := 5) F.1 F.2.1 dX8_comes_75 (by decide) ?_
    refine lv_icmp_ge (tgt := 99) F.1 F.2.1 dX8_comes_76 (by decide) (fun c10 => False.elim (by revert c10; decide)) (fun c10 => ?_)
    refine lv_aload_n F.1 F.2.1 dX8_comes_79 rfl (lv_at hl 1 rfl) ?_
    refine gf_X8_7 F hP (by omega) mW_o (v := .ref (ad (o + 1))) rfl dX8_comes_80 ?_
    refine lv_iconst (v := 0) F.1 F.2.1 dX8_comes_83 (by decide) ?_
    refine lv_iload_n F.1 F.2.1 dX8_comes_84 rfl (lv_at hl 2 rfl) ?_
    refine w_calls F hP hS (c_X8_at l D Y ad N hI _ 0 x) (cwSm 2 F.2.2.2.2.1 (fun _ h => h) mw_226 mw_224 mw_225 mw_5 rfl rfl ydX8_at ⟨by decide, by decide⟩) rfl hl.1 rfl (Nat.le_of_ble_eq_true rfl) dX8_comes_85 ⟨Nat.zero_le _, Nat.zero_le _⟩ (fun rq11 Kq11 H locs hq11 hP hS => ?_)
    obtain ⟨hq11w, hq11r⟩ := hq11; rw [hq11w] at hP
    subst hq11r
    refine lv_iload F.1 F.2.1 dX8_comes_88 (lv_at hl 0 rfl) ?_
    refine lv_iadd F.1 F.2.1 dX8_comes_90 ?_
    refine lv_iconst (v := 0) F.1 F.2.1 dX8_comes_91 (by decide) ?_
    refine w_iast F hI hP hS (by omega) mW_s (k := 0 + 61 + 5 * kp + 3) (ix_add (X := 0 + 61 + 5 * kp) (Y := 3) (Z := 0 + 61 + 5 * kp + 3) (ix_add (X := 0 + 61) (Y := 5 * kp) (Z := 0 + 61 + 5 * kp) (ix_add (X := 0) (Y := 61) (Z := 0 + 61) rfl rfl (by omega)) (ix_mul (X := 5) (Y := kp) rfl ex) (by omega)) rfl (by omega)) (by omega) (Nat.le_of_ble_eq_true rfl) (C1 := mW Y ad C o kn n gr 0 (upd (upd (upd (upd (I_sh (60 + 5 * kp) (66 + 5 * mm) r) (61 + 5 * kp) kd) (62 + 5 * kp) v) (63 + 5 * kp) 0) (64 + 5 * kp) 0) s0) (fun q => congrFun (mW_upds (k := (64 + 5 * kp)) (by omega) (by omega)) q) dX8_comes_92 (fun H locs hP hS => ?_)
    refine lv_iinc (v := 4) (lv' := [(4, .int (4)), (0, .ref (ad o)), (1, .int (x)), (2, .int (kd)), (3, .int (v))]) F.1 F.2.1 dX8_comes_93 hl (k := 0) rfl rfl (by decide) rfl (fun ls hl => ?_)
    refine lv_goto (tgt := 73) F.1 F.2.1 dX8_comes_96 (by decide) ?_
    refine lv_iload F.1 F.2.1 dX8_comes_73 (lv_at hl 0 rfl) ?_
    refine lv_iconst (v := 5) F.1 F.2.1 dX8_comes_75 (by decide) ?_
    refine lv_icmp_ge (tgt := 99) F.1 F.2.1 dX8_comes_76 (by decide) (fun c12 => False.elim (by revert c12; decide)) (fun c12 => ?_)
    refine lv_aload_n F.1 F.2.1 dX8_comes_79 rfl (lv_at hl 1 rfl) ?_
    refine gf_X8_7 F hP (by omega) mW_o (v := .ref (ad (o + 1))) rfl dX8_comes_80 ?_
    refine lv_iconst (v := 0) F.1 F.2.1 dX8_comes_83 (by decide) ?_
    refine lv_iload_n F.1 F.2.1 dX8_comes_84 rfl (lv_at hl 2 rfl) ?_
    refine w_calls F hP hS (c_X8_at l D Y ad N hI _ 0 x) (cwSm 2 F.2.2.2.2.1 (fun _ h => h) mw_226 mw_224 mw_225 mw_5 rfl rfl ydX8_at ⟨by decide, by decide⟩) rfl hl.1 rfl (Nat.le_of_ble_eq_true rfl) dX8_comes_85 ⟨Nat.zero_le _, Nat.zero_le _⟩ (fun rq13 Kq13 H locs hq13 hP hS => ?_)
    obtain ⟨hq13w, hq13r⟩ := hq13; rw [hq13w] at hP
    subst hq13r
    refine lv_iload F.1 F.2.1 dX8_comes_88 (lv_at hl 0 rfl) ?_
    refine lv_iadd F.1 F.2.1 dX8_comes_90 ?_
    refine lv_iconst (v := 0) F.1 F.2.1 dX8_comes_91 (by decide) ?_
    refine w_iast F hI hP hS (by omega) mW_s (k := 0 + 61 + 5 * kp + 4) (ix_add (X := 0 + 61 + 5 * kp) (Y := 4) (Z := 0 + 61 + 5 * kp + 4) (ix_add (X := 0 + 61) (Y := 5 * kp) (Z := 0 + 61 + 5 * kp) (ix_add (X := 0) (Y := 61) (Z := 0 + 61) rfl rfl (by omega)) (ix_mul (X := 5) (Y := kp) rfl ex) (by omega)) rfl (by omega)) (by omega) (Nat.le_of_ble_eq_true rfl) (C1 := mW Y ad C o kn n gr 0 (upd (upd (upd (upd (upd (I_sh (60 + 5 * kp) (66 + 5 * mm) r) (61 + 5 * kp) kd) (62 + 5 * kp) v) (63 + 5 * kp) 0) (64 + 5 * kp) 0) (65 + 5 * kp) 0) s0) (fun q => congrFun (mW_upds (k := (65 + 5 * kp)) (by omega) (by omega)) q) dX8_comes_92 (fun H locs hP hS => ?_)
    refine lv_iinc (v := 5) (lv' := [(4, .int (5)), (0, .ref (ad o)), (1, .int (x)), (2, .int (kd)), (3, .int (v))]) F.1 F.2.1 dX8_comes_93 hl (k := 0) rfl rfl (by decide) rfl (fun ls hl => ?_)
    refine lv_goto (tgt := 73) F.1 F.2.1 dX8_comes_96 (by decide) ?_
    refine lv_iload F.1 F.2.1 dX8_comes_73 (lv_at hl 0 rfl) ?_
    refine lv_iconst (v := 5) F.1 F.2.1 dX8_comes_75 (by decide) ?_
    refine lv_icmp_ge (tgt := 99) F.1 F.2.1 dX8_comes_76 (by decide) (fun c14 => ?_) (fun c14 => False.elim (by revert c14; decide))
    refine lv_aload_n F.1 F.2.1 dX8_comes_99 rfl (lv_at hl 1 rfl) ?_
    refine gf_X8_7 F hP (by omega) mW_o (v := .ref (ad (o + 1))) rfl dX8_comes_100 ?_
    refine lv_iconst (v := 4) F.1 F.2.1 dX8_comes_103 (by decide) ?_
    refine lv_dup2_11 F.1 F.2.1 dX8_comes_104 rfl rfl ?_
    refine w_iald F hP (by omega) mW_s (k := 4) rfl (by omega) (Nat.le_of_ble_eq_true rfl) (v := r 4) ((put_at (k := 4) (by omega) (by omega)).trans (Eq.trans (show _ = (I_sh (60 + 5 * kp) (66 + 5 * mm) r) 4 from by rw [upd_n (by omega), upd_n (by omega), upd_n (by omega), upd_n (by omega), upd_n (by omega)]) (I_sh_lo (by omega)))) dX8_comes_105 ?_
    refine lv_iconst (v := 1) F.1 F.2.1 dX8_comes_106 (by decide) ?_
    refine lv_iadd F.1 F.2.1 dX8_comes_107 ?_
    refine lv_topi (fun v15 ev15 => ?_)
    refine w_iast F hI hP hS (by omega) mW_s (k := 4) rfl (by omega) (Nat.le_of_ble_eq_true rfl) (C1 := mW Y ad C o kn n gr 0 (upd (upd (upd (upd (upd (upd (I_sh (60 + 5 * kp) (66 + 5 * mm) r) (61 + 5 * kp) kd) (62 + 5 * kp) v) (63 + 5 * kp) 0) (64 + 5 * kp) 0) (65 + 5 * kp) 0) 4 v15) s0) (fun q => congrFun (mW_upds (k := 4) (by omega) (by omega)) q) dX8_comes_108 (fun H locs hP hS => ?_)
    refine lv_aload_n F.1 F.2.1 dX8_comes_109 rfl (lv_at hl 1 rfl) ?_
    refine gf_X8_7 F hP (by omega) mW_o (v := .ref (ad (o + 1))) rfl dX8_comes_110 ?_
    refine lv_iconst (v := 5) F.1 F.2.1 dX8_comes_113 (by decide) ?_
    refine lv_iconst (v := 0) F.1 F.2.1 dX8_comes_114 (by decide) ?_
    refine w_iast F hI hP hS (by omega) mW_s (k := 5) rfl (by omega) (Nat.le_of_ble_eq_true rfl) (C1 := mW Y ad C o kn n gr 0 (upd (upd (upd (upd (upd (upd (upd (I_sh (60 + 5 * kp) (66 + 5 * mm) r) (61 + 5 * kp) kd) (62 + 5 * kp) v) (63 + 5 * kp) 0) (64 + 5 * kp) 0) (65 + 5 * kp) 0) 4 v15) 5 0) s0) (fun q => congrFun (mW_upds (k := 5) (by omega) (by omega)) q) dX8_comes_115 (fun H locs hP hS => ?_)
    refine lv_aload_n F.1 F.2.1 dX8_comes_116 rfl (lv_at hl 1 rfl) ?_
    refine gf_X8_7 F hP (by omega) mW_o (v := .ref (ad (o + 1))) rfl dX8_comes_117 ?_
    refine lv_iconst (v := 4) F.1 F.2.1 dX8_comes_120 (by decide) ?_
    refine w_iald F hP (by omega) mW_s (k := 4) rfl (by omega) (Nat.le_of_ble_eq_true rfl) (v := v15) (put_at (k := 4) (by omega) (by omega)) dX8_comes_121 ?_
    exact w_iret F hr hlocks hP hS dX8_comes_122 (by rw [ev15]; rw [ins_is h4c]; exact ⟨rfl, rfl⟩)
  · obtain ⟨k, rfl⟩ : ∃ q, k = q + 1 := ⟨k - 1, by omega⟩
    have hk3 : 60 + 5 * kp ≤ k := by have : 61 + 5 * kp ≤ k + 1 := Nat.le_of_not_lt (fun z => c5 (nI_lt (b := 61 + 5 * kp) z (by omega))); omega
    refine lv_aload_n F.1 F.2.1 dX8_comes_24 rfl (lv_at hl 1 rfl) ?_
    refine gf_X8_7 F hP (by omega) mW_o (v := .ref (ad (o + 1))) rfl dX8_comes_25 ?_
    refine lv_iload F.1 F.2.1 dX8_comes_28 (lv_at hl 0 rfl) ?_
    refine lv_iconst (v := 5) F.1 F.2.1 dX8_comes_30 (by decide) ?_
    refine lv_iadd F.1 F.2.1 dX8_comes_31 ?_
    refine lv_aload_n F.1 F.2.1 dX8_comes_32 rfl (lv_at hl 1 rfl) ?_
    refine gf_X8_7 F hP (by omega) mW_o (v := .ref (ad (o + 1))) rfl dX8_comes_33 ?_
    refine lv_iload F.1 F.2.1 dX8_comes_36 (lv_at hl 0 rfl) ?_
    refine w_iald F hP (by omega) mW_s (k := k + 1) rfl (by omega) (Nat.le_of_ble_eq_true rfl) (v := (I_sh (k + 1) (66 + 5 * mm) r) (1 + k)) (put_at (k := (1 + k)) (by omega) (by omega)) dX8_comes_38 ?_
    refine lv_topi (fun v16 ev16 => ?_)
    refine w_iast F hI hP hS (by omega) mW_s (k := k + 1 + 5) (ix_add (X := k + 1) (Y := 5) (Z := k + 1 + 5) rfl rfl (by omega)) (by omega) (Nat.le_of_ble_eq_true rfl) (C1 := mW Y ad C o kn n gr 0 (upd (I_sh (k + 1) (66 + 5 * mm) r) (6 + k) v16) s0) (fun q => congrFun (mW_upds (k := (6 + k)) (by omega) (by omega)) q) dX8_comes_39 (fun H locs hP hS => ?_)
    refine lv_iinc (v := (nI (k + 1)) + (-1)) (lv' := [(4, .int ((nI (k + 1)) + (-1))), (0, .ref (ad o)), (1, .int (x)), (2, .int (kd)), (3, .int (v))]) F.1 F.2.1 dX8_comes_40 hl (k := 0) rfl rfl (by decide) rfl (fun ls hl => ?_)
    refine lv_goto (tgt := 14) F.1 F.2.1 dX8_comes_43 (by decide) ?_
    have hR : upd (I_sh (k + 1) (66 + 5 * mm) r) (6 + k) v16 = I_sh k (66 + 5 * mm) r := by rw [show v16 = I_sh (k + 1) (66 + 5 * mm) r (1 + k) from ev16]; exact I_sh_s (by omega)
    exact ih _ (by omega) _ _ _ _ ⟨k, rfl, hk3, by omega, (by rw [← nI_dec k]; exact lv_sub hl [0, 1, 2, 3, 4] rfl), by rw [hR]⟩ hP hS
