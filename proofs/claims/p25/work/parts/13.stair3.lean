/-! HoopStairs$Stair.remove, RunLog.add -/
set_option maxRecDepth 20000 in
set_option maxHeartbeats 4000000 in
/-- a part goes -/
theorem c_X5_remove (l : Launch) (D : va_G) (Y : Nat → ClassId) (ad : Nat → Nat) (N : Nat) (hI : wI ad N) (C : Nat → va_E) (st : Nat) (hh : st + 6 < N) (f : Nat → Int32) (hs : isStair Y ad C st f) (kp n : Nat) (hk : kp < n) (hn : n ≤ 20) (h4 : f 4 = nI n) : Met l yX5_remove (wm yX5_remove cX5_remove 3 none) { frames := 1, cells := 0, slots := 0, locals := 24 } (wPc D Y ad N [.ref (ad st), .int (nI kp)] C) (wQv D ad N (fun C' => isStair Y ad C' st (T_remove kp f) ∧ ∀ j, j < st ∨ st + 7 ≤ j → C' j = C j)) 0 0 (wA ad N) := by
  obtain ⟨qs, hqs, hqs1⟩ := hs.2.1
  refine wMet RX5 rfl (by decide +kernel) (Nat.le_of_ble_eq_true rfl) (lv := [(0, .ref (ad st)), (1, .int (nI kp))]) rfl ?_
  intro p e s m below meth c ls F hr hlocks hP hl
  have hS : va_S (wA ad N) s.heap s.heap [] := va_S.rf
  refine lv_aload_n F.1 F.2.1 dX5_remove_0 rfl (lv_at hl 0 rfl) ?_
  refine lv_iload_n F.1 F.2.1 dX5_remove_1 rfl (lv_at hl 1 rfl) ?_
  refine w_calli F hP hS (c_X5_has l D Y ad N hI _ st (by omega) _ _ hs.1 (nI kp)) (cwVm 1 F.2.2.2.2.1 (fun _ h => h) mw_234 mw_243 mw_232 mw_233 mw_42 rfl rfl ydX5_has ⟨by decide, by decide⟩) (by omega) hs.1 rfl rfl hl.1 rfl (Nat.le_of_ble_eq_true rfl) dX5_remove_2 ⟨Nat.zero_le _, Nat.zero_le _⟩ (fun r C2 H locs hq hP hS => ?_)
  obtain ⟨hq1, hq2⟩ := hq; rw [hq1] at hP
  rw [(if_pos ⟨nI_pos' (by omega), (by rw [h4]; exact nI_lt hk (by omega)), nI_lt (show kp < 20 by omega) (by decide)⟩)] at hq2; subst hq2
  refine lv_if_ne (tgt := 9) F.1 F.2.1 dX5_remove_5 (by decide) (fun c1 => ?_) (fun c1 => False.elim (absurd c1 (by decide)))
  refine lv_iconst (v := 0) F.1 F.2.1 dX5_remove_9 (by decide) ?_
  refine lv_istore_n (lv' := [(2, .int (0)), (0, .ref (ad st)), (1, .int (nI kp))]) F.1 F.2.1 dX5_remove_10 rfl hl (by decide) rfl (fun ls hl => ?_)
  refine w_loop (Inv := fun j ls C' => ∃ i : Nat, j = 5 - i ∧ i ≤ 5 ∧ lv_has ls 3 [(2, .int (nI i)), (0, .ref (ad st)), (1, .int (nI kp))] ∧ isGrid Y C' (st + 2) 5 20 (fun c k => if c < i then (if kp ≤ k ∧ k + 1 < n then f (61 + 5 * (k + 1) + c) else f (61 + 5 * k + c)) else f (61 + 5 * k + c)) ∧ (∀ j, j < st + 2 ∨ st + 7 ≤ j → C' j = C j)) ?_ 5 ⟨0, rfl, by decide, lv_sub hl [0, 1, 2] rfl, isGrid_congr hs.2.2 (fun c k _ _ => by rw [if_neg (Nat.not_lt_zero c)]), fun _ _ => rfl⟩ hP hS
  intro j ih H locs ls C1 hInv hP hS
  obtain ⟨i, hi, hi5, hl, hG, hO⟩ := hInv
  have g1 : C1 st = .inr (5, [.ref (ad (st + 1)), .int (f 4)]) := (hO _ (by omega)).trans hs.1
  have g3 : C1 (st + 1) = .inl (Y 3, 5, .inr (.inr (.inr (.inr qs)))) := (hO _ (by omega)).trans hqs
  refine lv_iload_n F.1 F.2.1 dX5_remove_11 rfl (lv_at hl 0 rfl) ?_
  refine lv_iconst (v := 5) F.1 F.2.1 dX5_remove_12 (by decide) ?_
  refine lv_icmp_ge (tgt := 49) F.1 F.2.1 dX5_remove_13 (by decide) (fun c2 => ?_) (fun c2 => ?_)
  · have hin : ¬ i < 5 := fun q => nI_ge (b := 5) q (by decide) c2
    have hG : isGrid Y C1 (st + 2) 5 20 (fun c k => (if kp ≤ k ∧ k + 1 < n then f (61 + 5 * (k + 1) + c) else f (61 + 5 * k + c))) := isGrid_congr hG (fun c k hc _ => by rw [if_pos (by omega)])
    refine lv_aload_n F.1 F.2.1 dX5_remove_49 rfl (lv_at hl 1 rfl) ?_
    refine lv_dup F.1 F.2.1 dX5_remove_50 rfl ?_
    refine gf_X5_14 F hP (by omega) g1 (v := .int (f 4)) rfl dX5_remove_51 ?_
    refine lv_iconst (v := 1) F.1 F.2.1 dX5_remove_54 (by decide) ?_
    refine lv_isub F.1 F.2.1 dX5_remove_55 ?_
    refine pf_X5_14 F hI hP hS (by omega) g1 (Nat.le_of_ble_eq_true rfl) up_rfl dX5_remove_56 (fun H locs hP hS => ?_)
    exact w_vret F hr hlocks hP hS dX5_remove_59 ⟨⟨va_up_self _ _ _, ⟨qs, by rw [va_up_ne _ _ (by omega)]; exact g3, hqs1⟩, isGrid_off (isGrid_congr hG (fun c k hc hkk => (rem_col h4 hn hk hc hkk).symm)) (by omega)⟩, fun j hj => by rw [va_up_ne _ _ (by omega)]; exact hO j (by omega)⟩
  · have hin : i < 5 := by have q := i_lt c2; exact Nat.not_le.mp (fun z => i_nlt (nI_le z (by omega)) q)
    obtain ⟨q5, h5, h6⟩ := hG i hin
    have h6 : ∀ k, k < 20 → q5 k = f (61 + 5 * k + i) := fun k hk => (h6 k hk).trans (if_neg (Nat.lt_irrefl i))
    refine lv_aload_n F.1 F.2.1 dX5_remove_16 rfl (lv_at hl 1 rfl) ?_
    refine gf_X5_11 F hP (by omega) g1 (v := .ref (ad (st + 1))) rfl dX5_remove_17 ?_
    refine lv_iload_n F.1 F.2.1 dX5_remove_20 rfl (lv_at hl 0 rfl) ?_
    refine w_gald F hP (by omega) g3 (k := i) rfl hin (Nat.le_of_ble_eq_true rfl) (v := ad (st + 2 + i)) (hqs1 i hin) dX5_remove_21 ?_
    refine lv_iload_n F.1 F.2.1 dX5_remove_22 rfl (lv_at hl 2 rfl) ?_
    refine lv_iconst (v := 1) F.1 F.2.1 dX5_remove_23 (by decide) ?_
    refine lv_iadd F.1 F.2.1 dX5_remove_24 ?_
    refine lv_aload_n F.1 F.2.1 dX5_remove_25 rfl (lv_at hl 1 rfl) ?_
    refine gf_X5_11 F hP (by omega) g1 (v := .ref (ad (st + 1))) rfl dX5_remove_26 ?_
    refine lv_iload_n F.1 F.2.1 dX5_remove_29 rfl (lv_at hl 0 rfl) ?_
    refine w_gald F hP (by omega) g3 (k := i) rfl hin (Nat.le_of_ble_eq_true rfl) (v := ad (st + 2 + i)) (hqs1 i hin) dX5_remove_30 ?_
    refine lv_iload_n F.1 F.2.1 dX5_remove_31 rfl (lv_at hl 2 rfl) ?_
    refine lv_aload_n F.1 F.2.1 dX5_remove_32 rfl (lv_at hl 1 rfl) ?_
    refine gf_X5_14 F hP (by omega) g1 (v := .int (f 4)) rfl dX5_remove_33 ?_
    refine lv_iload_n F.1 F.2.1 dX5_remove_36 rfl (lv_at hl 2 rfl) ?_
    refine lv_isub F.1 F.2.1 dX5_remove_37 ?_
    refine lv_iconst (v := 1) F.1 F.2.1 dX5_remove_38 (by decide) ?_
    refine lv_isub F.1 F.2.1 dX5_remove_39 ?_
    refine w_acpy F hI hl.1 hP hS mw_146 (h0 := st + 2 + i) (h1 := st + 2 + i) (by omega) (by omega) h5 h5 (a := kp + 1) (b := kp) (k := n - kp - 1) (nI_succ kp).symm rfl (by rw [h4, pk_sub (by omega)]; exact pk_sub (b := 1) (by omega)) (by omega) (by omega) (by decide) (by decide) (by decide) (Nat.le_of_ble_eq_true rfl) up_rfl dX5_remove_40 (fun H locs hP hS => ?_)
    have hG2 : isGrid Y (va_up C1 (st + 2 + i) (.inl (Y 0, 20, .inl (va_cpy q5 q5 (kp + 1) kp (n - kp - 1))))) (st + 2) 5 20 (fun c k => if c < i + 1 then (if kp ≤ k ∧ k + 1 < n then f (61 + 5 * (k + 1) + c) else f (61 + 5 * k + c)) else f (61 + 5 * k + c)) := isGrid_up hG (fun k hkk => by
        rw [if_pos (Nat.lt_succ_self i)]
        by_cases b : kp ≤ k ∧ k + 1 < n
        · rw [if_pos b, pk_cpy_in (by omega) (by omega), h6 _ (by omega), show kp + 1 + (k - kp) = k + 1 by omega]
        · rw [if_neg b, pk_cpy_out (by omega), h6 _ hkk]) (fun c k hc hne hkk => by by_cases q : c < i <;> simp only [q, if_true, if_false] <;> first | rw [if_pos (by omega)] | rw [if_neg (by omega)])
    have hO2 : ∀ j, j < st + 2 ∨ st + 7 ≤ j → va_up C1 (st + 2 + i) (.inl (Y 0, 20, .inl (va_cpy q5 q5 (kp + 1) kp (n - kp - 1)))) j = C j := fun j hj => by rw [va_up_ne _ _ (by omega)]; exact hO j hj
    refine lv_iinc (v := (nI i) + 1) (lv' := [(2, .int ((nI i) + 1)), (0, .ref (ad st)), (1, .int (nI kp))]) F.1 F.2.1 dX5_remove_43 hl (k := 0) rfl rfl (by decide) rfl (fun ls hl => ?_)
    refine lv_goto (tgt := 11) F.1 F.2.1 dX5_remove_46 (by decide) ?_
    exact ih _ (by omega) _ _ _ _ ⟨i + 1, rfl, by omega, (by rw [nI_succ]; exact lv_sub hl [0, 1, 2] rfl), hG2, hO2⟩ hP hS
def hv4 (f : Nat → Int32) (c : Nat) : Int32 := if c = 0 then f 6 else if c = 1 then f 11 else if c = 2 then f 10 else f 12
theorem lists_col {f : Nat → Int32} {c k : Nat} (hc : c < 4) (hk : k < 10) : T_lists f (21 + 4 * k + c) = if k = 0 then hv4 f c else f (21 + 4 * (k - 1) + c) := by
  unfold T_lists hv4
  rw [if_neg (by omega)]
  by_cases a : k = 0
  · rw [if_pos a]
    by_cases b0 : c = 0
    · rw [if_pos (by omega), if_pos b0]
    · rw [if_neg (by omega), if_neg b0]
      by_cases b1 : c = 1
      · rw [if_pos (by omega), if_pos b1]
      · rw [if_neg (by omega), if_neg b1]
        by_cases b2 : c = 2
        · rw [if_pos (by omega), if_pos b2]
        · rw [if_neg (by omega), if_neg b2, if_pos (by omega)]
  · rw [if_neg a, if_neg (by omega), if_neg (by omega), if_neg (by omega), if_neg (by omega), if_pos (by omega)]
    exact congrArg f (by omega)
theorem lists_len {f : Nat → Int32} (h0 : 0 ≤ (f 20).toInt) (h1 : (f 20).toInt ≤ 10) : (if f 20 + 1 < 10 then f 20 + 1 else 10) = T_lists f 20 := by
  have e1 : (1 : Int32).toInt = 1 := rfl
  have e10 : (10 : Int32).toInt = 10 := rfl
  have e0 : (0 : Int32).toInt = 0 := rfl
  have p : (f 20 + 1).toInt = (f 20).toInt + 1 := i_add (by rw [e1]; omega) (by rw [e1]; omega)
  show _ = f 20 + (if f 20 < 10 then 1 else 0)
  by_cases a : f 20 < 10
  · rw [if_pos a]
    have a' := Int32.lt_iff_toInt_lt.mp a
    rw [e10] at a'
    by_cases b : f 20 + 1 < 10
    · rw [if_pos b]
    · rw [if_neg b]
      rw [Int32.lt_iff_toInt_lt, p, e10] at b
      apply Int32.toInt_inj.mp
      rw [p, e10]
      omega
  · rw [if_neg a]
    rw [Int32.lt_iff_toInt_lt, e10] at a
    rw [if_neg (by rw [Int32.lt_iff_toInt_lt, p, e10]; omega)]
    apply Int32.toInt_inj.mp
    rw [i_add (by rw [e0]; omega) (by rw [e0]; omega), e10, e0]
    omega
set_option maxRecDepth 20000 in
set_option maxHeartbeats 4000000 in
/-- a run is listed -/
theorem c_X3_add (l : Launch) (D : va_G) (Y : Nat → ClassId) (ad : Nat → Nat) (N : Nat) (hI : wI ad N) (C : Nat → va_E) (st : Nat) (hh : st + 5 < N) (f : Nat → Int32) (hs : isLog Y ad C st f) (h : Nat) (hh2 : h < N) (hd : h < st ∨ st + 6 ≤ h) (g : Int32) (hH : C h = hpR f g) (h20 : 0 ≤ (f 20).toInt) (h20b : (f 20).toInt ≤ 10) : Met l yX3_add (wm yX3_add cX3_add 3 none) { frames := 1, cells := 0, slots := 0, locals := 24 } (wPc D Y ad N [.ref (ad st), .ref (ad h)] C) (wQv D ad N (fun C' => isLog Y ad C' st (T_lists f) ∧ ∀ j, j < st ∨ st + 6 ≤ j → C' j = C j)) 0 0 (wA ad N) := by
  obtain ⟨qs, hqs, hqs1⟩ := hs.2.1
  refine wMet RX3 rfl (by decide +kernel) (Nat.le_of_ble_eq_true rfl) (lv := [(0, .ref (ad st)), (1, .ref (ad h))]) rfl ?_
  intro p e s m below meth c ls F hr hlocks hP hl
  have hS : va_S (wA ad N) s.heap s.heap [] := va_S.rf
  refine lv_iconst (v := 0) F.1 F.2.1 dX3_add_0 (by decide) ?_
  refine lv_istore_n (lv' := [(2, .int (0)), (0, .ref (ad st)), (1, .ref (ad h))]) F.1 F.2.1 dX3_add_1 rfl hl (by decide) rfl (fun ls hl => ?_)
  refine w_loop (Inv := fun j ls C' => ∃ i : Nat, j = 4 - i ∧ i ≤ 4 ∧ lv_has ls 3 [(2, .int (nI i)), (0, .ref (ad st)), (1, .ref (ad h))] ∧ isGrid Y C' (st + 2) 4 10 (fun c k => if c < i then (if 1 ≤ k then f (21 + 4 * (k - 1) + c) else f (21 + 4 * k + c)) else f (21 + 4 * k + c)) ∧ (∀ j, j < st + 2 ∨ st + 6 ≤ j → C' j = C j)) ?_ 4 ⟨0, rfl, by decide, lv_sub hl [0, 1, 2] rfl, isGrid_congr hs.2.2 (fun c k _ _ => by rw [if_neg (Nat.not_lt_zero c)]), fun _ _ => rfl⟩ hP hS
  intro j ih H locs ls C1 hInv hP hS
  obtain ⟨i, hi, hi5, hl, hG, hO⟩ := hInv
  have g1 : C1 st = .inr (3, [.ref (ad (st + 1)), .int (f 20)]) := (hO _ (by omega)).trans hs.1
  have g3 : C1 (st + 1) = .inl (Y 3, 4, .inr (.inr (.inr (.inr qs)))) := (hO _ (by omega)).trans hqs
  have gh : C1 h = hpR f g := (hO _ (by omega)).trans hH
  refine lv_iload_n F.1 F.2.1 dX3_add_2 rfl (lv_at hl 0 rfl) ?_
  refine lv_iconst (v := 4) F.1 F.2.1 dX3_add_3 (by decide) ?_
  refine lv_icmp_ge (tgt := 32) F.1 F.2.1 dX3_add_4 (by decide) (fun c1 => ?_) (fun c1 => ?_)
  · have hin : ¬ i < 4 := fun q => nI_ge (b := 4) q (by decide) c1
    have hG : isGrid Y C1 (st + 2) 4 10 (fun c k => (if 1 ≤ k then f (21 + 4 * (k - 1) + c) else f (21 + 4 * k + c))) := isGrid_congr hG (fun c k hc _ => by rw [if_pos (by omega)])
    obtain ⟨p0, a0, b0⟩ := hG 0 (by decide)
    refine lv_aload_n F.1 F.2.1 dX3_add_32 rfl (lv_at hl 1 rfl) ?_
    refine gf_X3_11 F hP (by omega) g1 (v := .ref (ad (st + 1))) rfl dX3_add_33 ?_
    refine lv_iconst (v := 0) F.1 F.2.1 dX3_add_36 (by decide) ?_
    refine w_gald F hP (by omega) g3 (k := 0) rfl (by decide) (Nat.le_of_ble_eq_true rfl) (v := ad (st + 2 + 0)) (hqs1 0 (by decide)) dX3_add_37 ?_
    refine lv_iconst (v := 0) F.1 F.2.1 dX3_add_38 (by decide) ?_
    refine lv_aload_n F.1 F.2.1 dX3_add_39 rfl (lv_at hl 2 rfl) ?_
    refine gf_X3_28 F hP hh2 gh (v := .int (f 6)) rfl dX3_add_40 ?_
    obtain ⟨D1, eD1⟩ : ∃ z, z = va_up C1 (st + 2 + 0) (.inl (Y 0, 10, .inl (upd p0 0 (f 6)))) := ⟨_, rfl⟩
    refine w_iast F hI hP hS (by omega) a0 (k := 0) rfl (by decide) (by decide) (C1 := D1) (fun j => by rw [eD1]) dX3_add_43 (fun H locs hP hS => ?_)
    have hG1 : isGrid Y D1 (st + 2) 4 10 (fun c k => if k = 0 ∧ c < 1 then hv4 f c else if 1 ≤ k then f (21 + 4 * (k - 1) + c) else f (21 + 4 * k + c)) := by
      rw [eD1]
      refine isGrid_up hG (fun k hkk => ?_) (fun c k hc hne hkk => ?_)
      · by_cases a : k = 0
        · rw [if_pos ⟨a, by decide⟩, a, upd_s]; rfl
        · rw [if_neg (show ¬ (k = 0 ∧ 0 < 1) from fun z => a z.1), upd_n a]; exact b0 k hkk
      · rw [if_neg (show ¬ (k = 0 ∧ c < 1) by omega)]
    have g1_1 : D1 st = .inr (3, [.ref (ad (st + 1)), .int (f 20)]) := by rw [eD1, va_up_ne _ _ (by omega)]; exact g1
    have g3_1 : D1 (st + 1) = .inl (Y 3, 4, .inr (.inr (.inr (.inr qs)))) := by rw [eD1, va_up_ne _ _ (by omega)]; exact g3
    have gh_1 : D1 h = hpR f g := by rw [eD1, va_up_ne _ _ (by omega)]; exact gh
    have hO_1 : ∀ j, j < st + 2 ∨ st + 6 ≤ j → D1 j = C j := fun j hj => by rw [eD1, va_up_ne _ _ (by omega)]; exact hO j hj
    obtain ⟨p1, a1, b1⟩ := hG1 1 (by decide)
    refine lv_aload_n F.1 F.2.1 dX3_add_44 rfl (lv_at hl 1 rfl) ?_
    refine gf_X3_11 F hP (by omega) g1_1 (v := .ref (ad (st + 1))) rfl dX3_add_45 ?_
    refine lv_iconst (v := 1) F.1 F.2.1 dX3_add_48 (by decide) ?_
    refine w_gald F hP (by omega) g3_1 (k := 1) rfl (by decide) (Nat.le_of_ble_eq_true rfl) (v := ad (st + 2 + 1)) (hqs1 1 (by decide)) dX3_add_49 ?_
    refine lv_iconst (v := 0) F.1 F.2.1 dX3_add_50 (by decide) ?_
    refine lv_aload_n F.1 F.2.1 dX3_add_51 rfl (lv_at hl 2 rfl) ?_
    refine gf_X3_33 F hP hh2 gh_1 (v := .int (f 11)) rfl dX3_add_52 ?_
    obtain ⟨D2, eD2⟩ : ∃ z, z = va_up D1 (st + 2 + 1) (.inl (Y 0, 10, .inl (upd p1 0 (f 11)))) := ⟨_, rfl⟩
    refine w_iast F hI hP hS (by omega) a1 (k := 0) rfl (by decide) (by decide) (C1 := D2) (fun j => by rw [eD2]) dX3_add_55 (fun H locs hP hS => ?_)
    have hG2 : isGrid Y D2 (st + 2) 4 10 (fun c k => if k = 0 ∧ c < 2 then hv4 f c else if 1 ≤ k then f (21 + 4 * (k - 1) + c) else f (21 + 4 * k + c)) := by
      rw [eD2]
      refine isGrid_up hG1 (fun k hkk => ?_) (fun c k hc hne hkk => ?_)
      · by_cases a : k = 0
        · rw [if_pos ⟨a, by decide⟩, a, upd_s]; rfl
        · rw [if_neg (show ¬ (k = 0 ∧ 1 < 2) from fun z => a z.1), upd_n a]; exact (b1 k hkk).trans (if_neg (fun z => a z.1))
      · show _ = if k = 0 ∧ c < 1 then hv4 f c else if 1 ≤ k then f (21 + 4 * (k - 1) + c) else f (21 + 4 * k + c)
        by_cases a : k = 0 ∧ c < 1
        · rw [if_pos a, if_pos (show k = 0 ∧ c < 2 by omega)]
        · rw [if_neg a, if_neg (show ¬ (k = 0 ∧ c < 2) by omega)]
    have g1_2 : D2 st = .inr (3, [.ref (ad (st + 1)), .int (f 20)]) := by rw [eD2, va_up_ne _ _ (by omega)]; exact g1_1
    have g3_2 : D2 (st + 1) = .inl (Y 3, 4, .inr (.inr (.inr (.inr qs)))) := by rw [eD2, va_up_ne _ _ (by omega)]; exact g3_1
    have gh_2 : D2 h = hpR f g := by rw [eD2, va_up_ne _ _ (by omega)]; exact gh_1
    have hO_2 : ∀ j, j < st + 2 ∨ st + 6 ≤ j → D2 j = C j := fun j hj => by rw [eD2, va_up_ne _ _ (by omega)]; exact hO_1 j hj
    obtain ⟨p2, a2, b2⟩ := hG2 2 (by decide)
    refine lv_aload_n F.1 F.2.1 dX3_add_56 rfl (lv_at hl 1 rfl) ?_
    refine gf_X3_11 F hP (by omega) g1_2 (v := .ref (ad (st + 1))) rfl dX3_add_57 ?_
    refine lv_iconst (v := 2) F.1 F.2.1 dX3_add_60 (by decide) ?_
    refine w_gald F hP (by omega) g3_2 (k := 2) rfl (by decide) (Nat.le_of_ble_eq_true rfl) (v := ad (st + 2 + 2)) (hqs1 2 (by decide)) dX3_add_61 ?_
    refine lv_iconst (v := 0) F.1 F.2.1 dX3_add_62 (by decide) ?_
    refine lv_aload_n F.1 F.2.1 dX3_add_63 rfl (lv_at hl 2 rfl) ?_
    refine gf_X3_36 F hP hh2 gh_2 (v := .int (f 10)) rfl dX3_add_64 ?_
    obtain ⟨D3, eD3⟩ : ∃ z, z = va_up D2 (st + 2 + 2) (.inl (Y 0, 10, .inl (upd p2 0 (f 10)))) := ⟨_, rfl⟩
    refine w_iast F hI hP hS (by omega) a2 (k := 0) rfl (by decide) (by decide) (C1 := D3) (fun j => by rw [eD3]) dX3_add_67 (fun H locs hP hS => ?_)
    have hG3 : isGrid Y D3 (st + 2) 4 10 (fun c k => if k = 0 ∧ c < 3 then hv4 f c else if 1 ≤ k then f (21 + 4 * (k - 1) + c) else f (21 + 4 * k + c)) := by
      rw [eD3]
      refine isGrid_up hG2 (fun k hkk => ?_) (fun c k hc hne hkk => ?_)
      · by_cases a : k = 0
        · rw [if_pos ⟨a, by decide⟩, a, upd_s]; rfl
        · rw [if_neg (show ¬ (k = 0 ∧ 2 < 3) from fun z => a z.1), upd_n a]; exact (b2 k hkk).trans (if_neg (fun z => a z.1))
      · show _ = if k = 0 ∧ c < 2 then hv4 f c else if 1 ≤ k then f (21 + 4 * (k - 1) + c) else f (21 + 4 * k + c)
        by_cases a : k = 0 ∧ c < 2
        · rw [if_pos a, if_pos (show k = 0 ∧ c < 3 by omega)]
        · rw [if_neg a, if_neg (show ¬ (k = 0 ∧ c < 3) by omega)]
    have g1_3 : D3 st = .inr (3, [.ref (ad (st + 1)), .int (f 20)]) := by rw [eD3, va_up_ne _ _ (by omega)]; exact g1_2
    have g3_3 : D3 (st + 1) = .inl (Y 3, 4, .inr (.inr (.inr (.inr qs)))) := by rw [eD3, va_up_ne _ _ (by omega)]; exact g3_2
    have gh_3 : D3 h = hpR f g := by rw [eD3, va_up_ne _ _ (by omega)]; exact gh_2
    have hO_3 : ∀ j, j < st + 2 ∨ st + 6 ≤ j → D3 j = C j := fun j hj => by rw [eD3, va_up_ne _ _ (by omega)]; exact hO_2 j hj
    obtain ⟨p3, a3, b3⟩ := hG3 3 (by decide)
    refine lv_aload_n F.1 F.2.1 dX3_add_68 rfl (lv_at hl 1 rfl) ?_
    refine gf_X3_11 F hP (by omega) g1_3 (v := .ref (ad (st + 1))) rfl dX3_add_69 ?_
    refine lv_iconst (v := 3) F.1 F.2.1 dX3_add_72 (by decide) ?_
    refine w_gald F hP (by omega) g3_3 (k := 3) rfl (by decide) (Nat.le_of_ble_eq_true rfl) (v := ad (st + 2 + 3)) (hqs1 3 (by decide)) dX3_add_73 ?_
    refine lv_iconst (v := 0) F.1 F.2.1 dX3_add_74 (by decide) ?_
    refine lv_aload_n F.1 F.2.1 dX3_add_75 rfl (lv_at hl 2 rfl) ?_
    refine gf_X3_39 F hP hh2 gh_3 (v := .int (f 12)) rfl dX3_add_76 ?_
    obtain ⟨D4, eD4⟩ : ∃ z, z = va_up D3 (st + 2 + 3) (.inl (Y 0, 10, .inl (upd p3 0 (f 12)))) := ⟨_, rfl⟩
    refine w_iast F hI hP hS (by omega) a3 (k := 0) rfl (by decide) (by decide) (C1 := D4) (fun j => by rw [eD4]) dX3_add_79 (fun H locs hP hS => ?_)
    have hG4 : isGrid Y D4 (st + 2) 4 10 (fun c k => if k = 0 ∧ c < 4 then hv4 f c else if 1 ≤ k then f (21 + 4 * (k - 1) + c) else f (21 + 4 * k + c)) := by
      rw [eD4]
      refine isGrid_up hG3 (fun k hkk => ?_) (fun c k hc hne hkk => ?_)
      · by_cases a : k = 0
        · rw [if_pos ⟨a, by decide⟩, a, upd_s]; rfl
        · rw [if_neg (show ¬ (k = 0 ∧ 3 < 4) from fun z => a z.1), upd_n a]; exact (b3 k hkk).trans (if_neg (fun z => a z.1))
      · show _ = if k = 0 ∧ c < 3 then hv4 f c else if 1 ≤ k then f (21 + 4 * (k - 1) + c) else f (21 + 4 * k + c)
        by_cases a : k = 0 ∧ c < 3
        · rw [if_pos a, if_pos (show k = 0 ∧ c < 4 by omega)]
        · rw [if_neg a, if_neg (show ¬ (k = 0 ∧ c < 4) by omega)]
    have g1_4 : D4 st = .inr (3, [.ref (ad (st + 1)), .int (f 20)]) := by rw [eD4, va_up_ne _ _ (by omega)]; exact g1_3
    have g3_4 : D4 (st + 1) = .inl (Y 3, 4, .inr (.inr (.inr (.inr qs)))) := by rw [eD4, va_up_ne _ _ (by omega)]; exact g3_3
    have gh_4 : D4 h = hpR f g := by rw [eD4, va_up_ne _ _ (by omega)]; exact gh_3
    have hO_4 : ∀ j, j < st + 2 ∨ st + 6 ≤ j → D4 j = C j := fun j hj => by rw [eD4, va_up_ne _ _ (by omega)]; exact hO_3 j hj
    refine lv_aload_n F.1 F.2.1 dX3_add_80 rfl (lv_at hl 1 rfl) ?_
    refine lv_bipush (v := 10) F.1 F.2.1 dX3_add_81 (by decide) ?_
    refine lv_aload_n F.1 F.2.1 dX3_add_83 rfl (lv_at hl 1 rfl) ?_
    refine gf_X3_14 F hP (by omega) g1_4 (v := .int (f 20)) rfl dX3_add_84 ?_
    refine lv_iconst (v := 1) F.1 F.2.1 dX3_add_87 (by decide) ?_
    refine lv_iadd F.1 F.2.1 dX3_add_88 ?_
    refine w_min F hl.1 mw_349 (by decide) (Nat.le_of_ble_eq_true rfl) ⟨Nat.zero_le _, Nat.zero_le _⟩ dX3_add_89 ?_
    refine lv_topi (fun v2 ev2 => ?_)
    have ev2 : v2 = T_lists f 20 := ev2.trans (lists_len h20 h20b)
    subst ev2
    refine pf_X3_14 F hI hP hS (by omega) g1_4 (Nat.le_of_ble_eq_true rfl) up_rfl dX3_add_92 (fun H locs hP hS => ?_)
    exact w_vret F hr hlocks hP hS dX3_add_95 ⟨⟨va_up_self _ _ _, ⟨qs, by rw [va_up_ne _ _ (by omega)]; exact g3_4, hqs1⟩, isGrid_off (isGrid_congr hG4 (fun c k hc hkk => by rw [lists_col hc hkk]; by_cases a : k = 0 <;> simp only [a, true_and, false_and, if_false, if_true, hc] <;> rw [if_pos (by omega)])) (by omega)⟩, fun j hj => by rw [va_up_ne _ _ (by omega)]; exact hO_4 j (by omega)⟩
  · have hin : i < 4 := by have q := i_lt c1; exact Nat.not_le.mp (fun z => i_nlt (nI_le z (by omega)) q)
    obtain ⟨q5, h5, h6⟩ := hG i hin
    have h6 : ∀ k, k < 10 → q5 k = f (21 + 4 * k + i) := fun k hk => (h6 k hk).trans (if_neg (Nat.lt_irrefl i))
    refine lv_aload_n F.1 F.2.1 dX3_add_7 rfl (lv_at hl 1 rfl) ?_
    refine gf_X3_11 F hP (by omega) g1 (v := .ref (ad (st + 1))) rfl dX3_add_8 ?_
    refine lv_iload_n F.1 F.2.1 dX3_add_11 rfl (lv_at hl 0 rfl) ?_
    refine w_gald F hP (by omega) g3 (k := i) rfl hin (Nat.le_of_ble_eq_true rfl) (v := ad (st + 2 + i)) (hqs1 i hin) dX3_add_12 ?_
    refine lv_iconst (v := 0) F.1 F.2.1 dX3_add_13 (by decide) ?_
    refine lv_aload_n F.1 F.2.1 dX3_add_14 rfl (lv_at hl 1 rfl) ?_
    refine gf_X3_11 F hP (by omega) g1 (v := .ref (ad (st + 1))) rfl dX3_add_15 ?_
    refine lv_iload_n F.1 F.2.1 dX3_add_18 rfl (lv_at hl 0 rfl) ?_
    refine w_gald F hP (by omega) g3 (k := i) rfl hin (Nat.le_of_ble_eq_true rfl) (v := ad (st + 2 + i)) (hqs1 i hin) dX3_add_19 ?_
    refine lv_iconst (v := 1) F.1 F.2.1 dX3_add_20 (by decide) ?_
    refine lv_bipush (v := 9) F.1 F.2.1 dX3_add_21 (by decide) ?_
    refine w_acpy F hI hl.1 hP hS mw_164 (h0 := st + 2 + i) (h1 := st + 2 + i) (by omega) (by omega) h5 h5 (a := 0) (b := 1) (k := 9) rfl rfl rfl (by decide) (by decide) (by decide) (by decide) (by decide) (Nat.le_of_ble_eq_true rfl) up_rfl dX3_add_23 (fun H locs hP hS => ?_)
    have hG2 : isGrid Y (va_up C1 (st + 2 + i) (.inl (Y 0, 10, .inl (va_cpy q5 q5 0 1 9)))) (st + 2) 4 10 (fun c k => if c < i + 1 then (if 1 ≤ k then f (21 + 4 * (k - 1) + c) else f (21 + 4 * k + c)) else f (21 + 4 * k + c)) := isGrid_up hG (fun k hkk => by
        rw [if_pos (Nat.lt_succ_self i)]
        by_cases b : 1 ≤ k
        · rw [if_pos b, pk_cpy_in (by omega) (by omega), h6 _ (by omega), show 0 + (k - 1) = k - 1 by omega]
        · rw [if_neg b, pk_cpy_out (by omega), h6 _ hkk]) (fun c k hc hne hkk => by by_cases q : c < i <;> simp only [q, if_true, if_false] <;> first | rw [if_pos (by omega)] | rw [if_neg (by omega)])
    have hO2 : ∀ j, j < st + 2 ∨ st + 6 ≤ j → va_up C1 (st + 2 + i) (.inl (Y 0, 10, .inl (va_cpy q5 q5 0 1 9))) j = C j := fun j hj => by rw [va_up_ne _ _ (by omega)]; exact hO j hj
    refine lv_iinc (v := (nI i) + 1) (lv' := [(2, .int ((nI i) + 1)), (0, .ref (ad st)), (1, .ref (ad h))]) F.1 F.2.1 dX3_add_26 hl (k := 0) rfl rfl (by decide) rfl (fun ls hl => ?_)
    refine lv_goto (tgt := 2) F.1 F.2.1 dX3_add_29 (by decide) ?_
    exact ih _ (by omega) _ _ _ _ ⟨i + 1, rfl, by omega, (by rw [nI_succ]; exact lv_sub hl [0, 1, 2] rfl), hG2, hO2⟩ hP hS

